/-! ===== THE RULE: signs and faults ===== -/
def RU (μ : MM) : Prop := (μ 55 8 = μ 17 1 ∧ 0 ≤ μ 17 1 ∧ μ 17 1 ≤ 40) ∧ PR 18 61 40 0 126 μ
def LawU (κ : KX) (cx cm : MX) (As : List AV) (μ : MM) (ν : ML) : Prop := LawX (fun μ2 ν2 => ν2 = ν ∧ RU μ2 ∧ SR [17, 18, 55, 61] μ μ2 ∧ SF [8] μ μ2 ∧ (∀ j : Int, j ≠ 1 → μ2 17 j = μ 17 j)) κ cx cm As μ ν
theorem c_addSign {κ : KX} {μ : MM} {ν : ML} {s : Int} (hn : 0 ≤ μ 17 1 ∧ μ 17 1 < 40) : AE κ 0 mX8_addSign [aR 17, aI s] μ ν (some (aI (μ 17 1 + 1))) (up (up μ 18 (μ 17 1) s) 17 1 (μ 17 1 + 1)) ν := by
  refine AMet.of kX8_addSign.1 (Nat.le_of_ble_eq_true rfl) rfl ?_
  refine aw_blk oX8_addSign_0 (pc' := 24) (ls' := [_, _]) (st' := [_]) (cs := [(_, _)]) rfl (⟨⟨by omega, by omega⟩, trivial⟩) ?_
  refine aw_iret eX8_addSign_24 rfl (Nat.le_refl _) (Nat.le_refl _) ?_
  exact pe_i rfl rfl rfl
theorem c_dropSigns {κ : KX} {μ : MM} {ν : ML} : AE κ 0 mX8_dropSigns [aR 17] μ ν (some (aI (μ 17 1))) (up μ 17 1 0) ν := by
  refine AMet.of kX8_dropSigns.1 (Nat.le_of_ble_eq_true rfl) rfl ?_
  refine aw_blk oX8_dropSigns_0 (pc' := 11) (ls' := [_, _]) (st' := [_]) (cs := []) rfl trivial ?_
  refine aw_iret eX8_dropSigns_11 rfl (Nat.le_refl _) (Nat.le_refl _) ?_
  exact pe_i rfl rfl rfl
theorem law_wipe {κ : KX} {μ : MM} {ν : ML} (h : RU μ) : LawU κ mX11_wipe mX12_wipe [] μ ν := by
  obtain ⟨a, b⟩ := id h
  refine ⟨μ 17 1, up μ 17 1 0, ν, up (up μ 17 1 0) 55 8 0, ?_, ?_, by omega, rfl, ⟨⟨rfl, (by decide : (0 : Int) ≤ 0), (by decide : (0 : Int) ≤ 40)⟩, b⟩, SR.two.sub (by decide), ?_, ?_⟩
  · refine AMet.of kX11_wipe.1 (Nat.le_of_ble_eq_true rfl) rfl ?_
    refine aw_blk oX11_wipe_0 (pc' := 4) (ls' := [_]) (st' := [_]) (cs := []) rfl trivial ?_
    refine aw_ciV (rest := []) (c_dropSigns) kX8_dropSigns eX11_wipe_4 lX11_wipe_4 rfl rfl rfl rfl (Nat.le_of_ble_eq_true rfl) ⟨Nat.le_of_ble_eq_true rfl, Nat.le_of_ble_eq_true rfl⟩ ⟨Nat.le_refl _, Nat.le_refl _⟩ ?_
    refine aw_iret eX11_wipe_7 rfl (Nat.le_refl _) (Nat.le_refl _) ?_
    exact pe_i rfl rfl rfl
  · refine AMet.of kX12_wipe.1 (Nat.le_of_ble_eq_true rfl) rfl ?_
    refine aw_blk oX12_wipe_0 (pc' := 11) (ls' := [_, _]) (st' := [_]) (cs := []) rfl trivial ?_
    refine aw_iret eX12_wipe_11 rfl (Nat.le_refl _) (Nat.le_refl _) ?_
    exact pe_i a.1 rfl rfl
  · intro j hj
    rw [up_ne (Or.inr (fun e => hj (by rw [e]; decide)))]
    rfl
  · intro j hj
    rw [up_ne (Or.inl (by decide)), up_ne (Or.inr hj)]
theorem law_say {κ : KX} {μ : MM} {ν : ML} {s : Int} (h : RU μ) (hs : R32 s) : LawU κ mX11_say mX12_say [aI s] μ ν := by
  obtain ⟨a, b⟩ := id h
  by_cases c1 : 33 ≤ s ∧ s ≤ 126
  · by_cases c2 : μ 17 1 = 40
    · refine ⟨-4, μ, ν, μ, ?_, ?_, by decide, rfl, h, SR.rf, fun _ _ => rfl, fun _ _ => rfl⟩
      · refine AMet.of kX11_say.1 (Nat.le_of_ble_eq_true rfl) rfl ?_
        refine aw_blk oX11_say_0 (pc' := 5) (ls' := [_, _]) (st' := [_, _, _]) (cs := []) rfl trivial ?_
        refine aw_ciS (rest := []) (c_X11_between (by omega) (by omega) (by omega)) kX11_between eX11_say_5 lX11_say_5 rfl rfl (Nat.le_of_ble_eq_true rfl) ⟨Nat.le_of_ble_eq_true rfl, Nat.le_of_ble_eq_true rfl⟩ ⟨Nat.le_refl _, Nat.le_refl _⟩ ?_
        refine aw_if_ne (tgt := 14) eX11_say_8 (by decide) bt_r (fun hh => have h1 := bt1 hh; ?_) (fun hh => have h1 := bt0 hh; ?_)
        · first
          | (exfalso; omega; done)
          | (refine aw_blk oX11_say_14 (pc' := 23) (ls' := [_, _]) (st' := [_, _]) (cs := []) rfl trivial ?_
             refine aw_icmp_ne (tgt := 29) eX11_say_23 (by decide) (by omega) (by omega) (fun h2 => ?_) (fun h2 => ?_)
             · first
               | (exfalso; omega; done)
               | (refine aw_blk oX11_say_29 (pc' := 34) (ls' := [_, _]) (st' := [_, _]) (cs := []) rfl trivial ?_
                  refine aw_ciV (rest := []) (c_addSign (by omega)) kX8_addSign eX11_say_34 lX11_say_34 rfl rfl rfl rfl (Nat.le_of_ble_eq_true rfl) ⟨Nat.le_of_ble_eq_true rfl, Nat.le_of_ble_eq_true rfl⟩ ⟨Nat.le_refl _, Nat.le_refl _⟩ ?_
                  refine aw_iret eX11_say_37 rfl (Nat.le_refl _) (Nat.le_refl _) ?_
                  exact pe_i rfl rfl rfl)
             · first
               | (exfalso; omega; done)
               | (refine aw_blk oX11_say_26 (pc' := 28) (ls' := [_, _]) (st' := [_]) (cs := []) rfl trivial ?_
                  refine aw_iret eX11_say_28 rfl (Nat.le_refl _) (Nat.le_refl _) ?_
                  exact pe_i rfl rfl rfl))
        · first
          | (exfalso; omega; done)
          | (refine aw_blk oX11_say_11 (pc' := 13) (ls' := [_, _]) (st' := [_]) (cs := []) rfl trivial ?_
             refine aw_iret eX11_say_13 rfl (Nat.le_refl _) (Nat.le_refl _) ?_
             exact pe_i rfl rfl rfl)
      · refine AMet.of kX12_say.1 (Nat.le_of_ble_eq_true rfl) rfl ?_
        refine aw_blk oX12_say_0 (pc' := 5) (ls' := [_, _]) (st' := [_, _, _]) (cs := []) rfl trivial ?_
        refine aw_ciS (rest := []) (c_X12_in (by omega) (by omega) (by omega)) kX12_in eX12_say_5 lX12_say_5 rfl rfl (Nat.le_of_ble_eq_true rfl) ⟨Nat.le_of_ble_eq_true rfl, Nat.le_of_ble_eq_true rfl⟩ ⟨Nat.le_refl _, Nat.le_refl _⟩ ?_
        refine aw_if_ne (tgt := 14) eX12_say_8 (by decide) bt_r (fun hh => have h3 := bt1 hh; ?_) (fun hh => have h3 := bt0 hh; ?_)
        · first
          | (exfalso; omega; done)
          | (refine aw_blk oX12_say_14 (pc' := 20) (ls' := [_, _]) (st' := [_, _]) (cs := []) rfl trivial ?_
             refine aw_icmp_ne (tgt := 26) eX12_say_20 (by decide) (by omega) (by omega) (fun h4 => ?_) (fun h4 => ?_)
             · first
               | (exfalso; omega; done)
               | (refine aw_blk oX12_say_26 (pc' := 50) (ls' := [_, _]) (st' := [_]) (cs := [(_, _)]) rfl (⟨⟨by omega, by omega⟩, trivial⟩) ?_
                  refine aw_iret eX12_say_50 rfl (Nat.le_refl _) (Nat.le_refl _) ?_
                  exact pe_i rfl rfl rfl)
             · first
               | (exfalso; omega; done)
               | (refine aw_blk oX12_say_23 (pc' := 25) (ls' := [_, _]) (st' := [_]) (cs := []) rfl trivial ?_
                  refine aw_iret eX12_say_25 rfl (Nat.le_refl _) (Nat.le_refl _) ?_
                  exact pe_i rfl rfl rfl))
        · first
          | (exfalso; omega; done)
          | (refine aw_blk oX12_say_11 (pc' := 13) (ls' := [_, _]) (st' := [_]) (cs := []) rfl trivial ?_
             refine aw_iret eX12_say_13 rfl (Nat.le_refl _) (Nat.le_refl _) ?_
             exact pe_i rfl rfl rfl)
    · have hX := c_addSign (κ := κ) (μ := μ) (ν := ν) (s := s) (by omega)
      generalize hN : μ 17 1 = N at a c2 hX
      obtain ⟨μ1, hμ1⟩ : ∃ m, m = up (up μ 18 N s) 17 1 (N + 1) := ⟨_, rfl⟩
      rw [← hμ1] at hX
      have k8 : μ1 55 8 = N := by rw [hμ1]; exact a.1
      refine ⟨N + 1, μ1, ν, up (up μ1 61 N s) 55 8 (N + 1), ?_, ?_, by omega, rfl, ?_, ?_, ?_, ?_⟩
      · skip
        refine AMet.of kX11_say.1 (Nat.le_of_ble_eq_true rfl) rfl ?_
        refine aw_blk oX11_say_0 (pc' := 5) (ls' := [_, _]) (st' := [_, _, _]) (cs := []) rfl trivial ?_
        refine aw_ciS (rest := []) (c_X11_between (by omega) (by omega) (by omega)) kX11_between eX11_say_5 lX11_say_5 rfl rfl (Nat.le_of_ble_eq_true rfl) ⟨Nat.le_of_ble_eq_true rfl, Nat.le_of_ble_eq_true rfl⟩ ⟨Nat.le_refl _, Nat.le_refl _⟩ ?_
        refine aw_if_ne (tgt := 14) eX11_say_8 (by decide) bt_r (fun hh => have h5 := bt1 hh; ?_) (fun hh => have h5 := bt0 hh; ?_)
        · first
          | (exfalso; omega; done)
          | (refine aw_blk oX11_say_14 (pc' := 23) (ls' := [_, _]) (st' := [_, _]) (cs := []) rfl trivial ?_
             refine aw_icmp_ne (tgt := 29) eX11_say_23 (by decide) (by omega) (by omega) (fun h6 => ?_) (fun h6 => ?_)
             · first
               | (exfalso; omega; done)
               | (refine aw_blk oX11_say_29 (pc' := 34) (ls' := [_, _]) (st' := [_, _]) (cs := []) rfl trivial ?_
                  refine aw_ciV (rest := []) (hX) kX8_addSign eX11_say_34 lX11_say_34 rfl rfl rfl rfl (Nat.le_of_ble_eq_true rfl) ⟨Nat.le_of_ble_eq_true rfl, Nat.le_of_ble_eq_true rfl⟩ ⟨Nat.le_refl _, Nat.le_refl _⟩ ?_
                  refine aw_iret eX11_say_37 rfl (Nat.le_refl _) (Nat.le_refl _) ?_
                  exact pe_i rfl rfl rfl)
             · first
               | (exfalso; omega; done)
               | (refine aw_blk oX11_say_26 (pc' := 28) (ls' := [_, _]) (st' := [_]) (cs := []) rfl trivial ?_
                  refine aw_iret eX11_say_28 rfl (Nat.le_refl _) (Nat.le_refl _) ?_
                  exact pe_i rfl rfl rfl))
        · first
          | (exfalso; omega; done)
          | (refine aw_blk oX11_say_11 (pc' := 13) (ls' := [_, _]) (st' := [_]) (cs := []) rfl trivial ?_
             refine aw_iret eX11_say_13 rfl (Nat.le_refl _) (Nat.le_refl _) ?_
             exact pe_i rfl rfl rfl)
      · skip
        have K26 : AX κ mX12_say 60 (PE (some (aI (N + 1))) (up (up μ1 61 N s) 55 8 (N + 1)) ν) 26 [aR 55, aI s] [] μ1 ν := by
          have k8' : up μ1 61 (μ1 55 8) s 55 8 = N := by rw [up_c (by decide)]; exact k8
          refine aw_blk oX12_say_26 (pc' := 50) (ls' := [_, _]) (st' := [_]) (cs := [(_, _)]) rfl (⟨⟨by omega, by omega⟩, trivial⟩) ?_
          refine aw_iret eX12_say_50 rfl (Nat.le_refl _) (Nat.le_refl _) ?_
          refine pe_i ?_ ?_ rfl
          · rw [up_at, k8']
          · rw [k8', k8]
        refine AMet.of kX12_say.1 (Nat.le_of_ble_eq_true rfl) rfl ?_
        refine aw_blk oX12_say_0 (pc' := 5) (ls' := [_, _]) (st' := [_, _, _]) (cs := []) rfl trivial ?_
        refine aw_ciS (rest := []) (c_X12_in (by omega) (by omega) (by omega)) kX12_in eX12_say_5 lX12_say_5 rfl rfl (Nat.le_of_ble_eq_true rfl) ⟨Nat.le_of_ble_eq_true rfl, Nat.le_of_ble_eq_true rfl⟩ ⟨Nat.le_refl _, Nat.le_refl _⟩ ?_
        refine aw_if_ne (tgt := 14) eX12_say_8 (by decide) bt_r (fun hh => have h7 := bt1 hh; ?_) (fun hh => have h7 := bt0 hh; ?_)
        · first
          | (exfalso; omega; done)
          | (refine aw_blk oX12_say_14 (pc' := 20) (ls' := [_, _]) (st' := [_, _]) (cs := []) rfl trivial ?_
             refine aw_icmp_ne (tgt := 26) eX12_say_20 (by decide) (by omega) (by omega) (fun h8 => ?_) (fun h8 => ?_)
             · first
               | (exfalso; omega; done)
               | (exact K26)
             · first
               | (exfalso; omega; done)
               | (refine aw_blk oX12_say_23 (pc' := 25) (ls' := [_, _]) (st' := [_]) (cs := []) rfl trivial ?_
                  refine aw_iret eX12_say_25 rfl (Nat.le_refl _) (Nat.le_refl _) ?_
                  exact pe_i rfl rfl rfl))
        · first
          | (exfalso; omega; done)
          | (refine aw_blk oX12_say_11 (pc' := 13) (ls' := [_, _]) (st' := [_]) (cs := []) rfl trivial ?_
             refine aw_iret eX12_say_13 rfl (Nat.le_refl _) (Nat.le_refl _) ?_
             exact pe_i rfl rfl rfl)
      · rw [hμ1]
        refine ⟨⟨rfl, (by omega : (0 : Int) ≤ N + 1), (by omega : N + 1 ≤ 40)⟩, b.up2' (i := N) (v := s) (by decide) (by omega) (by omega) rfl rfl⟩
      · rw [hμ1]
        exact (((SR.rf.put (by decide)).put (by decide)).put (by decide)).put (by decide)
      · intro j hj
        rw [up_ne (Or.inr (fun e => hj (by rw [e]; decide))), hμ1]
        rfl
      · intro j hj
        rw [up_ne (Or.inl (by decide)), up_ne (Or.inl (by decide)), hμ1, up_ne (Or.inr hj), up_ne (Or.inl (by decide))]
  · refine ⟨-2, μ, ν, μ, ?_, ?_, by decide, rfl, h, SR.rf, fun _ _ => rfl, fun _ _ => rfl⟩
    · refine AMet.of kX11_say.1 (Nat.le_of_ble_eq_true rfl) rfl ?_
      refine aw_blk oX11_say_0 (pc' := 5) (ls' := [_, _]) (st' := [_, _, _]) (cs := []) rfl trivial ?_
      refine aw_ciS (rest := []) (c_X11_between (by omega) (by omega) (by omega)) kX11_between eX11_say_5 lX11_say_5 rfl rfl (Nat.le_of_ble_eq_true rfl) ⟨Nat.le_of_ble_eq_true rfl, Nat.le_of_ble_eq_true rfl⟩ ⟨Nat.le_refl _, Nat.le_refl _⟩ ?_
      refine aw_if_ne (tgt := 14) eX11_say_8 (by decide) bt_r (fun hh => have h9 := bt1 hh; ?_) (fun hh => have h9 := bt0 hh; ?_)
      · first
        | (exfalso; omega; done)
        | (refine aw_blk oX11_say_14 (pc' := 23) (ls' := [_, _]) (st' := [_, _]) (cs := []) rfl trivial ?_
           refine aw_icmp_ne (tgt := 29) eX11_say_23 (by decide) (by omega) (by omega) (fun h10 => ?_) (fun h10 => ?_)
           · first
             | (exfalso; omega; done)
             | (refine aw_blk oX11_say_29 (pc' := 34) (ls' := [_, _]) (st' := [_, _]) (cs := []) rfl trivial ?_
                refine aw_ciV (rest := []) (hX) kX8_addSign eX11_say_34 lX11_say_34 rfl rfl rfl rfl (Nat.le_of_ble_eq_true rfl) ⟨Nat.le_of_ble_eq_true rfl, Nat.le_of_ble_eq_true rfl⟩ ⟨Nat.le_refl _, Nat.le_refl _⟩ ?_
                refine aw_iret eX11_say_37 rfl (Nat.le_refl _) (Nat.le_refl _) ?_
                exact pe_i rfl rfl rfl)
           · first
             | (exfalso; omega; done)
             | (refine aw_blk oX11_say_26 (pc' := 28) (ls' := [_, _]) (st' := [_]) (cs := []) rfl trivial ?_
                refine aw_iret eX11_say_28 rfl (Nat.le_refl _) (Nat.le_refl _) ?_
                exact pe_i rfl rfl rfl))
      · first
        | (exfalso; omega; done)
        | (refine aw_blk oX11_say_11 (pc' := 13) (ls' := [_, _]) (st' := [_]) (cs := []) rfl trivial ?_
           refine aw_iret eX11_say_13 rfl (Nat.le_refl _) (Nat.le_refl _) ?_
           exact pe_i rfl rfl rfl)
    · refine AMet.of kX12_say.1 (Nat.le_of_ble_eq_true rfl) rfl ?_
      refine aw_blk oX12_say_0 (pc' := 5) (ls' := [_, _]) (st' := [_, _, _]) (cs := []) rfl trivial ?_
      refine aw_ciS (rest := []) (c_X12_in (by omega) (by omega) (by omega)) kX12_in eX12_say_5 lX12_say_5 rfl rfl (Nat.le_of_ble_eq_true rfl) ⟨Nat.le_of_ble_eq_true rfl, Nat.le_of_ble_eq_true rfl⟩ ⟨Nat.le_refl _, Nat.le_refl _⟩ ?_
      refine aw_if_ne (tgt := 14) eX12_say_8 (by decide) bt_r (fun hh => have h11 := bt1 hh; ?_) (fun hh => have h11 := bt0 hh; ?_)
      · first
        | (exfalso; omega; done)
        | (refine aw_blk oX12_say_14 (pc' := 20) (ls' := [_, _]) (st' := [_, _]) (cs := []) rfl trivial ?_
           refine aw_icmp_ne (tgt := 26) eX12_say_20 (by decide) (by omega) (by omega) (fun h12 => ?_) (fun h12 => ?_)
           · first
             | (exfalso; omega; done)
             | (refine aw_blk oX12_say_26 (pc' := 50) (ls' := [_, _]) (st' := [_]) (cs := [(_, _)]) rfl (⟨⟨by omega, by omega⟩, trivial⟩) ?_
                refine aw_iret eX12_say_50 rfl (Nat.le_refl _) (Nat.le_refl _) ?_
                exact pe_i rfl rfl rfl)
           · first
             | (exfalso; omega; done)
             | (refine aw_blk oX12_say_23 (pc' := 25) (ls' := [_, _]) (st' := [_]) (cs := []) rfl trivial ?_
                refine aw_iret eX12_say_25 rfl (Nat.le_refl _) (Nat.le_refl _) ?_
                exact pe_i rfl rfl rfl))
      · first
        | (exfalso; omega; done)
        | (refine aw_blk oX12_say_11 (pc' := 13) (ls' := [_, _]) (st' := [_]) (cs := []) rfl trivial ?_
           refine aw_iret eX12_say_13 rfl (Nat.le_refl _) (Nat.le_refl _) ?_
           exact pe_i rfl rfl rfl)
def fcI (s : Int) : Int := if s = 98 ∨ s = 108 ∨ s = 115 ∨ s = 107 then 1 else 0
theorem fc_r {a : Int} : R32 (fcI a) := by unfold fcI; split <;> decide
theorem fc1 {a : Int} (h : ¬ fcI a = 0) : a = 98 ∨ a = 108 ∨ a = 115 ∨ a = 107 := by
  unfold fcI at h
  split at h
  · assumption
  · exact absurd rfl h
theorem fc0 {a : Int} (h : fcI a = 0) : ¬ (a = 98 ∨ a = 108 ∨ a = 115 ∨ a = 107) := by
  unfold fcI at h
  split at h
  · cases h
  · assumption
theorem c_X8_isFact {κ : KX} {μ : MM} {ν : ML} {a : Int} (ha : R32 a) : AE κ 0 mX8_isFact [aI a] μ ν (some (aI (fcI a))) μ ν := by
  refine AMet.of kX8_isFact.1 (Nat.le_of_ble_eq_true rfl) rfl ?_
  refine aw_blk oX8_isFact_0 (pc' := 3) (ls' := [_]) (st' := [_, _]) (cs := []) rfl trivial ?_
  refine aw_icmp_eq (tgt := 24) eX8_isFact_3 (by decide) (by omega) (by omega) (fun h13 => ?_) (fun h13 => ?_)
  · first
    | (exfalso; omega; done)
    | (refine aw_blk oX8_isFact_24 (pc' := 29) (ls' := [_]) (st' := [_]) (cs := []) rfl trivial ?_
       refine aw_zret eX8_isFact_29 rfl (by omega) (Nat.le_refl _) (Nat.le_refl _) ?_
       exact pe_i (by unfold fcI; first | rw [if_neg (by omega)] | rw [if_pos (by omega)]) rfl rfl)
  · first
    | (exfalso; omega; done)
    | (refine aw_blk oX8_isFact_6 (pc' := 9) (ls' := [_]) (st' := [_, _]) (cs := []) rfl trivial ?_
       refine aw_icmp_eq (tgt := 24) eX8_isFact_9 (by decide) (by omega) (by omega) (fun h14 => ?_) (fun h14 => ?_)
       · first
         | (exfalso; omega; done)
         | (refine aw_blk oX8_isFact_24 (pc' := 29) (ls' := [_]) (st' := [_]) (cs := []) rfl trivial ?_
            refine aw_zret eX8_isFact_29 rfl (by omega) (Nat.le_refl _) (Nat.le_refl _) ?_
            exact pe_i (by unfold fcI; first | rw [if_neg (by omega)] | rw [if_pos (by omega)]) rfl rfl)
       · first
         | (exfalso; omega; done)
         | (refine aw_blk oX8_isFact_12 (pc' := 15) (ls' := [_]) (st' := [_, _]) (cs := []) rfl trivial ?_
            refine aw_icmp_eq (tgt := 24) eX8_isFact_15 (by decide) (by omega) (by omega) (fun h15 => ?_) (fun h15 => ?_)
            · first
              | (exfalso; omega; done)
              | (refine aw_blk oX8_isFact_24 (pc' := 29) (ls' := [_]) (st' := [_]) (cs := []) rfl trivial ?_
                 refine aw_zret eX8_isFact_29 rfl (by omega) (Nat.le_refl _) (Nat.le_refl _) ?_
                 exact pe_i (by unfold fcI; first | rw [if_neg (by omega)] | rw [if_pos (by omega)]) rfl rfl)
            · first
              | (exfalso; omega; done)
              | (refine aw_blk oX8_isFact_18 (pc' := 21) (ls' := [_]) (st' := [_, _]) (cs := []) rfl trivial ?_
                 refine aw_icmp_ne (tgt := 28) eX8_isFact_21 (by decide) (by omega) (by omega) (fun h16 => ?_) (fun h16 => ?_)
                 · first
                   | (exfalso; omega; done)
                   | (refine aw_blk oX8_isFact_28 (pc' := 29) (ls' := [_]) (st' := [_]) (cs := []) rfl trivial ?_
                      refine aw_zret eX8_isFact_29 rfl (by omega) (Nat.le_refl _) (Nat.le_refl _) ?_
                      exact pe_i (by unfold fcI; first | rw [if_neg (by omega)] | rw [if_pos (by omega)]) rfl rfl)
                 · first
                   | (exfalso; omega; done)
                   | (refine aw_blk oX8_isFact_24 (pc' := 29) (ls' := [_]) (st' := [_]) (cs := []) rfl trivial ?_
                      refine aw_zret eX8_isFact_29 rfl (by omega) (Nat.le_refl _) (Nat.le_refl _) ?_
                      exact pe_i (by unfold fcI; first | rw [if_neg (by omega)] | rw [if_pos (by omega)]) rfl rfl))))
theorem c_X8_isSize {κ : KX} {μ : MM} {ν : ML} {a : Int} (ha : R32 a) : AE κ 0 mX8_isSize [aI a] μ ν (some (aI (bt a 48 50))) μ ν := by
  refine AMet.of kX8_isSize.1 (Nat.le_of_ble_eq_true rfl) rfl ?_
  refine aw_blk oX8_isSize_0 (pc' := 3) (ls' := [_]) (st' := [_, _]) (cs := []) rfl trivial ?_
  refine aw_icmp_lt (tgt := 16) eX8_isSize_3 (by decide) (by omega) (by omega) (fun h17 => ?_) (fun h17 => ?_)
  · first
    | (exfalso; omega; done)
    | (refine aw_blk oX8_isSize_16 (pc' := 17) (ls' := [_]) (st' := [_]) (cs := []) rfl trivial ?_
       refine aw_zret eX8_isSize_17 rfl (by omega) (Nat.le_refl _) (Nat.le_refl _) ?_
       exact pe_i (by unfold bt; first | rw [if_neg (by omega)] | rw [if_pos (by omega)]) rfl rfl)
  · first
    | (exfalso; omega; done)
    | (refine aw_blk oX8_isSize_6 (pc' := 9) (ls' := [_]) (st' := [_, _]) (cs := []) rfl trivial ?_
       refine aw_icmp_gt (tgt := 16) eX8_isSize_9 (by decide) (by omega) (by omega) (fun h18 => ?_) (fun h18 => ?_)
       · first
         | (exfalso; omega; done)
         | (refine aw_blk oX8_isSize_16 (pc' := 17) (ls' := [_]) (st' := [_]) (cs := []) rfl trivial ?_
            refine aw_zret eX8_isSize_17 rfl (by omega) (Nat.le_refl _) (Nat.le_refl _) ?_
            exact pe_i (by unfold bt; first | rw [if_neg (by omega)] | rw [if_pos (by omega)]) rfl rfl)
       · first
         | (exfalso; omega; done)
         | (refine aw_blk oX8_isSize_12 (pc' := 17) (ls' := [_]) (st' := [_]) (cs := []) rfl trivial ?_
            refine aw_zret eX8_isSize_17 rfl (by omega) (Nat.le_refl _) (Nat.le_refl _) ?_
            exact pe_i (by unfold bt; first | rw [if_neg (by omega)] | rw [if_pos (by omega)]) rfl rfl))
theorem c_X8_isDigit {κ : KX} {μ : MM} {ν : ML} {a : Int} (ha : R32 a) : AE κ 0 mX8_isDigit [aI a] μ ν (some (aI (bt a 48 57))) μ ν := by
  refine AMet.of kX8_isDigit.1 (Nat.le_of_ble_eq_true rfl) rfl ?_
  refine aw_blk oX8_isDigit_0 (pc' := 3) (ls' := [_]) (st' := [_, _]) (cs := []) rfl trivial ?_
  refine aw_icmp_lt (tgt := 16) eX8_isDigit_3 (by decide) (by omega) (by omega) (fun h19 => ?_) (fun h19 => ?_)
  · first
    | (exfalso; omega; done)
    | (refine aw_blk oX8_isDigit_16 (pc' := 17) (ls' := [_]) (st' := [_]) (cs := []) rfl trivial ?_
       refine aw_zret eX8_isDigit_17 rfl (by omega) (Nat.le_refl _) (Nat.le_refl _) ?_
       exact pe_i (by unfold bt; first | rw [if_neg (by omega)] | rw [if_pos (by omega)]) rfl rfl)
  · first
    | (exfalso; omega; done)
    | (refine aw_blk oX8_isDigit_6 (pc' := 9) (ls' := [_]) (st' := [_, _]) (cs := []) rfl trivial ?_
       refine aw_icmp_gt (tgt := 16) eX8_isDigit_9 (by decide) (by omega) (by omega) (fun h20 => ?_) (fun h20 => ?_)
       · first
         | (exfalso; omega; done)
         | (refine aw_blk oX8_isDigit_16 (pc' := 17) (ls' := [_]) (st' := [_]) (cs := []) rfl trivial ?_
            refine aw_zret eX8_isDigit_17 rfl (by omega) (Nat.le_refl _) (Nat.le_refl _) ?_
            exact pe_i (by unfold bt; first | rw [if_neg (by omega)] | rw [if_pos (by omega)]) rfl rfl)
       · first
         | (exfalso; omega; done)
         | (refine aw_blk oX8_isDigit_12 (pc' := 17) (ls' := [_]) (st' := [_]) (cs := []) rfl trivial ?_
            refine aw_zret eX8_isDigit_17 rfl (by omega) (Nat.le_refl _) (Nat.le_refl _) ?_
            exact pe_i (by unfold bt; first | rw [if_neg (by omega)] | rw [if_pos (by omega)]) rfl rfl))
/-- what may come next; 9 is wrong -/
def af (st s : Int) : Int :=
  if st = 0 then (if s = 98 ∨ s = 108 ∨ s = 115 ∨ s = 107 then 1 else if 48 ≤ s ∧ s ≤ 50 then 8 else 9)
  else if st = 1 then (if s = 60 ∨ s = 62 then 2 else 9)
  else if st = 2 then (if 48 ≤ s ∧ s ≤ 57 then 3 else 9)
  else if st = 3 then (if 48 ≤ s ∧ s ≤ 57 then 4 else if s = 58 then 6 else 9)
  else if st = 4 then (if 48 ≤ s ∧ s ≤ 57 then 5 else if s = 58 then 6 else 9)
  else if st = 5 then (if s = 58 then 6 else 9)
  else if st = 6 then (if 48 ≤ s ∧ s ≤ 50 then 7 else 9)
  else if st = 7 then (if s = 59 then 0 else 9)
  else 9
theorem af_bd (st s : Int) : 0 ≤ af st s ∧ af st s ≤ 9 := by
  unfold af
  (repeat' split) <;> omega
theorem af_0 (s : Int) : af 0 s = if s = 98 ∨ s = 108 ∨ s = 115 ∨ s = 107 then 1 else if 48 ≤ s ∧ s ≤ 50 then 8 else 9 := rfl
theorem af_1 (s : Int) : af 1 s = if s = 60 ∨ s = 62 then 2 else 9 := rfl
theorem af_2 (s : Int) : af 2 s = if 48 ≤ s ∧ s ≤ 57 then 3 else 9 := rfl
theorem af_3 (s : Int) : af 3 s = if 48 ≤ s ∧ s ≤ 57 then 4 else if s = 58 then 6 else 9 := rfl
theorem af_4 (s : Int) : af 4 s = if 48 ≤ s ∧ s ≤ 57 then 5 else if s = 58 then 6 else 9 := rfl
theorem af_5 (s : Int) : af 5 s = if s = 58 then 6 else 9 := rfl
theorem af_6 (s : Int) : af 6 s = if 48 ≤ s ∧ s ≤ 50 then 7 else 9 := rfl
theorem af_7 (s : Int) : af 7 s = if s = 59 then 0 else 9 := rfl
theorem af_8 (s : Int) : af 8 s = 9 := rfl
theorem c_after_0 {κ : KX} {μ : MM} {ν : ML} {s : Int} (hs : 0 ≤ s ∧ s ≤ 126) : AE κ 1 mX8_after [aI 0, aI s] μ ν (some (aI (af 0 s))) μ ν := by
  refine AMet.of kX8_after.1 (Nat.le_of_ble_eq_true rfl) rfl ?_
  refine aw_blk oX8_after_0 (pc' := 1) (ls' := [_, _]) (st' := [_]) (cs := []) rfl trivial ?_
  refine aw_tswIn (tgt := 48) eX8_after_1 (by decide) (by decide) (by decide) rfl (by decide) ?_
  refine aw_blk oX8_after_48 (pc' := 49) (ls' := [_, _]) (st' := [_]) (cs := []) rfl trivial ?_
  refine aw_ciS (rest := []) (c_X8_isFact (by omega)) kX8_isFact eX8_after_49 lX8_after_49 rfl rfl (Nat.le_of_ble_eq_true rfl) ⟨Nat.le_of_ble_eq_true rfl, Nat.le_of_ble_eq_true rfl⟩ ⟨Nat.le_refl _, Nat.le_refl _⟩ ?_
  refine aw_if_eq (tgt := 59) eX8_after_52 (by decide) fc_r (fun hh => have h21 := fc0 hh; ?_) (fun hh => have h21 := fc1 hh; ?_)
  · first
    | (exfalso; omega; done)
    | (refine aw_blk oX8_after_59 (pc' := 60) (ls' := [_, _]) (st' := [_]) (cs := []) rfl trivial ?_
       refine aw_ciS (rest := []) (c_X8_isSize (by omega)) kX8_isSize eX8_after_60 lX8_after_60 rfl rfl (Nat.le_of_ble_eq_true rfl) ⟨Nat.le_of_ble_eq_true rfl, Nat.le_of_ble_eq_true rfl⟩ ⟨Nat.le_refl _, Nat.le_refl _⟩ ?_
       refine aw_if_eq (tgt := 71) eX8_after_63 (by decide) bt_r (fun hh => have h22 := bt0 hh; ?_) (fun hh => have h22 := bt1 hh; ?_)
       · first
         | (exfalso; omega; done)
         | (refine aw_blk oX8_after_71 (pc' := 73) (ls' := [_, _]) (st' := [_]) (cs := []) rfl trivial ?_
            refine aw_iret eX8_after_73 rfl (Nat.le_refl _) (Nat.le_refl _) ?_
            exact pe_i (by rw [af_0]; (repeat' split) <;> omega) rfl rfl)
       · first
         | (exfalso; omega; done)
         | (refine aw_blk oX8_after_66 (pc' := 73) (ls' := [_, _]) (st' := [_]) (cs := []) rfl trivial ?_
            refine aw_iret eX8_after_73 rfl (Nat.le_refl _) (Nat.le_refl _) ?_
            exact pe_i (by rw [af_0]; (repeat' split) <;> omega) rfl rfl))
  · first
    | (exfalso; omega; done)
    | (refine aw_blk oX8_after_55 (pc' := 73) (ls' := [_, _]) (st' := [_]) (cs := []) rfl trivial ?_
       refine aw_iret eX8_after_73 rfl (Nat.le_refl _) (Nat.le_refl _) ?_
       exact pe_i (by rw [af_0]; (repeat' split) <;> omega) rfl rfl)
theorem c_after_1 {κ : KX} {μ : MM} {ν : ML} {s : Int} (hs : 0 ≤ s ∧ s ≤ 126) : AE κ 1 mX8_after [aI 1, aI s] μ ν (some (aI (af 1 s))) μ ν := by
  refine AMet.of kX8_after.1 (Nat.le_of_ble_eq_true rfl) rfl ?_
  refine aw_blk oX8_after_0 (pc' := 1) (ls' := [_, _]) (st' := [_]) (cs := []) rfl trivial ?_
  refine aw_tswIn (tgt := 74) eX8_after_1 (by decide) (by decide) (by decide) rfl (by decide) ?_
  refine aw_blk oX8_after_74 (pc' := 77) (ls' := [_, _]) (st' := [_, _]) (cs := []) rfl trivial ?_
  refine aw_icmp_eq (tgt := 86) eX8_after_77 (by decide) (by omega) (by omega) (fun h23 => ?_) (fun h23 => ?_)
  · first
    | (exfalso; omega; done)
    | (refine aw_blk oX8_after_86 (pc' := 92) (ls' := [_, _]) (st' := [_]) (cs := []) rfl trivial ?_
       refine aw_iret eX8_after_92 rfl (Nat.le_refl _) (Nat.le_refl _) ?_
       exact pe_i (by rw [af_1]; (repeat' split) <;> omega) rfl rfl)
  · first
    | (exfalso; omega; done)
    | (refine aw_blk oX8_after_80 (pc' := 83) (ls' := [_, _]) (st' := [_, _]) (cs := []) rfl trivial ?_
       refine aw_icmp_ne (tgt := 90) eX8_after_83 (by decide) (by omega) (by omega) (fun h24 => ?_) (fun h24 => ?_)
       · first
         | (exfalso; omega; done)
         | (refine aw_blk oX8_after_90 (pc' := 92) (ls' := [_, _]) (st' := [_]) (cs := []) rfl trivial ?_
            refine aw_iret eX8_after_92 rfl (Nat.le_refl _) (Nat.le_refl _) ?_
            exact pe_i (by rw [af_1]; (repeat' split) <;> omega) rfl rfl)
       · first
         | (exfalso; omega; done)
         | (refine aw_blk oX8_after_86 (pc' := 92) (ls' := [_, _]) (st' := [_]) (cs := []) rfl trivial ?_
            refine aw_iret eX8_after_92 rfl (Nat.le_refl _) (Nat.le_refl _) ?_
            exact pe_i (by rw [af_1]; (repeat' split) <;> omega) rfl rfl))
theorem c_after_2 {κ : KX} {μ : MM} {ν : ML} {s : Int} (hs : 0 ≤ s ∧ s ≤ 126) : AE κ 1 mX8_after [aI 2, aI s] μ ν (some (aI (af 2 s))) μ ν := by
  refine AMet.of kX8_after.1 (Nat.le_of_ble_eq_true rfl) rfl ?_
  refine aw_blk oX8_after_0 (pc' := 1) (ls' := [_, _]) (st' := [_]) (cs := []) rfl trivial ?_
  refine aw_tswIn (tgt := 93) eX8_after_1 (by decide) (by decide) (by decide) rfl (by decide) ?_
  refine aw_blk oX8_after_93 (pc' := 94) (ls' := [_, _]) (st' := [_]) (cs := []) rfl trivial ?_
  refine aw_ciS (rest := []) (c_X8_isDigit (by omega)) kX8_isDigit eX8_after_94 lX8_after_94 rfl rfl (Nat.le_of_ble_eq_true rfl) ⟨Nat.le_of_ble_eq_true rfl, Nat.le_of_ble_eq_true rfl⟩ ⟨Nat.le_refl _, Nat.le_refl _⟩ ?_
  refine aw_if_eq (tgt := 104) eX8_after_97 (by decide) bt_r (fun hh => have h25 := bt0 hh; ?_) (fun hh => have h25 := bt1 hh; ?_)
  · first
    | (exfalso; omega; done)
    | (refine aw_blk oX8_after_104 (pc' := 106) (ls' := [_, _]) (st' := [_]) (cs := []) rfl trivial ?_
       refine aw_iret eX8_after_106 rfl (Nat.le_refl _) (Nat.le_refl _) ?_
       exact pe_i (by rw [af_2]; (repeat' split) <;> omega) rfl rfl)
  · first
    | (exfalso; omega; done)
    | (refine aw_blk oX8_after_100 (pc' := 106) (ls' := [_, _]) (st' := [_]) (cs := []) rfl trivial ?_
       refine aw_iret eX8_after_106 rfl (Nat.le_refl _) (Nat.le_refl _) ?_
       exact pe_i (by rw [af_2]; (repeat' split) <;> omega) rfl rfl)
theorem c_after_3 {κ : KX} {μ : MM} {ν : ML} {s : Int} (hs : 0 ≤ s ∧ s ≤ 126) : AE κ 1 mX8_after [aI 3, aI s] μ ν (some (aI (af 3 s))) μ ν := by
  refine AMet.of kX8_after.1 (Nat.le_of_ble_eq_true rfl) rfl ?_
  refine aw_blk oX8_after_0 (pc' := 1) (ls' := [_, _]) (st' := [_]) (cs := []) rfl trivial ?_
  refine aw_tswIn (tgt := 107) eX8_after_1 (by decide) (by decide) (by decide) rfl (by decide) ?_
  refine aw_blk oX8_after_107 (pc' := 108) (ls' := [_, _]) (st' := [_]) (cs := []) rfl trivial ?_
  refine aw_ciS (rest := []) (c_X8_isDigit (by omega)) kX8_isDigit eX8_after_108 lX8_after_108 rfl rfl (Nat.le_of_ble_eq_true rfl) ⟨Nat.le_of_ble_eq_true rfl, Nat.le_of_ble_eq_true rfl⟩ ⟨Nat.le_refl _, Nat.le_refl _⟩ ?_
  refine aw_if_eq (tgt := 118) eX8_after_111 (by decide) bt_r (fun hh => have h26 := bt0 hh; ?_) (fun hh => have h26 := bt1 hh; ?_)
  · first
    | (exfalso; omega; done)
    | (refine aw_blk oX8_after_118 (pc' := 121) (ls' := [_, _]) (st' := [_, _]) (cs := []) rfl trivial ?_
       refine aw_icmp_ne (tgt := 129) eX8_after_121 (by decide) (by omega) (by omega) (fun h27 => ?_) (fun h27 => ?_)
       · first
         | (exfalso; omega; done)
         | (refine aw_blk oX8_after_129 (pc' := 131) (ls' := [_, _]) (st' := [_]) (cs := []) rfl trivial ?_
            refine aw_iret eX8_after_131 rfl (Nat.le_refl _) (Nat.le_refl _) ?_
            exact pe_i (by rw [af_3]; (repeat' split) <;> omega) rfl rfl)
       · first
         | (exfalso; omega; done)
         | (refine aw_blk oX8_after_124 (pc' := 131) (ls' := [_, _]) (st' := [_]) (cs := []) rfl trivial ?_
            refine aw_iret eX8_after_131 rfl (Nat.le_refl _) (Nat.le_refl _) ?_
            exact pe_i (by rw [af_3]; (repeat' split) <;> omega) rfl rfl))
  · first
    | (exfalso; omega; done)
    | (refine aw_blk oX8_after_114 (pc' := 131) (ls' := [_, _]) (st' := [_]) (cs := []) rfl trivial ?_
       refine aw_iret eX8_after_131 rfl (Nat.le_refl _) (Nat.le_refl _) ?_
       exact pe_i (by rw [af_3]; (repeat' split) <;> omega) rfl rfl)
theorem c_after_4 {κ : KX} {μ : MM} {ν : ML} {s : Int} (hs : 0 ≤ s ∧ s ≤ 126) : AE κ 1 mX8_after [aI 4, aI s] μ ν (some (aI (af 4 s))) μ ν := by
  refine AMet.of kX8_after.1 (Nat.le_of_ble_eq_true rfl) rfl ?_
  refine aw_blk oX8_after_0 (pc' := 1) (ls' := [_, _]) (st' := [_]) (cs := []) rfl trivial ?_
  refine aw_tswIn (tgt := 132) eX8_after_1 (by decide) (by decide) (by decide) rfl (by decide) ?_
  refine aw_blk oX8_after_132 (pc' := 133) (ls' := [_, _]) (st' := [_]) (cs := []) rfl trivial ?_
  refine aw_ciS (rest := []) (c_X8_isDigit (by omega)) kX8_isDigit eX8_after_133 lX8_after_133 rfl rfl (Nat.le_of_ble_eq_true rfl) ⟨Nat.le_of_ble_eq_true rfl, Nat.le_of_ble_eq_true rfl⟩ ⟨Nat.le_refl _, Nat.le_refl _⟩ ?_
  refine aw_if_eq (tgt := 143) eX8_after_136 (by decide) bt_r (fun hh => have h28 := bt0 hh; ?_) (fun hh => have h28 := bt1 hh; ?_)
  · first
    | (exfalso; omega; done)
    | (refine aw_blk oX8_after_143 (pc' := 146) (ls' := [_, _]) (st' := [_, _]) (cs := []) rfl trivial ?_
       refine aw_icmp_ne (tgt := 154) eX8_after_146 (by decide) (by omega) (by omega) (fun h29 => ?_) (fun h29 => ?_)
       · first
         | (exfalso; omega; done)
         | (refine aw_blk oX8_after_154 (pc' := 156) (ls' := [_, _]) (st' := [_]) (cs := []) rfl trivial ?_
            refine aw_iret eX8_after_156 rfl (Nat.le_refl _) (Nat.le_refl _) ?_
            exact pe_i (by rw [af_4]; (repeat' split) <;> omega) rfl rfl)
       · first
         | (exfalso; omega; done)
         | (refine aw_blk oX8_after_149 (pc' := 156) (ls' := [_, _]) (st' := [_]) (cs := []) rfl trivial ?_
            refine aw_iret eX8_after_156 rfl (Nat.le_refl _) (Nat.le_refl _) ?_
            exact pe_i (by rw [af_4]; (repeat' split) <;> omega) rfl rfl))
  · first
    | (exfalso; omega; done)
    | (refine aw_blk oX8_after_139 (pc' := 156) (ls' := [_, _]) (st' := [_]) (cs := []) rfl trivial ?_
       refine aw_iret eX8_after_156 rfl (Nat.le_refl _) (Nat.le_refl _) ?_
       exact pe_i (by rw [af_4]; (repeat' split) <;> omega) rfl rfl)
theorem c_after_5 {κ : KX} {μ : MM} {ν : ML} {s : Int} (hs : 0 ≤ s ∧ s ≤ 126) : AE κ 1 mX8_after [aI 5, aI s] μ ν (some (aI (af 5 s))) μ ν := by
  refine AMet.of kX8_after.1 (Nat.le_of_ble_eq_true rfl) rfl ?_
  refine aw_blk oX8_after_0 (pc' := 1) (ls' := [_, _]) (st' := [_]) (cs := []) rfl trivial ?_
  refine aw_tswIn (tgt := 157) eX8_after_1 (by decide) (by decide) (by decide) rfl (by decide) ?_
  refine aw_blk oX8_after_157 (pc' := 160) (ls' := [_, _]) (st' := [_, _]) (cs := []) rfl trivial ?_
  refine aw_icmp_ne (tgt := 168) eX8_after_160 (by decide) (by omega) (by omega) (fun h30 => ?_) (fun h30 => ?_)
  · first
    | (exfalso; omega; done)
    | (refine aw_blk oX8_after_168 (pc' := 170) (ls' := [_, _]) (st' := [_]) (cs := []) rfl trivial ?_
       refine aw_iret eX8_after_170 rfl (Nat.le_refl _) (Nat.le_refl _) ?_
       exact pe_i (by rw [af_5]; (repeat' split) <;> omega) rfl rfl)
  · first
    | (exfalso; omega; done)
    | (refine aw_blk oX8_after_163 (pc' := 170) (ls' := [_, _]) (st' := [_]) (cs := []) rfl trivial ?_
       refine aw_iret eX8_after_170 rfl (Nat.le_refl _) (Nat.le_refl _) ?_
       exact pe_i (by rw [af_5]; (repeat' split) <;> omega) rfl rfl)
theorem c_after_6 {κ : KX} {μ : MM} {ν : ML} {s : Int} (hs : 0 ≤ s ∧ s ≤ 126) : AE κ 1 mX8_after [aI 6, aI s] μ ν (some (aI (af 6 s))) μ ν := by
  refine AMet.of kX8_after.1 (Nat.le_of_ble_eq_true rfl) rfl ?_
  refine aw_blk oX8_after_0 (pc' := 1) (ls' := [_, _]) (st' := [_]) (cs := []) rfl trivial ?_
  refine aw_tswIn (tgt := 171) eX8_after_1 (by decide) (by decide) (by decide) rfl (by decide) ?_
  refine aw_blk oX8_after_171 (pc' := 172) (ls' := [_, _]) (st' := [_]) (cs := []) rfl trivial ?_
  refine aw_ciS (rest := []) (c_X8_isSize (by omega)) kX8_isSize eX8_after_172 lX8_after_172 rfl rfl (Nat.le_of_ble_eq_true rfl) ⟨Nat.le_of_ble_eq_true rfl, Nat.le_of_ble_eq_true rfl⟩ ⟨Nat.le_refl _, Nat.le_refl _⟩ ?_
  refine aw_if_eq (tgt := 183) eX8_after_175 (by decide) bt_r (fun hh => have h31 := bt0 hh; ?_) (fun hh => have h31 := bt1 hh; ?_)
  · first
    | (exfalso; omega; done)
    | (refine aw_blk oX8_after_183 (pc' := 185) (ls' := [_, _]) (st' := [_]) (cs := []) rfl trivial ?_
       refine aw_iret eX8_after_185 rfl (Nat.le_refl _) (Nat.le_refl _) ?_
       exact pe_i (by rw [af_6]; (repeat' split) <;> omega) rfl rfl)
  · first
    | (exfalso; omega; done)
    | (refine aw_blk oX8_after_178 (pc' := 185) (ls' := [_, _]) (st' := [_]) (cs := []) rfl trivial ?_
       refine aw_iret eX8_after_185 rfl (Nat.le_refl _) (Nat.le_refl _) ?_
       exact pe_i (by rw [af_6]; (repeat' split) <;> omega) rfl rfl)
theorem c_after_7 {κ : KX} {μ : MM} {ν : ML} {s : Int} (hs : 0 ≤ s ∧ s ≤ 126) : AE κ 1 mX8_after [aI 7, aI s] μ ν (some (aI (af 7 s))) μ ν := by
  refine AMet.of kX8_after.1 (Nat.le_of_ble_eq_true rfl) rfl ?_
  refine aw_blk oX8_after_0 (pc' := 1) (ls' := [_, _]) (st' := [_]) (cs := []) rfl trivial ?_
  refine aw_tswIn (tgt := 186) eX8_after_1 (by decide) (by decide) (by decide) rfl (by decide) ?_
  refine aw_blk oX8_after_186 (pc' := 189) (ls' := [_, _]) (st' := [_, _]) (cs := []) rfl trivial ?_
  refine aw_icmp_ne (tgt := 196) eX8_after_189 (by decide) (by omega) (by omega) (fun h32 => ?_) (fun h32 => ?_)
  · first
    | (exfalso; omega; done)
    | (refine aw_blk oX8_after_196 (pc' := 198) (ls' := [_, _]) (st' := [_]) (cs := []) rfl trivial ?_
       refine aw_iret eX8_after_198 rfl (Nat.le_refl _) (Nat.le_refl _) ?_
       exact pe_i (by rw [af_7]; (repeat' split) <;> omega) rfl rfl)
  · first
    | (exfalso; omega; done)
    | (refine aw_blk oX8_after_192 (pc' := 198) (ls' := [_, _]) (st' := [_]) (cs := []) rfl trivial ?_
       refine aw_iret eX8_after_198 rfl (Nat.le_refl _) (Nat.le_refl _) ?_
       exact pe_i (by rw [af_7]; (repeat' split) <;> omega) rfl rfl)
theorem c_after_8 {κ : KX} {μ : MM} {ν : ML} {s : Int} (hs : 0 ≤ s ∧ s ≤ 126) : AE κ 1 mX8_after [aI 8, aI s] μ ν (some (aI (af 8 s))) μ ν := by
  refine AMet.of kX8_after.1 (Nat.le_of_ble_eq_true rfl) rfl ?_
  refine aw_blk oX8_after_0 (pc' := 1) (ls' := [_, _]) (st' := [_]) (cs := []) rfl trivial ?_
  refine aw_tswOut (tgt := 199) eX8_after_1 (by omega) (by omega) (by decide) ?_
  refine aw_blk oX8_after_199 (pc' := 201) (ls' := [_, _]) (st' := [_]) (cs := []) rfl trivial ?_
  refine aw_iret eX8_after_201 rfl (Nat.le_refl _) (Nat.le_refl _) ?_
  exact pe_i (by rw [af_8]) rfl rfl
theorem c_X8_after {κ : KX} {μ : MM} {ν : ML} {st s : Int} (hst : 0 ≤ st ∧ st ≤ 8) (hs : 0 ≤ s ∧ s ≤ 126) : AE κ 1 mX8_after [aI st, aI s] μ ν (some (aI (af st s))) μ ν := by
  rcases (show st = 0 ∨ st = 1 ∨ st = 2 ∨ st = 3 ∨ st = 4 ∨ st = 5 ∨ st = 6 ∨ st = 7 ∨ st = 8 by omega) with rfl | rfl | rfl | rfl | rfl | rfl | rfl | rfl | rfl
  · exact c_after_0 hs
  · exact c_after_1 hs
  · exact c_after_2 hs
  · exact c_after_3 hs
  · exact c_after_4 hs
  · exact c_after_5 hs
  · exact c_after_6 hs
  · exact c_after_7 hs
  · exact c_after_8 hs
/-- the first fault -/
def ff (s : Int → Int) (cnt : Int) : Nat → Int → Int → Int
  | 0, _, st => if st = 8 then -6 else cnt
  | n + 1, i, st => if af st (s i) = 9 then i else ff s cnt n (i + 1) (af st (s i))
theorem ff_bd {s : Int → Int} {cnt : Int} (hc : 0 ≤ cnt ∧ cnt ≤ 40) : ∀ (n : Nat) (i st : Int), 0 ≤ i → i + n = cnt → -6 ≤ ff s cnt n i st ∧ ff s cnt n i st ≤ 40
  | 0, i, st, _, _ => by
    rw [ff]
    split <;> omega
  | n + 1, i, st, h0, hn => by
    rw [ff]
    split
    · omega
    · exact ff_bd hc n (i + 1) _ (by omega) (by omega)
theorem l_firstFault {κ : KX} {μ : MM} {ν : ML} (h : RU μ) (n : Nat) : ∀ (st i : Int), 0 ≤ i → i + n = μ 17 1 → 0 ≤ st → st ≤ 8 → AX κ mX8_firstFault 2 (PE (some (aI (ff (μ 18) (μ 17 1) n i st))) μ ν) 4 [aR 17, aI st, aI i] [] μ ν := by
  obtain ⟨a, b⟩ := h
  induction n with
  | zero =>
    intro st i h0 hn hs0 hs1
    refine aw_blk oX8_firstFault_4 (pc' := 9) (ls' := [_, _, _]) (st' := [_, _]) (cs := []) rfl trivial ?_
    refine aw_icmp_ge (tgt := 37) eX8_firstFault_9 (by decide) (by omega) (by omega) (fun h33 => ?_) (fun h33 => ?_)
    · first
      | (exfalso; omega; done)
      | (refine aw_blk oX8_firstFault_37 (pc' := 40) (ls' := [_, _, _]) (st' := [_, _]) (cs := []) rfl trivial ?_
         refine aw_icmp_ne (tgt := 48) eX8_firstFault_40 (by decide) (by omega) (by omega) (fun h34 => ?_) (fun h34 => ?_)
         · first
           | (exfalso; omega; done)
           | (refine aw_blk oX8_firstFault_48 (pc' := 52) (ls' := [_, _, _]) (st' := [_]) (cs := []) rfl trivial ?_
              refine aw_iret eX8_firstFault_52 rfl (Nat.le_refl _) (Nat.le_refl _) ?_
              exact pe_i (by rw [ff]; split <;> omega) rfl rfl)
         · first
           | (exfalso; omega; done)
           | (refine aw_blk oX8_firstFault_43 (pc' := 52) (ls' := [_, _, _]) (st' := [_]) (cs := []) rfl trivial ?_
              refine aw_iret eX8_firstFault_52 rfl (Nat.le_refl _) (Nat.le_refl _) ?_
              exact pe_i (by rw [ff]; split <;> omega) rfl rfl))
    · first
      | (exfalso; omega; done)
      | (refine aw_blk oX8_firstFault_12 (pc' := 19) (ls' := [_, _, _]) (st' := [_, _]) (cs := [(_, _)]) rfl (⟨⟨by omega, by omega⟩, trivial⟩) ?_
         refine aw_ciS (rest := []) (c_X8_after (by omega) (by omega)) kX8_after eX8_firstFault_19 lX8_firstFault_19 rfl rfl (Nat.le_of_ble_eq_true rfl) ⟨Nat.le_of_ble_eq_true rfl, Nat.le_of_ble_eq_true rfl⟩ ⟨Nat.le_refl _, Nat.le_refl _⟩ ?_
         refine aw_blk oX8_firstFault_22 (pc' := 26) (ls' := [_, _, _]) (st' := [_, _]) (cs := []) rfl trivial ?_
         refine aw_icmp_ne (tgt := 31) eX8_firstFault_26 (by decide) (by omega) (by omega) (fun h35 => ?_) (fun h35 => ?_)
         · first
           | (exfalso; omega; done)
           | (refine aw_blk oX8_firstFault_31 (pc' := 4) (ls' := [_, _, _]) (st' := []) (cs := []) rfl trivial ?_
              skip)
         · first
           | (exfalso; omega; done)
           | (refine aw_blk oX8_firstFault_29 (pc' := 30) (ls' := [_, _, _]) (st' := [_]) (cs := []) rfl trivial ?_
              refine aw_iret eX8_firstFault_30 rfl (Nat.le_refl _) (Nat.le_refl _) ?_
              exact pe_i (by rw [ff]; split <;> omega) rfl rfl))
  | succ n ih =>
    intro st i h0 hn hs0 hs1
    have g := b i (by omega) (by omega)
    have hb := af_bd st (μ 18 i)
    refine aw_blk oX8_firstFault_4 (pc' := 9) (ls' := [_, _, _]) (st' := [_, _]) (cs := []) rfl trivial ?_
    refine aw_icmp_ge (tgt := 37) eX8_firstFault_9 (by decide) (by omega) (by omega) (fun h1 => ?_) (fun h1 => ?_)
    · exfalso; omega
    · refine aw_blk oX8_firstFault_12 (pc' := 19) (ls' := [_, _, _]) (st' := [_, _]) (cs := [(_, _)]) rfl (⟨⟨by omega, by omega⟩, trivial⟩) ?_
      refine aw_ciS (rest := []) (c_X8_after (by omega) (by omega)) kX8_after eX8_firstFault_19 lX8_firstFault_19 rfl rfl (Nat.le_of_ble_eq_true rfl) ⟨Nat.le_of_ble_eq_true rfl, Nat.le_of_ble_eq_true rfl⟩ ⟨Nat.le_refl _, Nat.le_refl _⟩ ?_
      refine aw_blk oX8_firstFault_22 (pc' := 26) (ls' := [_, _, _]) (st' := [_, _]) (cs := []) rfl trivial ?_
      refine aw_icmp_ne (tgt := 31) eX8_firstFault_26 (by decide) (by omega) (by omega) (fun h2 => ?_) (fun h2 => ?_)
      · refine aw_blk oX8_firstFault_31 (pc' := 4) (ls' := [_, _, _]) (st' := []) (cs := []) rfl trivial ?_
        have T := ih (af st (μ 18 i)) (i + 1) (by omega) (by omega) (by omega) (by omega)
        rw [ff, if_neg h2]
        exact T
      · refine aw_blk oX8_firstFault_29 (pc' := 30) (ls' := [_, _, _]) (st' := [_]) (cs := []) rfl trivial ?_
        refine aw_iret eX8_firstFault_30 rfl (Nat.le_refl _) (Nat.le_refl _) ?_
        exact pe_i (by rw [ff, if_pos (by omega)]) rfl rfl
theorem c_firstFault {κ : KX} {μ : MM} {ν : ML} (h : RU μ) : AE κ 2 mX8_firstFault [aR 17] μ ν (some (aI (ff (μ 18) (μ 17 1) (μ 17 1).toNat 0 0))) μ ν := by
  refine AMet.of kX8_firstFault.1 (Nat.le_of_ble_eq_true rfl) rfl ?_
  refine aw_blk oX8_firstFault_0 (pc' := 4) (ls' := [_, _, _]) (st' := []) (cs := []) rfl trivial ?_
  exact l_firstFault h _ 0 0 (by omega) (by have := h.1; omega) (by omega) (by omega)
theorem s_faultOf_0 {κ : KX} {μ : MM} {ν : ML} {P : Int} {i : Int} {u3 u4 u5 : AV} {N z : Int} (h0 : 0 ≤ i) (h1 : i < N) (a : μ 55 8 = N ∧ 0 ≤ N ∧ N ≤ 40) (g : μ 61 i = z ∧ 0 ≤ z ∧ z ≤ 126) (T : ∀ q : Int, q = af 0 z → q ≠ 9 → ∀ u3 u4 u5 : AV, AX κ mX12_faultOf 1 (PE (some (aI P)) μ ν) 4 [aR 55, aI q, aI (i + 1), u3, u4, u5] [] μ ν) (F : af 0 z = 9 → P = i) : AX κ mX12_faultOf 1 (PE (some (aI P)) μ ν) 4 [aR 55, aI 0, aI i, u3, u4, u5] [] μ ν := by
  have hbt : (48 ≤ μ 61 i ∧ μ 61 i ≤ 57 ∧ bt (μ 61 i) 48 57 = 1) ∨ (¬ (48 ≤ μ 61 i ∧ μ 61 i ≤ 57) ∧ bt (μ 61 i) 48 57 = 0) := by
    unfold bt
    split <;> omega
  refine aw_blk oX12_faultOf_4 (pc' := 9) (ls' := [_, _, _, _, _, _]) (st' := [_, _]) (cs := []) rfl trivial ?_
  refine aw_icmp_ge (tgt := 240) eX12_faultOf_9 (by decide) (by omega) (by omega) (fun h36 => ?_) (fun h36 => ?_)
  · first
    | (exfalso; omega; done)
    | (refine aw_blk oX12_faultOf_240 (pc' := 243) (ls' := [_, _, _, _, _, _]) (st' := [_, _]) (cs := []) rfl trivial ?_
       refine aw_icmp_ne (tgt := 251) eX12_faultOf_243 (by decide) (by omega) (by omega) (fun h37 => ?_) (fun h37 => ?_)
       · first
         | (exfalso; omega; done)
         | (refine aw_blk oX12_faultOf_251 (pc' := 255) (ls' := [_, _, _, _, _, _]) (st' := [_]) (cs := []) rfl trivial ?_
            refine aw_iret eX12_faultOf_255 rfl (Nat.le_refl _) (Nat.le_refl _) ?_
            exact pe_i (F (by rw [af_0]; (repeat' split) <;> omega)).symm rfl rfl)
       · first
         | (exfalso; omega; done)
         | (refine aw_blk oX12_faultOf_246 (pc' := 255) (ls' := [_, _, _, _, _, _]) (st' := [_]) (cs := []) rfl trivial ?_
            refine aw_iret eX12_faultOf_255 rfl (Nat.le_refl _) (Nat.le_refl _) ?_
            exact pe_i (F (by rw [af_0]; (repeat' split) <;> omega)).symm rfl rfl))
  · first
    | (exfalso; omega; done)
    | (refine aw_blk oX12_faultOf_12 (pc' := 28) (ls' := [_, _, _, _, _, _]) (st' := [_, _, _]) (cs := [(_, _)]) rfl (⟨⟨by omega, by omega⟩, trivial⟩) ?_
       refine aw_ciS (rest := []) (c_X12_in (by omega) (by omega) (by omega)) kX12_in eX12_faultOf_28 lX12_faultOf_28 rfl rfl (Nat.le_of_ble_eq_true rfl) ⟨Nat.le_of_ble_eq_true rfl, Nat.le_of_ble_eq_true rfl⟩ ⟨Nat.le_refl _, Nat.le_refl _⟩ ?_
       refine aw_blk oX12_faultOf_31 (pc' := 34) (ls' := [_, _, _, _, _, _]) (st' := [_]) (cs := []) rfl trivial ?_
       refine aw_if_ne (tgt := 88) eX12_faultOf_34 (by decide) (by omega) (fun h38 => ?_) (fun h38 => ?_)
       · first
         | (exfalso; omega; done)
         | (refine aw_blk oX12_faultOf_88 (pc' := 90) (ls' := [_, _, _, _, _, _]) (st' := [_, _]) (cs := []) rfl trivial ?_
            refine aw_icmp_ne (tgt := 116) eX12_faultOf_90 (by decide) (by omega) (by omega) (fun h39 => ?_) (fun h39 => ?_)
            · first
              | (exfalso; omega; done)
              | (refine aw_blk oX12_faultOf_116 (pc' := 119) (ls' := [_, _, _, _, _, _]) (st' := [_, _, _]) (cs := []) rfl trivial ?_
                 refine aw_ciS (rest := []) (c_X12_in (by omega) (by omega) (by omega)) kX12_in eX12_faultOf_119 lX12_faultOf_119 rfl rfl (Nat.le_of_ble_eq_true rfl) ⟨Nat.le_of_ble_eq_true rfl, Nat.le_of_ble_eq_true rfl⟩ ⟨Nat.le_refl _, Nat.le_refl _⟩ ?_
                 refine aw_if_eq (tgt := 148) eX12_faultOf_122 (by decide) bt_r (fun hh => have h40 := bt0 hh; ?_) (fun hh => have h40 := bt1 hh; ?_)
                 · first
                   | (exfalso; omega; done)
                   | (refine aw_blk oX12_faultOf_148 (pc' := 151) (ls' := [_, _, _, _, _, _]) (st' := [_, _, _]) (cs := []) rfl trivial ?_
                      refine aw_ciS (rest := []) (c_X12_in (by omega) (by omega) (by omega)) kX12_in eX12_faultOf_151 lX12_faultOf_151 rfl rfl (Nat.le_of_ble_eq_true rfl) ⟨Nat.le_of_ble_eq_true rfl, Nat.le_of_ble_eq_true rfl⟩ ⟨Nat.le_refl _, Nat.le_refl _⟩ ?_
                      refine aw_if_eq (tgt := 175) eX12_faultOf_154 (by decide) bt_r (fun hh => have h41 := bt0 hh; ?_) (fun hh => have h41 := bt1 hh; ?_)
                      · first
                        | (exfalso; omega; done)
                        | (refine aw_blk oX12_faultOf_175 (pc' := 178) (ls' := [_, _, _, _, _, _]) (st' := [_, _]) (cs := []) rfl trivial ?_
                           refine aw_icmp_ne (tgt := 204) eX12_faultOf_178 (by decide) (by omega) (by omega) (fun h42 => ?_) (fun h42 => ?_)
                           · first
                             | (exfalso; omega; done)
                             | (refine aw_blk oX12_faultOf_204 (pc' := 207) (ls' := [_, _, _, _, _, _]) (st' := [_, _]) (cs := []) rfl trivial ?_
                                refine aw_icmp_ne (tgt := 224) eX12_faultOf_207 (by decide) (by omega) (by omega) (fun h43 => ?_) (fun h43 => ?_)
                                · first
                                  | (exfalso; omega; done)
                                  | (refine aw_blk oX12_faultOf_224 (pc' := 226) (ls' := [_, _, _, _, _, _]) (st' := [_]) (cs := []) rfl trivial ?_
                                     refine aw_if_ge (tgt := 231) eX12_faultOf_226 (by decide) (by omega) (fun h44 => ?_) (fun h44 => ?_)
                                     · first
                                       | (exfalso; omega; done)
                                       | (refine aw_blk oX12_faultOf_231 (pc' := 4) (ls' := [_, _, _, _, _, _]) (st' := []) (cs := []) rfl trivial ?_
                                          exact T _ (by rw [af_0]; (repeat' split) <;> omega) (by decide) _ _ _)
                                     · first
                                       | (exfalso; omega; done)
                                       | (refine aw_blk oX12_faultOf_229 (pc' := 230) (ls' := [_, _, _, _, _, _]) (st' := [_]) (cs := []) rfl trivial ?_
                                          refine aw_iret eX12_faultOf_230 rfl (Nat.le_refl _) (Nat.le_refl _) ?_
                                          exact pe_i (F (by rw [af_0]; (repeat' split) <;> omega)).symm rfl rfl))
                                · first
                                  | (exfalso; omega; done)
                                  | (refine aw_blk oX12_faultOf_210 (pc' := 213) (ls' := [_, _, _, _, _, _]) (st' := [_, _]) (cs := []) rfl trivial ?_
                                     refine aw_icmp_ne (tgt := 220) eX12_faultOf_213 (by decide) (by omega) (by omega) (fun h45 => ?_) (fun h45 => ?_)
                                     · first
                                       | (exfalso; omega; done)
                                       | (refine aw_blk oX12_faultOf_220 (pc' := 222) (ls' := [_, _, _, _, _, _]) (st' := [_]) (cs := []) rfl trivial ?_
                                          refine aw_blk oX12_faultOf_222 (pc' := 224) (ls' := [_, _, _, _, _, _]) (st' := []) (cs := []) rfl trivial ?_
                                          refine aw_blk oX12_faultOf_224 (pc' := 226) (ls' := [_, _, _, _, _, _]) (st' := [_]) (cs := []) rfl trivial ?_
                                          refine aw_if_ge (tgt := 231) eX12_faultOf_226 (by decide) (by omega) (fun h46 => ?_) (fun h46 => ?_)
                                          · first
                                            | (exfalso; omega; done)
                                            | (refine aw_blk oX12_faultOf_231 (pc' := 4) (ls' := [_, _, _, _, _, _]) (st' := []) (cs := []) rfl trivial ?_
                                               exact T _ (by rw [af_0]; (repeat' split) <;> omega) (by decide) _ _ _)
                                          · first
                                            | (exfalso; omega; done)
                                            | (refine aw_blk oX12_faultOf_229 (pc' := 230) (ls' := [_, _, _, _, _, _]) (st' := [_]) (cs := []) rfl trivial ?_
                                               refine aw_iret eX12_faultOf_230 rfl (Nat.le_refl _) (Nat.le_refl _) ?_
                                               exact pe_i (F (by rw [af_0]; (repeat' split) <;> omega)).symm rfl rfl))
                                     · first
                                       | (exfalso; omega; done)
                                       | (refine aw_blk oX12_faultOf_216 (pc' := 222) (ls' := [_, _, _, _, _, _]) (st' := [_]) (cs := []) rfl trivial ?_
                                          refine aw_blk oX12_faultOf_222 (pc' := 224) (ls' := [_, _, _, _, _, _]) (st' := []) (cs := []) rfl trivial ?_
                                          refine aw_blk oX12_faultOf_224 (pc' := 226) (ls' := [_, _, _, _, _, _]) (st' := [_]) (cs := []) rfl trivial ?_
                                          refine aw_if_ge (tgt := 231) eX12_faultOf_226 (by decide) (by omega) (fun h47 => ?_) (fun h47 => ?_)
                                          · first
                                            | (exfalso; omega; done)
                                            | (refine aw_blk oX12_faultOf_231 (pc' := 4) (ls' := [_, _, _, _, _, _]) (st' := []) (cs := []) rfl trivial ?_
                                               exact T _ (by rw [af_0]; (repeat' split) <;> omega) (by decide) _ _ _)
                                          · first
                                            | (exfalso; omega; done)
                                            | (refine aw_blk oX12_faultOf_229 (pc' := 230) (ls' := [_, _, _, _, _, _]) (st' := [_]) (cs := []) rfl trivial ?_
                                               refine aw_iret eX12_faultOf_230 rfl (Nat.le_refl _) (Nat.le_refl _) ?_
                                               exact pe_i (F (by rw [af_0]; (repeat' split) <;> omega)).symm rfl rfl))))
                           · first
                             | (exfalso; omega; done)
                             | (refine aw_blk oX12_faultOf_181 (pc' := 186) (ls' := [_, _, _, _, _, _]) (st' := [_, _, _]) (cs := []) rfl trivial ?_
                                refine aw_ciS (rest := []) (c_X12_in (by omega) (by omega) (by omega)) kX12_in eX12_faultOf_186 lX12_faultOf_186 rfl rfl (Nat.le_of_ble_eq_true rfl) ⟨Nat.le_of_ble_eq_true rfl, Nat.le_of_ble_eq_true rfl⟩ ⟨Nat.le_refl _, Nat.le_refl _⟩ ?_
                                refine aw_if_eq (tgt := 197) eX12_faultOf_189 (by decide) bt_r (fun hh => have h48 := bt0 hh; ?_) (fun hh => have h48 := bt1 hh; ?_)
                                · first
                                  | (exfalso; omega; done)
                                  | (refine aw_blk oX12_faultOf_197 (pc' := 199) (ls' := [_, _, _, _, _, _]) (st' := [_]) (cs := []) rfl trivial ?_
                                     refine aw_blk oX12_faultOf_199 (pc' := 224) (ls' := [_, _, _, _, _, _]) (st' := []) (cs := []) rfl trivial ?_
                                     refine aw_blk oX12_faultOf_224 (pc' := 226) (ls' := [_, _, _, _, _, _]) (st' := [_]) (cs := []) rfl trivial ?_
                                     refine aw_if_ge (tgt := 231) eX12_faultOf_226 (by decide) (by omega) (fun h49 => ?_) (fun h49 => ?_)
                                     · first
                                       | (exfalso; omega; done)
                                       | (refine aw_blk oX12_faultOf_231 (pc' := 4) (ls' := [_, _, _, _, _, _]) (st' := []) (cs := []) rfl trivial ?_
                                          exact T _ (by rw [af_0]; (repeat' split) <;> omega) (by decide) _ _ _)
                                     · first
                                       | (exfalso; omega; done)
                                       | (refine aw_blk oX12_faultOf_229 (pc' := 230) (ls' := [_, _, _, _, _, _]) (st' := [_]) (cs := []) rfl trivial ?_
                                          refine aw_iret eX12_faultOf_230 rfl (Nat.le_refl _) (Nat.le_refl _) ?_
                                          exact pe_i (F (by rw [af_0]; (repeat' split) <;> omega)).symm rfl rfl))
                                · first
                                  | (exfalso; omega; done)
                                  | (refine aw_blk oX12_faultOf_192 (pc' := 199) (ls' := [_, _, _, _, _, _]) (st' := [_]) (cs := []) rfl trivial ?_
                                     refine aw_blk oX12_faultOf_199 (pc' := 224) (ls' := [_, _, _, _, _, _]) (st' := []) (cs := []) rfl trivial ?_
                                     refine aw_blk oX12_faultOf_224 (pc' := 226) (ls' := [_, _, _, _, _, _]) (st' := [_]) (cs := []) rfl trivial ?_
                                     refine aw_if_ge (tgt := 231) eX12_faultOf_226 (by decide) (by omega) (fun h50 => ?_) (fun h50 => ?_)
                                     · first
                                       | (exfalso; omega; done)
                                       | (refine aw_blk oX12_faultOf_231 (pc' := 4) (ls' := [_, _, _, _, _, _]) (st' := []) (cs := []) rfl trivial ?_
                                          exact T _ (by rw [af_0]; (repeat' split) <;> omega) (by decide) _ _ _)
                                     · first
                                       | (exfalso; omega; done)
                                       | (refine aw_blk oX12_faultOf_229 (pc' := 230) (ls' := [_, _, _, _, _, _]) (st' := [_]) (cs := []) rfl trivial ?_
                                          refine aw_iret eX12_faultOf_230 rfl (Nat.le_refl _) (Nat.le_refl _) ?_
                                          exact pe_i (F (by rw [af_0]; (repeat' split) <;> omega)).symm rfl rfl))))
                      · first
                        | (exfalso; omega; done)
                        | (refine aw_blk oX12_faultOf_157 (pc' := 160) (ls' := [_, _, _, _, _, _]) (st' := [_, _]) (cs := []) rfl trivial ?_
                           refine aw_icmp_ne (tgt := 168) eX12_faultOf_160 (by decide) (by omega) (by omega) (fun h51 => ?_) (fun h51 => ?_)
                           · first
                             | (exfalso; omega; done)
                             | (refine aw_blk oX12_faultOf_168 (pc' := 170) (ls' := [_, _, _, _, _, _]) (st' := [_]) (cs := []) rfl trivial ?_
                                refine aw_blk oX12_faultOf_170 (pc' := 224) (ls' := [_, _, _, _, _, _]) (st' := []) (cs := []) rfl trivial ?_
                                refine aw_blk oX12_faultOf_224 (pc' := 226) (ls' := [_, _, _, _, _, _]) (st' := [_]) (cs := []) rfl trivial ?_
                                refine aw_if_ge (tgt := 231) eX12_faultOf_226 (by decide) (by omega) (fun h52 => ?_) (fun h52 => ?_)
                                · first
                                  | (exfalso; omega; done)
                                  | (refine aw_blk oX12_faultOf_231 (pc' := 4) (ls' := [_, _, _, _, _, _]) (st' := []) (cs := []) rfl trivial ?_
                                     exact T _ (by rw [af_0]; (repeat' split) <;> omega) (by decide) _ _ _)
                                · first
                                  | (exfalso; omega; done)
                                  | (refine aw_blk oX12_faultOf_229 (pc' := 230) (ls' := [_, _, _, _, _, _]) (st' := [_]) (cs := []) rfl trivial ?_
                                     refine aw_iret eX12_faultOf_230 rfl (Nat.le_refl _) (Nat.le_refl _) ?_
                                     exact pe_i (F (by rw [af_0]; (repeat' split) <;> omega)).symm rfl rfl))
                           · first
                             | (exfalso; omega; done)
                             | (refine aw_blk oX12_faultOf_163 (pc' := 170) (ls' := [_, _, _, _, _, _]) (st' := [_]) (cs := []) rfl trivial ?_
                                refine aw_blk oX12_faultOf_170 (pc' := 224) (ls' := [_, _, _, _, _, _]) (st' := []) (cs := []) rfl trivial ?_
                                refine aw_blk oX12_faultOf_224 (pc' := 226) (ls' := [_, _, _, _, _, _]) (st' := [_]) (cs := []) rfl trivial ?_
                                refine aw_if_ge (tgt := 231) eX12_faultOf_226 (by decide) (by omega) (fun h53 => ?_) (fun h53 => ?_)
                                · first
                                  | (exfalso; omega; done)
                                  | (refine aw_blk oX12_faultOf_231 (pc' := 4) (ls' := [_, _, _, _, _, _]) (st' := []) (cs := []) rfl trivial ?_
                                     exact T _ (by rw [af_0]; (repeat' split) <;> omega) (by decide) _ _ _)
                                · first
                                  | (exfalso; omega; done)
                                  | (refine aw_blk oX12_faultOf_229 (pc' := 230) (ls' := [_, _, _, _, _, _]) (st' := [_]) (cs := []) rfl trivial ?_
                                     refine aw_iret eX12_faultOf_230 rfl (Nat.le_refl _) (Nat.le_refl _) ?_
                                     exact pe_i (F (by rw [af_0]; (repeat' split) <;> omega)).symm rfl rfl))))
                 · first
                   | (exfalso; omega; done)
                   | (refine aw_blk oX12_faultOf_125 (pc' := 127) (ls' := [_, _, _, _, _, _]) (st' := [_]) (cs := []) rfl trivial ?_
                      refine aw_if_eq (tgt := 148) eX12_faultOf_127 (by decide) (by omega) (fun h54 => ?_) (fun h54 => ?_)
                      · first
                        | (exfalso; omega; done)
                        | (refine aw_blk oX12_faultOf_148 (pc' := 151) (ls' := [_, _, _, _, _, _]) (st' := [_, _, _]) (cs := []) rfl trivial ?_
                           refine aw_ciS (rest := []) (c_X12_in (by omega) (by omega) (by omega)) kX12_in eX12_faultOf_151 lX12_faultOf_151 rfl rfl (Nat.le_of_ble_eq_true rfl) ⟨Nat.le_of_ble_eq_true rfl, Nat.le_of_ble_eq_true rfl⟩ ⟨Nat.le_refl _, Nat.le_refl _⟩ ?_
                           refine aw_if_eq (tgt := 175) eX12_faultOf_154 (by decide) bt_r (fun hh => have h55 := bt0 hh; ?_) (fun hh => have h55 := bt1 hh; ?_)
                           · first
                             | (exfalso; omega; done)
                             | (refine aw_blk oX12_faultOf_175 (pc' := 178) (ls' := [_, _, _, _, _, _]) (st' := [_, _]) (cs := []) rfl trivial ?_
                                refine aw_icmp_ne (tgt := 204) eX12_faultOf_178 (by decide) (by omega) (by omega) (fun h56 => ?_) (fun h56 => ?_)
                                · first
                                  | (exfalso; omega; done)
                                  | (refine aw_blk oX12_faultOf_204 (pc' := 207) (ls' := [_, _, _, _, _, _]) (st' := [_, _]) (cs := []) rfl trivial ?_
                                     refine aw_icmp_ne (tgt := 224) eX12_faultOf_207 (by decide) (by omega) (by omega) (fun h57 => ?_) (fun h57 => ?_)
                                     · first
                                       | (exfalso; omega; done)
                                       | (refine aw_blk oX12_faultOf_224 (pc' := 226) (ls' := [_, _, _, _, _, _]) (st' := [_]) (cs := []) rfl trivial ?_
                                          refine aw_if_ge (tgt := 231) eX12_faultOf_226 (by decide) (by omega) (fun h58 => ?_) (fun h58 => ?_)
                                          · first
                                            | (exfalso; omega; done)
                                            | (refine aw_blk oX12_faultOf_231 (pc' := 4) (ls' := [_, _, _, _, _, _]) (st' := []) (cs := []) rfl trivial ?_
                                               exact T _ (by rw [af_0]; (repeat' split) <;> omega) (by decide) _ _ _)
                                          · first
                                            | (exfalso; omega; done)
                                            | (refine aw_blk oX12_faultOf_229 (pc' := 230) (ls' := [_, _, _, _, _, _]) (st' := [_]) (cs := []) rfl trivial ?_
                                               refine aw_iret eX12_faultOf_230 rfl (Nat.le_refl _) (Nat.le_refl _) ?_
                                               exact pe_i (F (by rw [af_0]; (repeat' split) <;> omega)).symm rfl rfl))
                                     · first
                                       | (exfalso; omega; done)
                                       | (refine aw_blk oX12_faultOf_210 (pc' := 213) (ls' := [_, _, _, _, _, _]) (st' := [_, _]) (cs := []) rfl trivial ?_
                                          refine aw_icmp_ne (tgt := 220) eX12_faultOf_213 (by decide) (by omega) (by omega) (fun h59 => ?_) (fun h59 => ?_)
                                          · first
                                            | (exfalso; omega; done)
                                            | (refine aw_blk oX12_faultOf_220 (pc' := 222) (ls' := [_, _, _, _, _, _]) (st' := [_]) (cs := []) rfl trivial ?_
                                               refine aw_blk oX12_faultOf_222 (pc' := 224) (ls' := [_, _, _, _, _, _]) (st' := []) (cs := []) rfl trivial ?_
                                               refine aw_blk oX12_faultOf_224 (pc' := 226) (ls' := [_, _, _, _, _, _]) (st' := [_]) (cs := []) rfl trivial ?_
                                               refine aw_if_ge (tgt := 231) eX12_faultOf_226 (by decide) (by omega) (fun h60 => ?_) (fun h60 => ?_)
                                               · first
                                                 | (exfalso; omega; done)
                                                 | (refine aw_blk oX12_faultOf_231 (pc' := 4) (ls' := [_, _, _, _, _, _]) (st' := []) (cs := []) rfl trivial ?_
                                                    exact T _ (by rw [af_0]; (repeat' split) <;> omega) (by decide) _ _ _)
                                               · first
                                                 | (exfalso; omega; done)
                                                 | (refine aw_blk oX12_faultOf_229 (pc' := 230) (ls' := [_, _, _, _, _, _]) (st' := [_]) (cs := []) rfl trivial ?_
                                                    refine aw_iret eX12_faultOf_230 rfl (Nat.le_refl _) (Nat.le_refl _) ?_
                                                    exact pe_i (F (by rw [af_0]; (repeat' split) <;> omega)).symm rfl rfl))
                                          · first
                                            | (exfalso; omega; done)
                                            | (refine aw_blk oX12_faultOf_216 (pc' := 222) (ls' := [_, _, _, _, _, _]) (st' := [_]) (cs := []) rfl trivial ?_
                                               refine aw_blk oX12_faultOf_222 (pc' := 224) (ls' := [_, _, _, _, _, _]) (st' := []) (cs := []) rfl trivial ?_
                                               refine aw_blk oX12_faultOf_224 (pc' := 226) (ls' := [_, _, _, _, _, _]) (st' := [_]) (cs := []) rfl trivial ?_
                                               refine aw_if_ge (tgt := 231) eX12_faultOf_226 (by decide) (by omega) (fun h61 => ?_) (fun h61 => ?_)
                                               · first
                                                 | (exfalso; omega; done)
                                                 | (refine aw_blk oX12_faultOf_231 (pc' := 4) (ls' := [_, _, _, _, _, _]) (st' := []) (cs := []) rfl trivial ?_
                                                    exact T _ (by rw [af_0]; (repeat' split) <;> omega) (by decide) _ _ _)
                                               · first
                                                 | (exfalso; omega; done)
                                                 | (refine aw_blk oX12_faultOf_229 (pc' := 230) (ls' := [_, _, _, _, _, _]) (st' := [_]) (cs := []) rfl trivial ?_
                                                    refine aw_iret eX12_faultOf_230 rfl (Nat.le_refl _) (Nat.le_refl _) ?_
                                                    exact pe_i (F (by rw [af_0]; (repeat' split) <;> omega)).symm rfl rfl))))
                                · first
                                  | (exfalso; omega; done)
                                  | (refine aw_blk oX12_faultOf_181 (pc' := 186) (ls' := [_, _, _, _, _, _]) (st' := [_, _, _]) (cs := []) rfl trivial ?_
                                     refine aw_ciS (rest := []) (c_X12_in (by omega) (by omega) (by omega)) kX12_in eX12_faultOf_186 lX12_faultOf_186 rfl rfl (Nat.le_of_ble_eq_true rfl) ⟨Nat.le_of_ble_eq_true rfl, Nat.le_of_ble_eq_true rfl⟩ ⟨Nat.le_refl _, Nat.le_refl _⟩ ?_
                                     refine aw_if_eq (tgt := 197) eX12_faultOf_189 (by decide) bt_r (fun hh => have h62 := bt0 hh; ?_) (fun hh => have h62 := bt1 hh; ?_)
                                     · first
                                       | (exfalso; omega; done)
                                       | (refine aw_blk oX12_faultOf_197 (pc' := 199) (ls' := [_, _, _, _, _, _]) (st' := [_]) (cs := []) rfl trivial ?_
                                          refine aw_blk oX12_faultOf_199 (pc' := 224) (ls' := [_, _, _, _, _, _]) (st' := []) (cs := []) rfl trivial ?_
                                          refine aw_blk oX12_faultOf_224 (pc' := 226) (ls' := [_, _, _, _, _, _]) (st' := [_]) (cs := []) rfl trivial ?_
                                          refine aw_if_ge (tgt := 231) eX12_faultOf_226 (by decide) (by omega) (fun h63 => ?_) (fun h63 => ?_)
                                          · first
                                            | (exfalso; omega; done)
                                            | (refine aw_blk oX12_faultOf_231 (pc' := 4) (ls' := [_, _, _, _, _, _]) (st' := []) (cs := []) rfl trivial ?_
                                               exact T _ (by rw [af_0]; (repeat' split) <;> omega) (by decide) _ _ _)
                                          · first
                                            | (exfalso; omega; done)
                                            | (refine aw_blk oX12_faultOf_229 (pc' := 230) (ls' := [_, _, _, _, _, _]) (st' := [_]) (cs := []) rfl trivial ?_
                                               refine aw_iret eX12_faultOf_230 rfl (Nat.le_refl _) (Nat.le_refl _) ?_
                                               exact pe_i (F (by rw [af_0]; (repeat' split) <;> omega)).symm rfl rfl))
                                     · first
                                       | (exfalso; omega; done)
                                       | (refine aw_blk oX12_faultOf_192 (pc' := 199) (ls' := [_, _, _, _, _, _]) (st' := [_]) (cs := []) rfl trivial ?_
                                          refine aw_blk oX12_faultOf_199 (pc' := 224) (ls' := [_, _, _, _, _, _]) (st' := []) (cs := []) rfl trivial ?_
                                          refine aw_blk oX12_faultOf_224 (pc' := 226) (ls' := [_, _, _, _, _, _]) (st' := [_]) (cs := []) rfl trivial ?_
                                          refine aw_if_ge (tgt := 231) eX12_faultOf_226 (by decide) (by omega) (fun h64 => ?_) (fun h64 => ?_)
                                          · first
                                            | (exfalso; omega; done)
                                            | (refine aw_blk oX12_faultOf_231 (pc' := 4) (ls' := [_, _, _, _, _, _]) (st' := []) (cs := []) rfl trivial ?_
                                               exact T _ (by rw [af_0]; (repeat' split) <;> omega) (by decide) _ _ _)
                                          · first
                                            | (exfalso; omega; done)
                                            | (refine aw_blk oX12_faultOf_229 (pc' := 230) (ls' := [_, _, _, _, _, _]) (st' := [_]) (cs := []) rfl trivial ?_
                                               refine aw_iret eX12_faultOf_230 rfl (Nat.le_refl _) (Nat.le_refl _) ?_
                                               exact pe_i (F (by rw [af_0]; (repeat' split) <;> omega)).symm rfl rfl))))
                           · first
                             | (exfalso; omega; done)
                             | (refine aw_blk oX12_faultOf_157 (pc' := 160) (ls' := [_, _, _, _, _, _]) (st' := [_, _]) (cs := []) rfl trivial ?_
                                refine aw_icmp_ne (tgt := 168) eX12_faultOf_160 (by decide) (by omega) (by omega) (fun h65 => ?_) (fun h65 => ?_)
                                · first
                                  | (exfalso; omega; done)
                                  | (refine aw_blk oX12_faultOf_168 (pc' := 170) (ls' := [_, _, _, _, _, _]) (st' := [_]) (cs := []) rfl trivial ?_
                                     refine aw_blk oX12_faultOf_170 (pc' := 224) (ls' := [_, _, _, _, _, _]) (st' := []) (cs := []) rfl trivial ?_
                                     refine aw_blk oX12_faultOf_224 (pc' := 226) (ls' := [_, _, _, _, _, _]) (st' := [_]) (cs := []) rfl trivial ?_
                                     refine aw_if_ge (tgt := 231) eX12_faultOf_226 (by decide) (by omega) (fun h66 => ?_) (fun h66 => ?_)
                                     · first
                                       | (exfalso; omega; done)
                                       | (refine aw_blk oX12_faultOf_231 (pc' := 4) (ls' := [_, _, _, _, _, _]) (st' := []) (cs := []) rfl trivial ?_
                                          exact T _ (by rw [af_0]; (repeat' split) <;> omega) (by decide) _ _ _)
                                     · first
                                       | (exfalso; omega; done)
                                       | (refine aw_blk oX12_faultOf_229 (pc' := 230) (ls' := [_, _, _, _, _, _]) (st' := [_]) (cs := []) rfl trivial ?_
                                          refine aw_iret eX12_faultOf_230 rfl (Nat.le_refl _) (Nat.le_refl _) ?_
                                          exact pe_i (F (by rw [af_0]; (repeat' split) <;> omega)).symm rfl rfl))
                                · first
                                  | (exfalso; omega; done)
                                  | (refine aw_blk oX12_faultOf_163 (pc' := 170) (ls' := [_, _, _, _, _, _]) (st' := [_]) (cs := []) rfl trivial ?_
                                     refine aw_blk oX12_faultOf_170 (pc' := 224) (ls' := [_, _, _, _, _, _]) (st' := []) (cs := []) rfl trivial ?_
                                     refine aw_blk oX12_faultOf_224 (pc' := 226) (ls' := [_, _, _, _, _, _]) (st' := [_]) (cs := []) rfl trivial ?_
                                     refine aw_if_ge (tgt := 231) eX12_faultOf_226 (by decide) (by omega) (fun h67 => ?_) (fun h67 => ?_)
                                     · first
                                       | (exfalso; omega; done)
                                       | (refine aw_blk oX12_faultOf_231 (pc' := 4) (ls' := [_, _, _, _, _, _]) (st' := []) (cs := []) rfl trivial ?_
                                          exact T _ (by rw [af_0]; (repeat' split) <;> omega) (by decide) _ _ _)
                                     · first
                                       | (exfalso; omega; done)
                                       | (refine aw_blk oX12_faultOf_229 (pc' := 230) (ls' := [_, _, _, _, _, _]) (st' := [_]) (cs := []) rfl trivial ?_
                                          refine aw_iret eX12_faultOf_230 rfl (Nat.le_refl _) (Nat.le_refl _) ?_
                                          exact pe_i (F (by rw [af_0]; (repeat' split) <;> omega)).symm rfl rfl))))
                      · first
                        | (exfalso; omega; done)
                        | (refine aw_blk oX12_faultOf_130 (pc' := 132) (ls' := [_, _, _, _, _, _]) (st' := [_, _]) (cs := []) rfl trivial ?_
                           refine aw_icmp_ge (tgt := 141) eX12_faultOf_132 (by decide) (by omega) (by omega) (fun h68 => ?_) (fun h68 => ?_)
                           · first
                             | (exfalso; omega; done)
                             | (refine aw_blk oX12_faultOf_141 (pc' := 143) (ls' := [_, _, _, _, _, _]) (st' := [_]) (cs := []) rfl trivial ?_
                                refine aw_blk oX12_faultOf_143 (pc' := 224) (ls' := [_, _, _, _, _, _]) (st' := []) (cs := []) rfl trivial ?_
                                refine aw_blk oX12_faultOf_224 (pc' := 226) (ls' := [_, _, _, _, _, _]) (st' := [_]) (cs := []) rfl trivial ?_
                                refine aw_if_ge (tgt := 231) eX12_faultOf_226 (by decide) (by omega) (fun h69 => ?_) (fun h69 => ?_)
                                · first
                                  | (exfalso; omega; done)
                                  | (refine aw_blk oX12_faultOf_231 (pc' := 4) (ls' := [_, _, _, _, _, _]) (st' := []) (cs := []) rfl trivial ?_
                                     exact T _ (by rw [af_0]; (repeat' split) <;> omega) (by decide) _ _ _)
                                · first
                                  | (exfalso; omega; done)
                                  | (refine aw_blk oX12_faultOf_229 (pc' := 230) (ls' := [_, _, _, _, _, _]) (st' := [_]) (cs := []) rfl trivial ?_
                                     refine aw_iret eX12_faultOf_230 rfl (Nat.le_refl _) (Nat.le_refl _) ?_
                                     exact pe_i (F (by rw [af_0]; (repeat' split) <;> omega)).symm rfl rfl))
                           · first
                             | (exfalso; omega; done)
                             | (refine aw_blk oX12_faultOf_135 (pc' := 143) (ls' := [_, _, _, _, _, _]) (st' := [_]) (cs := []) rfl trivial ?_
                                refine aw_blk oX12_faultOf_143 (pc' := 224) (ls' := [_, _, _, _, _, _]) (st' := []) (cs := []) rfl trivial ?_
                                refine aw_blk oX12_faultOf_224 (pc' := 226) (ls' := [_, _, _, _, _, _]) (st' := [_]) (cs := []) rfl trivial ?_
                                refine aw_if_ge (tgt := 231) eX12_faultOf_226 (by decide) (by omega) (fun h70 => ?_) (fun h70 => ?_)
                                · first
                                  | (exfalso; omega; done)
                                  | (refine aw_blk oX12_faultOf_231 (pc' := 4) (ls' := [_, _, _, _, _, _]) (st' := []) (cs := []) rfl trivial ?_
                                     exact T _ (by rw [af_0]; (repeat' split) <;> omega) (by decide) _ _ _)
                                · first
                                  | (exfalso; omega; done)
                                  | (refine aw_blk oX12_faultOf_229 (pc' := 230) (ls' := [_, _, _, _, _, _]) (st' := [_]) (cs := []) rfl trivial ?_
                                     refine aw_iret eX12_faultOf_230 rfl (Nat.le_refl _) (Nat.le_refl _) ?_
                                     exact pe_i (F (by rw [af_0]; (repeat' split) <;> omega)).symm rfl rfl)))))
            · first
              | (exfalso; omega; done)
              | (refine aw_blk oX12_faultOf_93 (pc' := 96) (ls' := [_, _, _, _, _, _]) (st' := [_, _]) (cs := []) rfl trivial ?_
                 refine aw_icmp_eq (tgt := 105) eX12_faultOf_96 (by decide) (by omega) (by omega) (fun h71 => ?_) (fun h71 => ?_)
                 · first
                   | (exfalso; omega; done)
                   | (refine aw_blk oX12_faultOf_105 (pc' := 111) (ls' := [_, _, _, _, _, _]) (st' := [_]) (cs := []) rfl trivial ?_
                      refine aw_blk oX12_faultOf_111 (pc' := 224) (ls' := [_, _, _, _, _, _]) (st' := []) (cs := []) rfl trivial ?_
                      refine aw_blk oX12_faultOf_224 (pc' := 226) (ls' := [_, _, _, _, _, _]) (st' := [_]) (cs := []) rfl trivial ?_
                      refine aw_if_ge (tgt := 231) eX12_faultOf_226 (by decide) (by omega) (fun h72 => ?_) (fun h72 => ?_)
                      · first
                        | (exfalso; omega; done)
                        | (refine aw_blk oX12_faultOf_231 (pc' := 4) (ls' := [_, _, _, _, _, _]) (st' := []) (cs := []) rfl trivial ?_
                           exact T _ (by rw [af_0]; (repeat' split) <;> omega) (by decide) _ _ _)
                      · first
                        | (exfalso; omega; done)
                        | (refine aw_blk oX12_faultOf_229 (pc' := 230) (ls' := [_, _, _, _, _, _]) (st' := [_]) (cs := []) rfl trivial ?_
                           refine aw_iret eX12_faultOf_230 rfl (Nat.le_refl _) (Nat.le_refl _) ?_
                           exact pe_i (F (by rw [af_0]; (repeat' split) <;> omega)).symm rfl rfl))
                 · first
                   | (exfalso; omega; done)
                   | (refine aw_blk oX12_faultOf_99 (pc' := 102) (ls' := [_, _, _, _, _, _]) (st' := [_, _]) (cs := []) rfl trivial ?_
                      refine aw_icmp_ne (tgt := 109) eX12_faultOf_102 (by decide) (by omega) (by omega) (fun h73 => ?_) (fun h73 => ?_)
                      · first
                        | (exfalso; omega; done)
                        | (refine aw_blk oX12_faultOf_109 (pc' := 111) (ls' := [_, _, _, _, _, _]) (st' := [_]) (cs := []) rfl trivial ?_
                           refine aw_blk oX12_faultOf_111 (pc' := 224) (ls' := [_, _, _, _, _, _]) (st' := []) (cs := []) rfl trivial ?_
                           refine aw_blk oX12_faultOf_224 (pc' := 226) (ls' := [_, _, _, _, _, _]) (st' := [_]) (cs := []) rfl trivial ?_
                           refine aw_if_ge (tgt := 231) eX12_faultOf_226 (by decide) (by omega) (fun h74 => ?_) (fun h74 => ?_)
                           · first
                             | (exfalso; omega; done)
                             | (refine aw_blk oX12_faultOf_231 (pc' := 4) (ls' := [_, _, _, _, _, _]) (st' := []) (cs := []) rfl trivial ?_
                                exact T _ (by rw [af_0]; (repeat' split) <;> omega) (by decide) _ _ _)
                           · first
                             | (exfalso; omega; done)
                             | (refine aw_blk oX12_faultOf_229 (pc' := 230) (ls' := [_, _, _, _, _, _]) (st' := [_]) (cs := []) rfl trivial ?_
                                refine aw_iret eX12_faultOf_230 rfl (Nat.le_refl _) (Nat.le_refl _) ?_
                                exact pe_i (F (by rw [af_0]; (repeat' split) <;> omega)).symm rfl rfl))
                      · first
                        | (exfalso; omega; done)
                        | (refine aw_blk oX12_faultOf_105 (pc' := 111) (ls' := [_, _, _, _, _, _]) (st' := [_]) (cs := []) rfl trivial ?_
                           refine aw_blk oX12_faultOf_111 (pc' := 224) (ls' := [_, _, _, _, _, _]) (st' := []) (cs := []) rfl trivial ?_
                           refine aw_blk oX12_faultOf_224 (pc' := 226) (ls' := [_, _, _, _, _, _]) (st' := [_]) (cs := []) rfl trivial ?_
                           refine aw_if_ge (tgt := 231) eX12_faultOf_226 (by decide) (by omega) (fun h75 => ?_) (fun h75 => ?_)
                           · first
                             | (exfalso; omega; done)
                             | (refine aw_blk oX12_faultOf_231 (pc' := 4) (ls' := [_, _, _, _, _, _]) (st' := []) (cs := []) rfl trivial ?_
                                exact T _ (by rw [af_0]; (repeat' split) <;> omega) (by decide) _ _ _)
                           · first
                             | (exfalso; omega; done)
                             | (refine aw_blk oX12_faultOf_229 (pc' := 230) (ls' := [_, _, _, _, _, _]) (st' := [_]) (cs := []) rfl trivial ?_
                                refine aw_iret eX12_faultOf_230 rfl (Nat.le_refl _) (Nat.le_refl _) ?_
                                exact pe_i (F (by rw [af_0]; (repeat' split) <;> omega)).symm rfl rfl)))))
       · first
         | (exfalso; omega; done)
         | (refine aw_blk oX12_faultOf_37 (pc' := 40) (ls' := [_, _, _, _, _, _]) (st' := [_, _]) (cs := []) rfl trivial ?_
            refine aw_icmp_eq (tgt := 61) eX12_faultOf_40 (by decide) (by omega) (by omega) (fun h76 => ?_) (fun h76 => ?_)
            · first
              | (exfalso; omega; done)
              | (refine aw_blk oX12_faultOf_61 (pc' := 83) (ls' := [_, _, _, _, _, _]) (st' := [_]) (cs := []) rfl trivial ?_
                 refine aw_blk oX12_faultOf_83 (pc' := 224) (ls' := [_, _, _, _, _, _]) (st' := []) (cs := []) rfl trivial ?_
                 refine aw_blk oX12_faultOf_224 (pc' := 226) (ls' := [_, _, _, _, _, _]) (st' := [_]) (cs := []) rfl trivial ?_
                 refine aw_if_ge (tgt := 231) eX12_faultOf_226 (by decide) (by omega) (fun h77 => ?_) (fun h77 => ?_)
                 · first
                   | (exfalso; omega; done)
                   | (refine aw_blk oX12_faultOf_231 (pc' := 4) (ls' := [_, _, _, _, _, _]) (st' := []) (cs := []) rfl trivial ?_
                      exact T _ (by rw [af_0]; (repeat' split) <;> omega) (by decide) _ _ _)
                 · first
                   | (exfalso; omega; done)
                   | (refine aw_blk oX12_faultOf_229 (pc' := 230) (ls' := [_, _, _, _, _, _]) (st' := [_]) (cs := []) rfl trivial ?_
                      refine aw_iret eX12_faultOf_230 rfl (Nat.le_refl _) (Nat.le_refl _) ?_
                      exact pe_i (F (by rw [af_0]; (repeat' split) <;> omega)).symm rfl rfl))
            · first
              | (exfalso; omega; done)
              | (refine aw_blk oX12_faultOf_43 (pc' := 46) (ls' := [_, _, _, _, _, _]) (st' := [_, _]) (cs := []) rfl trivial ?_
                 refine aw_icmp_eq (tgt := 61) eX12_faultOf_46 (by decide) (by omega) (by omega) (fun h78 => ?_) (fun h78 => ?_)
                 · first
                   | (exfalso; omega; done)
                   | (refine aw_blk oX12_faultOf_61 (pc' := 83) (ls' := [_, _, _, _, _, _]) (st' := [_]) (cs := []) rfl trivial ?_
                      refine aw_blk oX12_faultOf_83 (pc' := 224) (ls' := [_, _, _, _, _, _]) (st' := []) (cs := []) rfl trivial ?_
                      refine aw_blk oX12_faultOf_224 (pc' := 226) (ls' := [_, _, _, _, _, _]) (st' := [_]) (cs := []) rfl trivial ?_
                      refine aw_if_ge (tgt := 231) eX12_faultOf_226 (by decide) (by omega) (fun h79 => ?_) (fun h79 => ?_)
                      · first
                        | (exfalso; omega; done)
                        | (refine aw_blk oX12_faultOf_231 (pc' := 4) (ls' := [_, _, _, _, _, _]) (st' := []) (cs := []) rfl trivial ?_
                           exact T _ (by rw [af_0]; (repeat' split) <;> omega) (by decide) _ _ _)
                      · first
                        | (exfalso; omega; done)
                        | (refine aw_blk oX12_faultOf_229 (pc' := 230) (ls' := [_, _, _, _, _, _]) (st' := [_]) (cs := []) rfl trivial ?_
                           refine aw_iret eX12_faultOf_230 rfl (Nat.le_refl _) (Nat.le_refl _) ?_
                           exact pe_i (F (by rw [af_0]; (repeat' split) <;> omega)).symm rfl rfl))
                 · first
                   | (exfalso; omega; done)
                   | (refine aw_blk oX12_faultOf_49 (pc' := 52) (ls' := [_, _, _, _, _, _]) (st' := [_, _]) (cs := []) rfl trivial ?_
                      refine aw_icmp_eq (tgt := 61) eX12_faultOf_52 (by decide) (by omega) (by omega) (fun h80 => ?_) (fun h80 => ?_)
                      · first
                        | (exfalso; omega; done)
                        | (refine aw_blk oX12_faultOf_61 (pc' := 83) (ls' := [_, _, _, _, _, _]) (st' := [_]) (cs := []) rfl trivial ?_
                           refine aw_blk oX12_faultOf_83 (pc' := 224) (ls' := [_, _, _, _, _, _]) (st' := []) (cs := []) rfl trivial ?_
                           refine aw_blk oX12_faultOf_224 (pc' := 226) (ls' := [_, _, _, _, _, _]) (st' := [_]) (cs := []) rfl trivial ?_
                           refine aw_if_ge (tgt := 231) eX12_faultOf_226 (by decide) (by omega) (fun h81 => ?_) (fun h81 => ?_)
                           · first
                             | (exfalso; omega; done)
                             | (refine aw_blk oX12_faultOf_231 (pc' := 4) (ls' := [_, _, _, _, _, _]) (st' := []) (cs := []) rfl trivial ?_
                                exact T _ (by rw [af_0]; (repeat' split) <;> omega) (by decide) _ _ _)
                           · first
                             | (exfalso; omega; done)
                             | (refine aw_blk oX12_faultOf_229 (pc' := 230) (ls' := [_, _, _, _, _, _]) (st' := [_]) (cs := []) rfl trivial ?_
                                refine aw_iret eX12_faultOf_230 rfl (Nat.le_refl _) (Nat.le_refl _) ?_
                                exact pe_i (F (by rw [af_0]; (repeat' split) <;> omega)).symm rfl rfl))
                      · first
                        | (exfalso; omega; done)
                        | (refine aw_blk oX12_faultOf_55 (pc' := 58) (ls' := [_, _, _, _, _, _]) (st' := [_, _]) (cs := []) rfl trivial ?_
                           refine aw_icmp_ne (tgt := 65) eX12_faultOf_58 (by decide) (by omega) (by omega) (fun h82 => ?_) (fun h82 => ?_)
                           · first
                             | (exfalso; omega; done)
                             | (refine aw_blk oX12_faultOf_65 (pc' := 70) (ls' := [_, _, _, _, _, _]) (st' := [_, _, _]) (cs := []) rfl trivial ?_
                                refine aw_ciS (rest := []) (c_X12_in (by omega) (by omega) (by omega)) kX12_in eX12_faultOf_70 lX12_faultOf_70 rfl rfl (Nat.le_of_ble_eq_true rfl) ⟨Nat.le_of_ble_eq_true rfl, Nat.le_of_ble_eq_true rfl⟩ ⟨Nat.le_refl _, Nat.le_refl _⟩ ?_
                                refine aw_if_eq (tgt := 81) eX12_faultOf_73 (by decide) bt_r (fun hh => have h83 := bt0 hh; ?_) (fun hh => have h83 := bt1 hh; ?_)
                                · first
                                  | (exfalso; omega; done)
                                  | (refine aw_blk oX12_faultOf_81 (pc' := 83) (ls' := [_, _, _, _, _, _]) (st' := [_]) (cs := []) rfl trivial ?_
                                     refine aw_blk oX12_faultOf_83 (pc' := 224) (ls' := [_, _, _, _, _, _]) (st' := []) (cs := []) rfl trivial ?_
                                     refine aw_blk oX12_faultOf_224 (pc' := 226) (ls' := [_, _, _, _, _, _]) (st' := [_]) (cs := []) rfl trivial ?_
                                     refine aw_if_ge (tgt := 231) eX12_faultOf_226 (by decide) (by omega) (fun h84 => ?_) (fun h84 => ?_)
                                     · first
                                       | (exfalso; omega; done)
                                       | (refine aw_blk oX12_faultOf_231 (pc' := 4) (ls' := [_, _, _, _, _, _]) (st' := []) (cs := []) rfl trivial ?_
                                          exact T _ (by rw [af_0]; (repeat' split) <;> omega) (by decide) _ _ _)
                                     · first
                                       | (exfalso; omega; done)
                                       | (refine aw_blk oX12_faultOf_229 (pc' := 230) (ls' := [_, _, _, _, _, _]) (st' := [_]) (cs := []) rfl trivial ?_
                                          refine aw_iret eX12_faultOf_230 rfl (Nat.le_refl _) (Nat.le_refl _) ?_
                                          exact pe_i (F (by rw [af_0]; (repeat' split) <;> omega)).symm rfl rfl))
                                · first
                                  | (exfalso; omega; done)
                                  | (refine aw_blk oX12_faultOf_76 (pc' := 83) (ls' := [_, _, _, _, _, _]) (st' := [_]) (cs := []) rfl trivial ?_
                                     refine aw_blk oX12_faultOf_83 (pc' := 224) (ls' := [_, _, _, _, _, _]) (st' := []) (cs := []) rfl trivial ?_
                                     refine aw_blk oX12_faultOf_224 (pc' := 226) (ls' := [_, _, _, _, _, _]) (st' := [_]) (cs := []) rfl trivial ?_
                                     refine aw_if_ge (tgt := 231) eX12_faultOf_226 (by decide) (by omega) (fun h85 => ?_) (fun h85 => ?_)
                                     · first
                                       | (exfalso; omega; done)
                                       | (refine aw_blk oX12_faultOf_231 (pc' := 4) (ls' := [_, _, _, _, _, _]) (st' := []) (cs := []) rfl trivial ?_
                                          exact T _ (by rw [af_0]; (repeat' split) <;> omega) (by decide) _ _ _)
                                     · first
                                       | (exfalso; omega; done)
                                       | (refine aw_blk oX12_faultOf_229 (pc' := 230) (ls' := [_, _, _, _, _, _]) (st' := [_]) (cs := []) rfl trivial ?_
                                          refine aw_iret eX12_faultOf_230 rfl (Nat.le_refl _) (Nat.le_refl _) ?_
                                          exact pe_i (F (by rw [af_0]; (repeat' split) <;> omega)).symm rfl rfl)))
                           · first
                             | (exfalso; omega; done)
                             | (refine aw_blk oX12_faultOf_61 (pc' := 83) (ls' := [_, _, _, _, _, _]) (st' := [_]) (cs := []) rfl trivial ?_
                                refine aw_blk oX12_faultOf_83 (pc' := 224) (ls' := [_, _, _, _, _, _]) (st' := []) (cs := []) rfl trivial ?_
                                refine aw_blk oX12_faultOf_224 (pc' := 226) (ls' := [_, _, _, _, _, _]) (st' := [_]) (cs := []) rfl trivial ?_
                                refine aw_if_ge (tgt := 231) eX12_faultOf_226 (by decide) (by omega) (fun h86 => ?_) (fun h86 => ?_)
                                · first
                                  | (exfalso; omega; done)
                                  | (refine aw_blk oX12_faultOf_231 (pc' := 4) (ls' := [_, _, _, _, _, _]) (st' := []) (cs := []) rfl trivial ?_
                                     exact T _ (by rw [af_0]; (repeat' split) <;> omega) (by decide) _ _ _)
                                · first
                                  | (exfalso; omega; done)
                                  | (refine aw_blk oX12_faultOf_229 (pc' := 230) (ls' := [_, _, _, _, _, _]) (st' := [_]) (cs := []) rfl trivial ?_
                                     refine aw_iret eX12_faultOf_230 rfl (Nat.le_refl _) (Nat.le_refl _) ?_
                                     exact pe_i (F (by rw [af_0]; (repeat' split) <;> omega)).symm rfl rfl)))))))
theorem s_faultOf_1 {κ : KX} {μ : MM} {ν : ML} {P : Int} {i : Int} {u3 u4 u5 : AV} {N z : Int} (h0 : 0 ≤ i) (h1 : i < N) (a : μ 55 8 = N ∧ 0 ≤ N ∧ N ≤ 40) (g : μ 61 i = z ∧ 0 ≤ z ∧ z ≤ 126) (T : ∀ q : Int, q = af 1 z → q ≠ 9 → ∀ u3 u4 u5 : AV, AX κ mX12_faultOf 1 (PE (some (aI P)) μ ν) 4 [aR 55, aI q, aI (i + 1), u3, u4, u5] [] μ ν) (F : af 1 z = 9 → P = i) : AX κ mX12_faultOf 1 (PE (some (aI P)) μ ν) 4 [aR 55, aI 1, aI i, u3, u4, u5] [] μ ν := by
  have hbt : (48 ≤ μ 61 i ∧ μ 61 i ≤ 57 ∧ bt (μ 61 i) 48 57 = 1) ∨ (¬ (48 ≤ μ 61 i ∧ μ 61 i ≤ 57) ∧ bt (μ 61 i) 48 57 = 0) := by
    unfold bt
    split <;> omega
  refine aw_blk oX12_faultOf_4 (pc' := 9) (ls' := [_, _, _, _, _, _]) (st' := [_, _]) (cs := []) rfl trivial ?_
  refine aw_icmp_ge (tgt := 240) eX12_faultOf_9 (by decide) (by omega) (by omega) (fun h87 => ?_) (fun h87 => ?_)
  · first
    | (exfalso; omega; done)
    | (refine aw_blk oX12_faultOf_240 (pc' := 243) (ls' := [_, _, _, _, _, _]) (st' := [_, _]) (cs := []) rfl trivial ?_
       refine aw_icmp_ne (tgt := 251) eX12_faultOf_243 (by decide) (by omega) (by omega) (fun h88 => ?_) (fun h88 => ?_)
       · first
         | (exfalso; omega; done)
         | (refine aw_blk oX12_faultOf_251 (pc' := 255) (ls' := [_, _, _, _, _, _]) (st' := [_]) (cs := []) rfl trivial ?_
            refine aw_iret eX12_faultOf_255 rfl (Nat.le_refl _) (Nat.le_refl _) ?_
            exact pe_i (F (by rw [af_1]; (repeat' split) <;> omega)).symm rfl rfl)
       · first
         | (exfalso; omega; done)
         | (refine aw_blk oX12_faultOf_246 (pc' := 255) (ls' := [_, _, _, _, _, _]) (st' := [_]) (cs := []) rfl trivial ?_
            refine aw_iret eX12_faultOf_255 rfl (Nat.le_refl _) (Nat.le_refl _) ?_
            exact pe_i (F (by rw [af_1]; (repeat' split) <;> omega)).symm rfl rfl))
  · first
    | (exfalso; omega; done)
    | (refine aw_blk oX12_faultOf_12 (pc' := 28) (ls' := [_, _, _, _, _, _]) (st' := [_, _, _]) (cs := [(_, _)]) rfl (⟨⟨by omega, by omega⟩, trivial⟩) ?_
       refine aw_ciS (rest := []) (c_X12_in (by omega) (by omega) (by omega)) kX12_in eX12_faultOf_28 lX12_faultOf_28 rfl rfl (Nat.le_of_ble_eq_true rfl) ⟨Nat.le_of_ble_eq_true rfl, Nat.le_of_ble_eq_true rfl⟩ ⟨Nat.le_refl _, Nat.le_refl _⟩ ?_
       refine aw_blk oX12_faultOf_31 (pc' := 34) (ls' := [_, _, _, _, _, _]) (st' := [_]) (cs := []) rfl trivial ?_
       refine aw_if_ne (tgt := 88) eX12_faultOf_34 (by decide) (by omega) (fun h89 => ?_) (fun h89 => ?_)
       · first
         | (exfalso; omega; done)
         | (refine aw_blk oX12_faultOf_88 (pc' := 90) (ls' := [_, _, _, _, _, _]) (st' := [_, _]) (cs := []) rfl trivial ?_
            refine aw_icmp_ne (tgt := 116) eX12_faultOf_90 (by decide) (by omega) (by omega) (fun h90 => ?_) (fun h90 => ?_)
            · first
              | (exfalso; omega; done)
              | (refine aw_blk oX12_faultOf_116 (pc' := 119) (ls' := [_, _, _, _, _, _]) (st' := [_, _, _]) (cs := []) rfl trivial ?_
                 refine aw_ciS (rest := []) (c_X12_in (by omega) (by omega) (by omega)) kX12_in eX12_faultOf_119 lX12_faultOf_119 rfl rfl (Nat.le_of_ble_eq_true rfl) ⟨Nat.le_of_ble_eq_true rfl, Nat.le_of_ble_eq_true rfl⟩ ⟨Nat.le_refl _, Nat.le_refl _⟩ ?_
                 refine aw_if_eq (tgt := 148) eX12_faultOf_122 (by decide) bt_r (fun hh => have h91 := bt0 hh; ?_) (fun hh => have h91 := bt1 hh; ?_)
                 · first
                   | (exfalso; omega; done)
                   | (refine aw_blk oX12_faultOf_148 (pc' := 151) (ls' := [_, _, _, _, _, _]) (st' := [_, _, _]) (cs := []) rfl trivial ?_
                      refine aw_ciS (rest := []) (c_X12_in (by omega) (by omega) (by omega)) kX12_in eX12_faultOf_151 lX12_faultOf_151 rfl rfl (Nat.le_of_ble_eq_true rfl) ⟨Nat.le_of_ble_eq_true rfl, Nat.le_of_ble_eq_true rfl⟩ ⟨Nat.le_refl _, Nat.le_refl _⟩ ?_
                      refine aw_if_eq (tgt := 175) eX12_faultOf_154 (by decide) bt_r (fun hh => have h92 := bt0 hh; ?_) (fun hh => have h92 := bt1 hh; ?_)
                      · first
                        | (exfalso; omega; done)
                        | (refine aw_blk oX12_faultOf_175 (pc' := 178) (ls' := [_, _, _, _, _, _]) (st' := [_, _]) (cs := []) rfl trivial ?_
                           refine aw_icmp_ne (tgt := 204) eX12_faultOf_178 (by decide) (by omega) (by omega) (fun h93 => ?_) (fun h93 => ?_)
                           · first
                             | (exfalso; omega; done)
                             | (refine aw_blk oX12_faultOf_204 (pc' := 207) (ls' := [_, _, _, _, _, _]) (st' := [_, _]) (cs := []) rfl trivial ?_
                                refine aw_icmp_ne (tgt := 224) eX12_faultOf_207 (by decide) (by omega) (by omega) (fun h94 => ?_) (fun h94 => ?_)
                                · first
                                  | (exfalso; omega; done)
                                  | (refine aw_blk oX12_faultOf_224 (pc' := 226) (ls' := [_, _, _, _, _, _]) (st' := [_]) (cs := []) rfl trivial ?_
                                     refine aw_if_ge (tgt := 231) eX12_faultOf_226 (by decide) (by omega) (fun h95 => ?_) (fun h95 => ?_)
                                     · first
                                       | (exfalso; omega; done)
                                       | (refine aw_blk oX12_faultOf_231 (pc' := 4) (ls' := [_, _, _, _, _, _]) (st' := []) (cs := []) rfl trivial ?_
                                          exact T _ (by rw [af_1]; (repeat' split) <;> omega) (by decide) _ _ _)
                                     · first
                                       | (exfalso; omega; done)
                                       | (refine aw_blk oX12_faultOf_229 (pc' := 230) (ls' := [_, _, _, _, _, _]) (st' := [_]) (cs := []) rfl trivial ?_
                                          refine aw_iret eX12_faultOf_230 rfl (Nat.le_refl _) (Nat.le_refl _) ?_
                                          exact pe_i (F (by rw [af_1]; (repeat' split) <;> omega)).symm rfl rfl))
                                · first
                                  | (exfalso; omega; done)
                                  | (refine aw_blk oX12_faultOf_210 (pc' := 213) (ls' := [_, _, _, _, _, _]) (st' := [_, _]) (cs := []) rfl trivial ?_
                                     refine aw_icmp_ne (tgt := 220) eX12_faultOf_213 (by decide) (by omega) (by omega) (fun h96 => ?_) (fun h96 => ?_)
                                     · first
                                       | (exfalso; omega; done)
                                       | (refine aw_blk oX12_faultOf_220 (pc' := 222) (ls' := [_, _, _, _, _, _]) (st' := [_]) (cs := []) rfl trivial ?_
                                          refine aw_blk oX12_faultOf_222 (pc' := 224) (ls' := [_, _, _, _, _, _]) (st' := []) (cs := []) rfl trivial ?_
                                          refine aw_blk oX12_faultOf_224 (pc' := 226) (ls' := [_, _, _, _, _, _]) (st' := [_]) (cs := []) rfl trivial ?_
                                          refine aw_if_ge (tgt := 231) eX12_faultOf_226 (by decide) (by omega) (fun h97 => ?_) (fun h97 => ?_)
                                          · first
                                            | (exfalso; omega; done)
                                            | (refine aw_blk oX12_faultOf_231 (pc' := 4) (ls' := [_, _, _, _, _, _]) (st' := []) (cs := []) rfl trivial ?_
                                               exact T _ (by rw [af_1]; (repeat' split) <;> omega) (by decide) _ _ _)
                                          · first
                                            | (exfalso; omega; done)
                                            | (refine aw_blk oX12_faultOf_229 (pc' := 230) (ls' := [_, _, _, _, _, _]) (st' := [_]) (cs := []) rfl trivial ?_
                                               refine aw_iret eX12_faultOf_230 rfl (Nat.le_refl _) (Nat.le_refl _) ?_
                                               exact pe_i (F (by rw [af_1]; (repeat' split) <;> omega)).symm rfl rfl))
                                     · first
                                       | (exfalso; omega; done)
                                       | (refine aw_blk oX12_faultOf_216 (pc' := 222) (ls' := [_, _, _, _, _, _]) (st' := [_]) (cs := []) rfl trivial ?_
                                          refine aw_blk oX12_faultOf_222 (pc' := 224) (ls' := [_, _, _, _, _, _]) (st' := []) (cs := []) rfl trivial ?_
                                          refine aw_blk oX12_faultOf_224 (pc' := 226) (ls' := [_, _, _, _, _, _]) (st' := [_]) (cs := []) rfl trivial ?_
                                          refine aw_if_ge (tgt := 231) eX12_faultOf_226 (by decide) (by omega) (fun h98 => ?_) (fun h98 => ?_)
                                          · first
                                            | (exfalso; omega; done)
                                            | (refine aw_blk oX12_faultOf_231 (pc' := 4) (ls' := [_, _, _, _, _, _]) (st' := []) (cs := []) rfl trivial ?_
                                               exact T _ (by rw [af_1]; (repeat' split) <;> omega) (by decide) _ _ _)
                                          · first
                                            | (exfalso; omega; done)
                                            | (refine aw_blk oX12_faultOf_229 (pc' := 230) (ls' := [_, _, _, _, _, _]) (st' := [_]) (cs := []) rfl trivial ?_
                                               refine aw_iret eX12_faultOf_230 rfl (Nat.le_refl _) (Nat.le_refl _) ?_
                                               exact pe_i (F (by rw [af_1]; (repeat' split) <;> omega)).symm rfl rfl))))
                           · first
                             | (exfalso; omega; done)
                             | (refine aw_blk oX12_faultOf_181 (pc' := 186) (ls' := [_, _, _, _, _, _]) (st' := [_, _, _]) (cs := []) rfl trivial ?_
                                refine aw_ciS (rest := []) (c_X12_in (by omega) (by omega) (by omega)) kX12_in eX12_faultOf_186 lX12_faultOf_186 rfl rfl (Nat.le_of_ble_eq_true rfl) ⟨Nat.le_of_ble_eq_true rfl, Nat.le_of_ble_eq_true rfl⟩ ⟨Nat.le_refl _, Nat.le_refl _⟩ ?_
                                refine aw_if_eq (tgt := 197) eX12_faultOf_189 (by decide) bt_r (fun hh => have h99 := bt0 hh; ?_) (fun hh => have h99 := bt1 hh; ?_)
                                · first
                                  | (exfalso; omega; done)
                                  | (refine aw_blk oX12_faultOf_197 (pc' := 199) (ls' := [_, _, _, _, _, _]) (st' := [_]) (cs := []) rfl trivial ?_
                                     refine aw_blk oX12_faultOf_199 (pc' := 224) (ls' := [_, _, _, _, _, _]) (st' := []) (cs := []) rfl trivial ?_
                                     refine aw_blk oX12_faultOf_224 (pc' := 226) (ls' := [_, _, _, _, _, _]) (st' := [_]) (cs := []) rfl trivial ?_
                                     refine aw_if_ge (tgt := 231) eX12_faultOf_226 (by decide) (by omega) (fun h100 => ?_) (fun h100 => ?_)
                                     · first
                                       | (exfalso; omega; done)
                                       | (refine aw_blk oX12_faultOf_231 (pc' := 4) (ls' := [_, _, _, _, _, _]) (st' := []) (cs := []) rfl trivial ?_
                                          exact T _ (by rw [af_1]; (repeat' split) <;> omega) (by decide) _ _ _)
                                     · first
                                       | (exfalso; omega; done)
                                       | (refine aw_blk oX12_faultOf_229 (pc' := 230) (ls' := [_, _, _, _, _, _]) (st' := [_]) (cs := []) rfl trivial ?_
                                          refine aw_iret eX12_faultOf_230 rfl (Nat.le_refl _) (Nat.le_refl _) ?_
                                          exact pe_i (F (by rw [af_1]; (repeat' split) <;> omega)).symm rfl rfl))
                                · first
                                  | (exfalso; omega; done)
                                  | (refine aw_blk oX12_faultOf_192 (pc' := 199) (ls' := [_, _, _, _, _, _]) (st' := [_]) (cs := []) rfl trivial ?_
                                     refine aw_blk oX12_faultOf_199 (pc' := 224) (ls' := [_, _, _, _, _, _]) (st' := []) (cs := []) rfl trivial ?_
                                     refine aw_blk oX12_faultOf_224 (pc' := 226) (ls' := [_, _, _, _, _, _]) (st' := [_]) (cs := []) rfl trivial ?_
                                     refine aw_if_ge (tgt := 231) eX12_faultOf_226 (by decide) (by omega) (fun h101 => ?_) (fun h101 => ?_)
                                     · first
                                       | (exfalso; omega; done)
                                       | (refine aw_blk oX12_faultOf_231 (pc' := 4) (ls' := [_, _, _, _, _, _]) (st' := []) (cs := []) rfl trivial ?_
                                          exact T _ (by rw [af_1]; (repeat' split) <;> omega) (by decide) _ _ _)
                                     · first
                                       | (exfalso; omega; done)
                                       | (refine aw_blk oX12_faultOf_229 (pc' := 230) (ls' := [_, _, _, _, _, _]) (st' := [_]) (cs := []) rfl trivial ?_
                                          refine aw_iret eX12_faultOf_230 rfl (Nat.le_refl _) (Nat.le_refl _) ?_
                                          exact pe_i (F (by rw [af_1]; (repeat' split) <;> omega)).symm rfl rfl))))
                      · first
                        | (exfalso; omega; done)
                        | (refine aw_blk oX12_faultOf_157 (pc' := 160) (ls' := [_, _, _, _, _, _]) (st' := [_, _]) (cs := []) rfl trivial ?_
                           refine aw_icmp_ne (tgt := 168) eX12_faultOf_160 (by decide) (by omega) (by omega) (fun h102 => ?_) (fun h102 => ?_)
                           · first
                             | (exfalso; omega; done)
                             | (refine aw_blk oX12_faultOf_168 (pc' := 170) (ls' := [_, _, _, _, _, _]) (st' := [_]) (cs := []) rfl trivial ?_
                                refine aw_blk oX12_faultOf_170 (pc' := 224) (ls' := [_, _, _, _, _, _]) (st' := []) (cs := []) rfl trivial ?_
                                refine aw_blk oX12_faultOf_224 (pc' := 226) (ls' := [_, _, _, _, _, _]) (st' := [_]) (cs := []) rfl trivial ?_
                                refine aw_if_ge (tgt := 231) eX12_faultOf_226 (by decide) (by omega) (fun h103 => ?_) (fun h103 => ?_)
                                · first
                                  | (exfalso; omega; done)
                                  | (refine aw_blk oX12_faultOf_231 (pc' := 4) (ls' := [_, _, _, _, _, _]) (st' := []) (cs := []) rfl trivial ?_
                                     exact T _ (by rw [af_1]; (repeat' split) <;> omega) (by decide) _ _ _)
                                · first
                                  | (exfalso; omega; done)
                                  | (refine aw_blk oX12_faultOf_229 (pc' := 230) (ls' := [_, _, _, _, _, _]) (st' := [_]) (cs := []) rfl trivial ?_
                                     refine aw_iret eX12_faultOf_230 rfl (Nat.le_refl _) (Nat.le_refl _) ?_
                                     exact pe_i (F (by rw [af_1]; (repeat' split) <;> omega)).symm rfl rfl))
                           · first
                             | (exfalso; omega; done)
                             | (refine aw_blk oX12_faultOf_163 (pc' := 170) (ls' := [_, _, _, _, _, _]) (st' := [_]) (cs := []) rfl trivial ?_
                                refine aw_blk oX12_faultOf_170 (pc' := 224) (ls' := [_, _, _, _, _, _]) (st' := []) (cs := []) rfl trivial ?_
                                refine aw_blk oX12_faultOf_224 (pc' := 226) (ls' := [_, _, _, _, _, _]) (st' := [_]) (cs := []) rfl trivial ?_
                                refine aw_if_ge (tgt := 231) eX12_faultOf_226 (by decide) (by omega) (fun h104 => ?_) (fun h104 => ?_)
                                · first
                                  | (exfalso; omega; done)
                                  | (refine aw_blk oX12_faultOf_231 (pc' := 4) (ls' := [_, _, _, _, _, _]) (st' := []) (cs := []) rfl trivial ?_
                                     exact T _ (by rw [af_1]; (repeat' split) <;> omega) (by decide) _ _ _)
                                · first
                                  | (exfalso; omega; done)
                                  | (refine aw_blk oX12_faultOf_229 (pc' := 230) (ls' := [_, _, _, _, _, _]) (st' := [_]) (cs := []) rfl trivial ?_
                                     refine aw_iret eX12_faultOf_230 rfl (Nat.le_refl _) (Nat.le_refl _) ?_
                                     exact pe_i (F (by rw [af_1]; (repeat' split) <;> omega)).symm rfl rfl))))
                 · first
                   | (exfalso; omega; done)
                   | (refine aw_blk oX12_faultOf_125 (pc' := 127) (ls' := [_, _, _, _, _, _]) (st' := [_]) (cs := []) rfl trivial ?_
                      refine aw_if_eq (tgt := 148) eX12_faultOf_127 (by decide) (by omega) (fun h105 => ?_) (fun h105 => ?_)
                      · first
                        | (exfalso; omega; done)
                        | (refine aw_blk oX12_faultOf_148 (pc' := 151) (ls' := [_, _, _, _, _, _]) (st' := [_, _, _]) (cs := []) rfl trivial ?_
                           refine aw_ciS (rest := []) (c_X12_in (by omega) (by omega) (by omega)) kX12_in eX12_faultOf_151 lX12_faultOf_151 rfl rfl (Nat.le_of_ble_eq_true rfl) ⟨Nat.le_of_ble_eq_true rfl, Nat.le_of_ble_eq_true rfl⟩ ⟨Nat.le_refl _, Nat.le_refl _⟩ ?_
                           refine aw_if_eq (tgt := 175) eX12_faultOf_154 (by decide) bt_r (fun hh => have h106 := bt0 hh; ?_) (fun hh => have h106 := bt1 hh; ?_)
                           · first
                             | (exfalso; omega; done)
                             | (refine aw_blk oX12_faultOf_175 (pc' := 178) (ls' := [_, _, _, _, _, _]) (st' := [_, _]) (cs := []) rfl trivial ?_
                                refine aw_icmp_ne (tgt := 204) eX12_faultOf_178 (by decide) (by omega) (by omega) (fun h107 => ?_) (fun h107 => ?_)
                                · first
                                  | (exfalso; omega; done)
                                  | (refine aw_blk oX12_faultOf_204 (pc' := 207) (ls' := [_, _, _, _, _, _]) (st' := [_, _]) (cs := []) rfl trivial ?_
                                     refine aw_icmp_ne (tgt := 224) eX12_faultOf_207 (by decide) (by omega) (by omega) (fun h108 => ?_) (fun h108 => ?_)
                                     · first
                                       | (exfalso; omega; done)
                                       | (refine aw_blk oX12_faultOf_224 (pc' := 226) (ls' := [_, _, _, _, _, _]) (st' := [_]) (cs := []) rfl trivial ?_
                                          refine aw_if_ge (tgt := 231) eX12_faultOf_226 (by decide) (by omega) (fun h109 => ?_) (fun h109 => ?_)
                                          · first
                                            | (exfalso; omega; done)
                                            | (refine aw_blk oX12_faultOf_231 (pc' := 4) (ls' := [_, _, _, _, _, _]) (st' := []) (cs := []) rfl trivial ?_
                                               exact T _ (by rw [af_1]; (repeat' split) <;> omega) (by decide) _ _ _)
                                          · first
                                            | (exfalso; omega; done)
                                            | (refine aw_blk oX12_faultOf_229 (pc' := 230) (ls' := [_, _, _, _, _, _]) (st' := [_]) (cs := []) rfl trivial ?_
                                               refine aw_iret eX12_faultOf_230 rfl (Nat.le_refl _) (Nat.le_refl _) ?_
                                               exact pe_i (F (by rw [af_1]; (repeat' split) <;> omega)).symm rfl rfl))
                                     · first
                                       | (exfalso; omega; done)
                                       | (refine aw_blk oX12_faultOf_210 (pc' := 213) (ls' := [_, _, _, _, _, _]) (st' := [_, _]) (cs := []) rfl trivial ?_
                                          refine aw_icmp_ne (tgt := 220) eX12_faultOf_213 (by decide) (by omega) (by omega) (fun h110 => ?_) (fun h110 => ?_)
                                          · first
                                            | (exfalso; omega; done)
                                            | (refine aw_blk oX12_faultOf_220 (pc' := 222) (ls' := [_, _, _, _, _, _]) (st' := [_]) (cs := []) rfl trivial ?_
                                               refine aw_blk oX12_faultOf_222 (pc' := 224) (ls' := [_, _, _, _, _, _]) (st' := []) (cs := []) rfl trivial ?_
                                               refine aw_blk oX12_faultOf_224 (pc' := 226) (ls' := [_, _, _, _, _, _]) (st' := [_]) (cs := []) rfl trivial ?_
                                               refine aw_if_ge (tgt := 231) eX12_faultOf_226 (by decide) (by omega) (fun h111 => ?_) (fun h111 => ?_)
                                               · first
                                                 | (exfalso; omega; done)
                                                 | (refine aw_blk oX12_faultOf_231 (pc' := 4) (ls' := [_, _, _, _, _, _]) (st' := []) (cs := []) rfl trivial ?_
                                                    exact T _ (by rw [af_1]; (repeat' split) <;> omega) (by decide) _ _ _)
                                               · first
                                                 | (exfalso; omega; done)
                                                 | (refine aw_blk oX12_faultOf_229 (pc' := 230) (ls' := [_, _, _, _, _, _]) (st' := [_]) (cs := []) rfl trivial ?_
                                                    refine aw_iret eX12_faultOf_230 rfl (Nat.le_refl _) (Nat.le_refl _) ?_
                                                    exact pe_i (F (by rw [af_1]; (repeat' split) <;> omega)).symm rfl rfl))
                                          · first
                                            | (exfalso; omega; done)
                                            | (refine aw_blk oX12_faultOf_216 (pc' := 222) (ls' := [_, _, _, _, _, _]) (st' := [_]) (cs := []) rfl trivial ?_
                                               refine aw_blk oX12_faultOf_222 (pc' := 224) (ls' := [_, _, _, _, _, _]) (st' := []) (cs := []) rfl trivial ?_
                                               refine aw_blk oX12_faultOf_224 (pc' := 226) (ls' := [_, _, _, _, _, _]) (st' := [_]) (cs := []) rfl trivial ?_
                                               refine aw_if_ge (tgt := 231) eX12_faultOf_226 (by decide) (by omega) (fun h112 => ?_) (fun h112 => ?_)
                                               · first
                                                 | (exfalso; omega; done)
                                                 | (refine aw_blk oX12_faultOf_231 (pc' := 4) (ls' := [_, _, _, _, _, _]) (st' := []) (cs := []) rfl trivial ?_
                                                    exact T _ (by rw [af_1]; (repeat' split) <;> omega) (by decide) _ _ _)
                                               · first
                                                 | (exfalso; omega; done)
                                                 | (refine aw_blk oX12_faultOf_229 (pc' := 230) (ls' := [_, _, _, _, _, _]) (st' := [_]) (cs := []) rfl trivial ?_
                                                    refine aw_iret eX12_faultOf_230 rfl (Nat.le_refl _) (Nat.le_refl _) ?_
                                                    exact pe_i (F (by rw [af_1]; (repeat' split) <;> omega)).symm rfl rfl))))
                                · first
                                  | (exfalso; omega; done)
                                  | (refine aw_blk oX12_faultOf_181 (pc' := 186) (ls' := [_, _, _, _, _, _]) (st' := [_, _, _]) (cs := []) rfl trivial ?_
                                     refine aw_ciS (rest := []) (c_X12_in (by omega) (by omega) (by omega)) kX12_in eX12_faultOf_186 lX12_faultOf_186 rfl rfl (Nat.le_of_ble_eq_true rfl) ⟨Nat.le_of_ble_eq_true rfl, Nat.le_of_ble_eq_true rfl⟩ ⟨Nat.le_refl _, Nat.le_refl _⟩ ?_
                                     refine aw_if_eq (tgt := 197) eX12_faultOf_189 (by decide) bt_r (fun hh => have h113 := bt0 hh; ?_) (fun hh => have h113 := bt1 hh; ?_)
                                     · first
                                       | (exfalso; omega; done)
                                       | (refine aw_blk oX12_faultOf_197 (pc' := 199) (ls' := [_, _, _, _, _, _]) (st' := [_]) (cs := []) rfl trivial ?_
                                          refine aw_blk oX12_faultOf_199 (pc' := 224) (ls' := [_, _, _, _, _, _]) (st' := []) (cs := []) rfl trivial ?_
                                          refine aw_blk oX12_faultOf_224 (pc' := 226) (ls' := [_, _, _, _, _, _]) (st' := [_]) (cs := []) rfl trivial ?_
                                          refine aw_if_ge (tgt := 231) eX12_faultOf_226 (by decide) (by omega) (fun h114 => ?_) (fun h114 => ?_)
                                          · first
                                            | (exfalso; omega; done)
                                            | (refine aw_blk oX12_faultOf_231 (pc' := 4) (ls' := [_, _, _, _, _, _]) (st' := []) (cs := []) rfl trivial ?_
                                               exact T _ (by rw [af_1]; (repeat' split) <;> omega) (by decide) _ _ _)
                                          · first
                                            | (exfalso; omega; done)
                                            | (refine aw_blk oX12_faultOf_229 (pc' := 230) (ls' := [_, _, _, _, _, _]) (st' := [_]) (cs := []) rfl trivial ?_
                                               refine aw_iret eX12_faultOf_230 rfl (Nat.le_refl _) (Nat.le_refl _) ?_
                                               exact pe_i (F (by rw [af_1]; (repeat' split) <;> omega)).symm rfl rfl))
                                     · first
                                       | (exfalso; omega; done)
                                       | (refine aw_blk oX12_faultOf_192 (pc' := 199) (ls' := [_, _, _, _, _, _]) (st' := [_]) (cs := []) rfl trivial ?_
                                          refine aw_blk oX12_faultOf_199 (pc' := 224) (ls' := [_, _, _, _, _, _]) (st' := []) (cs := []) rfl trivial ?_
                                          refine aw_blk oX12_faultOf_224 (pc' := 226) (ls' := [_, _, _, _, _, _]) (st' := [_]) (cs := []) rfl trivial ?_
                                          refine aw_if_ge (tgt := 231) eX12_faultOf_226 (by decide) (by omega) (fun h115 => ?_) (fun h115 => ?_)
                                          · first
                                            | (exfalso; omega; done)
                                            | (refine aw_blk oX12_faultOf_231 (pc' := 4) (ls' := [_, _, _, _, _, _]) (st' := []) (cs := []) rfl trivial ?_
                                               exact T _ (by rw [af_1]; (repeat' split) <;> omega) (by decide) _ _ _)
                                          · first
                                            | (exfalso; omega; done)
                                            | (refine aw_blk oX12_faultOf_229 (pc' := 230) (ls' := [_, _, _, _, _, _]) (st' := [_]) (cs := []) rfl trivial ?_
                                               refine aw_iret eX12_faultOf_230 rfl (Nat.le_refl _) (Nat.le_refl _) ?_
                                               exact pe_i (F (by rw [af_1]; (repeat' split) <;> omega)).symm rfl rfl))))
                           · first
                             | (exfalso; omega; done)
                             | (refine aw_blk oX12_faultOf_157 (pc' := 160) (ls' := [_, _, _, _, _, _]) (st' := [_, _]) (cs := []) rfl trivial ?_
                                refine aw_icmp_ne (tgt := 168) eX12_faultOf_160 (by decide) (by omega) (by omega) (fun h116 => ?_) (fun h116 => ?_)
                                · first
                                  | (exfalso; omega; done)
                                  | (refine aw_blk oX12_faultOf_168 (pc' := 170) (ls' := [_, _, _, _, _, _]) (st' := [_]) (cs := []) rfl trivial ?_
                                     refine aw_blk oX12_faultOf_170 (pc' := 224) (ls' := [_, _, _, _, _, _]) (st' := []) (cs := []) rfl trivial ?_
                                     refine aw_blk oX12_faultOf_224 (pc' := 226) (ls' := [_, _, _, _, _, _]) (st' := [_]) (cs := []) rfl trivial ?_
                                     refine aw_if_ge (tgt := 231) eX12_faultOf_226 (by decide) (by omega) (fun h117 => ?_) (fun h117 => ?_)
                                     · first
                                       | (exfalso; omega; done)
                                       | (refine aw_blk oX12_faultOf_231 (pc' := 4) (ls' := [_, _, _, _, _, _]) (st' := []) (cs := []) rfl trivial ?_
                                          exact T _ (by rw [af_1]; (repeat' split) <;> omega) (by decide) _ _ _)
                                     · first
                                       | (exfalso; omega; done)
                                       | (refine aw_blk oX12_faultOf_229 (pc' := 230) (ls' := [_, _, _, _, _, _]) (st' := [_]) (cs := []) rfl trivial ?_
                                          refine aw_iret eX12_faultOf_230 rfl (Nat.le_refl _) (Nat.le_refl _) ?_
                                          exact pe_i (F (by rw [af_1]; (repeat' split) <;> omega)).symm rfl rfl))
                                · first
                                  | (exfalso; omega; done)
                                  | (refine aw_blk oX12_faultOf_163 (pc' := 170) (ls' := [_, _, _, _, _, _]) (st' := [_]) (cs := []) rfl trivial ?_
                                     refine aw_blk oX12_faultOf_170 (pc' := 224) (ls' := [_, _, _, _, _, _]) (st' := []) (cs := []) rfl trivial ?_
                                     refine aw_blk oX12_faultOf_224 (pc' := 226) (ls' := [_, _, _, _, _, _]) (st' := [_]) (cs := []) rfl trivial ?_
                                     refine aw_if_ge (tgt := 231) eX12_faultOf_226 (by decide) (by omega) (fun h118 => ?_) (fun h118 => ?_)
                                     · first
                                       | (exfalso; omega; done)
                                       | (refine aw_blk oX12_faultOf_231 (pc' := 4) (ls' := [_, _, _, _, _, _]) (st' := []) (cs := []) rfl trivial ?_
                                          exact T _ (by rw [af_1]; (repeat' split) <;> omega) (by decide) _ _ _)
                                     · first
                                       | (exfalso; omega; done)
                                       | (refine aw_blk oX12_faultOf_229 (pc' := 230) (ls' := [_, _, _, _, _, _]) (st' := [_]) (cs := []) rfl trivial ?_
                                          refine aw_iret eX12_faultOf_230 rfl (Nat.le_refl _) (Nat.le_refl _) ?_
                                          exact pe_i (F (by rw [af_1]; (repeat' split) <;> omega)).symm rfl rfl))))
                      · first
                        | (exfalso; omega; done)
                        | (refine aw_blk oX12_faultOf_130 (pc' := 132) (ls' := [_, _, _, _, _, _]) (st' := [_, _]) (cs := []) rfl trivial ?_
                           refine aw_icmp_ge (tgt := 141) eX12_faultOf_132 (by decide) (by omega) (by omega) (fun h119 => ?_) (fun h119 => ?_)
                           · first
                             | (exfalso; omega; done)
                             | (refine aw_blk oX12_faultOf_141 (pc' := 143) (ls' := [_, _, _, _, _, _]) (st' := [_]) (cs := []) rfl trivial ?_
                                refine aw_blk oX12_faultOf_143 (pc' := 224) (ls' := [_, _, _, _, _, _]) (st' := []) (cs := []) rfl trivial ?_
                                refine aw_blk oX12_faultOf_224 (pc' := 226) (ls' := [_, _, _, _, _, _]) (st' := [_]) (cs := []) rfl trivial ?_
                                refine aw_if_ge (tgt := 231) eX12_faultOf_226 (by decide) (by omega) (fun h120 => ?_) (fun h120 => ?_)
                                · first
                                  | (exfalso; omega; done)
                                  | (refine aw_blk oX12_faultOf_231 (pc' := 4) (ls' := [_, _, _, _, _, _]) (st' := []) (cs := []) rfl trivial ?_
                                     exact T _ (by rw [af_1]; (repeat' split) <;> omega) (by decide) _ _ _)
                                · first
                                  | (exfalso; omega; done)
                                  | (refine aw_blk oX12_faultOf_229 (pc' := 230) (ls' := [_, _, _, _, _, _]) (st' := [_]) (cs := []) rfl trivial ?_
                                     refine aw_iret eX12_faultOf_230 rfl (Nat.le_refl _) (Nat.le_refl _) ?_
                                     exact pe_i (F (by rw [af_1]; (repeat' split) <;> omega)).symm rfl rfl))
                           · first
                             | (exfalso; omega; done)
                             | (refine aw_blk oX12_faultOf_135 (pc' := 143) (ls' := [_, _, _, _, _, _]) (st' := [_]) (cs := []) rfl trivial ?_
                                refine aw_blk oX12_faultOf_143 (pc' := 224) (ls' := [_, _, _, _, _, _]) (st' := []) (cs := []) rfl trivial ?_
                                refine aw_blk oX12_faultOf_224 (pc' := 226) (ls' := [_, _, _, _, _, _]) (st' := [_]) (cs := []) rfl trivial ?_
                                refine aw_if_ge (tgt := 231) eX12_faultOf_226 (by decide) (by omega) (fun h121 => ?_) (fun h121 => ?_)
                                · first
                                  | (exfalso; omega; done)
                                  | (refine aw_blk oX12_faultOf_231 (pc' := 4) (ls' := [_, _, _, _, _, _]) (st' := []) (cs := []) rfl trivial ?_
                                     exact T _ (by rw [af_1]; (repeat' split) <;> omega) (by decide) _ _ _)
                                · first
                                  | (exfalso; omega; done)
                                  | (refine aw_blk oX12_faultOf_229 (pc' := 230) (ls' := [_, _, _, _, _, _]) (st' := [_]) (cs := []) rfl trivial ?_
                                     refine aw_iret eX12_faultOf_230 rfl (Nat.le_refl _) (Nat.le_refl _) ?_
                                     exact pe_i (F (by rw [af_1]; (repeat' split) <;> omega)).symm rfl rfl)))))
            · first
              | (exfalso; omega; done)
              | (refine aw_blk oX12_faultOf_93 (pc' := 96) (ls' := [_, _, _, _, _, _]) (st' := [_, _]) (cs := []) rfl trivial ?_
                 refine aw_icmp_eq (tgt := 105) eX12_faultOf_96 (by decide) (by omega) (by omega) (fun h122 => ?_) (fun h122 => ?_)
                 · first
                   | (exfalso; omega; done)
                   | (refine aw_blk oX12_faultOf_105 (pc' := 111) (ls' := [_, _, _, _, _, _]) (st' := [_]) (cs := []) rfl trivial ?_
                      refine aw_blk oX12_faultOf_111 (pc' := 224) (ls' := [_, _, _, _, _, _]) (st' := []) (cs := []) rfl trivial ?_
                      refine aw_blk oX12_faultOf_224 (pc' := 226) (ls' := [_, _, _, _, _, _]) (st' := [_]) (cs := []) rfl trivial ?_
                      refine aw_if_ge (tgt := 231) eX12_faultOf_226 (by decide) (by omega) (fun h123 => ?_) (fun h123 => ?_)
                      · first
                        | (exfalso; omega; done)
                        | (refine aw_blk oX12_faultOf_231 (pc' := 4) (ls' := [_, _, _, _, _, _]) (st' := []) (cs := []) rfl trivial ?_
                           exact T _ (by rw [af_1]; (repeat' split) <;> omega) (by decide) _ _ _)
                      · first
                        | (exfalso; omega; done)
                        | (refine aw_blk oX12_faultOf_229 (pc' := 230) (ls' := [_, _, _, _, _, _]) (st' := [_]) (cs := []) rfl trivial ?_
                           refine aw_iret eX12_faultOf_230 rfl (Nat.le_refl _) (Nat.le_refl _) ?_
                           exact pe_i (F (by rw [af_1]; (repeat' split) <;> omega)).symm rfl rfl))
                 · first
                   | (exfalso; omega; done)
                   | (refine aw_blk oX12_faultOf_99 (pc' := 102) (ls' := [_, _, _, _, _, _]) (st' := [_, _]) (cs := []) rfl trivial ?_
                      refine aw_icmp_ne (tgt := 109) eX12_faultOf_102 (by decide) (by omega) (by omega) (fun h124 => ?_) (fun h124 => ?_)
                      · first
                        | (exfalso; omega; done)
                        | (refine aw_blk oX12_faultOf_109 (pc' := 111) (ls' := [_, _, _, _, _, _]) (st' := [_]) (cs := []) rfl trivial ?_
                           refine aw_blk oX12_faultOf_111 (pc' := 224) (ls' := [_, _, _, _, _, _]) (st' := []) (cs := []) rfl trivial ?_
                           refine aw_blk oX12_faultOf_224 (pc' := 226) (ls' := [_, _, _, _, _, _]) (st' := [_]) (cs := []) rfl trivial ?_
                           refine aw_if_ge (tgt := 231) eX12_faultOf_226 (by decide) (by omega) (fun h125 => ?_) (fun h125 => ?_)
                           · first
                             | (exfalso; omega; done)
                             | (refine aw_blk oX12_faultOf_231 (pc' := 4) (ls' := [_, _, _, _, _, _]) (st' := []) (cs := []) rfl trivial ?_
                                exact T _ (by rw [af_1]; (repeat' split) <;> omega) (by decide) _ _ _)
                           · first
                             | (exfalso; omega; done)
                             | (refine aw_blk oX12_faultOf_229 (pc' := 230) (ls' := [_, _, _, _, _, _]) (st' := [_]) (cs := []) rfl trivial ?_
                                refine aw_iret eX12_faultOf_230 rfl (Nat.le_refl _) (Nat.le_refl _) ?_
                                exact pe_i (F (by rw [af_1]; (repeat' split) <;> omega)).symm rfl rfl))
                      · first
                        | (exfalso; omega; done)
                        | (refine aw_blk oX12_faultOf_105 (pc' := 111) (ls' := [_, _, _, _, _, _]) (st' := [_]) (cs := []) rfl trivial ?_
                           refine aw_blk oX12_faultOf_111 (pc' := 224) (ls' := [_, _, _, _, _, _]) (st' := []) (cs := []) rfl trivial ?_
                           refine aw_blk oX12_faultOf_224 (pc' := 226) (ls' := [_, _, _, _, _, _]) (st' := [_]) (cs := []) rfl trivial ?_
                           refine aw_if_ge (tgt := 231) eX12_faultOf_226 (by decide) (by omega) (fun h126 => ?_) (fun h126 => ?_)
                           · first
                             | (exfalso; omega; done)
                             | (refine aw_blk oX12_faultOf_231 (pc' := 4) (ls' := [_, _, _, _, _, _]) (st' := []) (cs := []) rfl trivial ?_
                                exact T _ (by rw [af_1]; (repeat' split) <;> omega) (by decide) _ _ _)
                           · first
                             | (exfalso; omega; done)
                             | (refine aw_blk oX12_faultOf_229 (pc' := 230) (ls' := [_, _, _, _, _, _]) (st' := [_]) (cs := []) rfl trivial ?_
                                refine aw_iret eX12_faultOf_230 rfl (Nat.le_refl _) (Nat.le_refl _) ?_
                                exact pe_i (F (by rw [af_1]; (repeat' split) <;> omega)).symm rfl rfl)))))
       · first
         | (exfalso; omega; done)
         | (refine aw_blk oX12_faultOf_37 (pc' := 40) (ls' := [_, _, _, _, _, _]) (st' := [_, _]) (cs := []) rfl trivial ?_
            refine aw_icmp_eq (tgt := 61) eX12_faultOf_40 (by decide) (by omega) (by omega) (fun h127 => ?_) (fun h127 => ?_)
            · first
              | (exfalso; omega; done)
              | (refine aw_blk oX12_faultOf_61 (pc' := 83) (ls' := [_, _, _, _, _, _]) (st' := [_]) (cs := []) rfl trivial ?_
                 refine aw_blk oX12_faultOf_83 (pc' := 224) (ls' := [_, _, _, _, _, _]) (st' := []) (cs := []) rfl trivial ?_
                 refine aw_blk oX12_faultOf_224 (pc' := 226) (ls' := [_, _, _, _, _, _]) (st' := [_]) (cs := []) rfl trivial ?_
                 refine aw_if_ge (tgt := 231) eX12_faultOf_226 (by decide) (by omega) (fun h128 => ?_) (fun h128 => ?_)
                 · first
                   | (exfalso; omega; done)
                   | (refine aw_blk oX12_faultOf_231 (pc' := 4) (ls' := [_, _, _, _, _, _]) (st' := []) (cs := []) rfl trivial ?_
                      exact T _ (by rw [af_1]; (repeat' split) <;> omega) (by decide) _ _ _)
                 · first
                   | (exfalso; omega; done)
                   | (refine aw_blk oX12_faultOf_229 (pc' := 230) (ls' := [_, _, _, _, _, _]) (st' := [_]) (cs := []) rfl trivial ?_
                      refine aw_iret eX12_faultOf_230 rfl (Nat.le_refl _) (Nat.le_refl _) ?_
                      exact pe_i (F (by rw [af_1]; (repeat' split) <;> omega)).symm rfl rfl))
            · first
              | (exfalso; omega; done)
              | (refine aw_blk oX12_faultOf_43 (pc' := 46) (ls' := [_, _, _, _, _, _]) (st' := [_, _]) (cs := []) rfl trivial ?_
                 refine aw_icmp_eq (tgt := 61) eX12_faultOf_46 (by decide) (by omega) (by omega) (fun h129 => ?_) (fun h129 => ?_)
                 · first
                   | (exfalso; omega; done)
                   | (refine aw_blk oX12_faultOf_61 (pc' := 83) (ls' := [_, _, _, _, _, _]) (st' := [_]) (cs := []) rfl trivial ?_
                      refine aw_blk oX12_faultOf_83 (pc' := 224) (ls' := [_, _, _, _, _, _]) (st' := []) (cs := []) rfl trivial ?_
                      refine aw_blk oX12_faultOf_224 (pc' := 226) (ls' := [_, _, _, _, _, _]) (st' := [_]) (cs := []) rfl trivial ?_
                      refine aw_if_ge (tgt := 231) eX12_faultOf_226 (by decide) (by omega) (fun h130 => ?_) (fun h130 => ?_)
                      · first
                        | (exfalso; omega; done)
                        | (refine aw_blk oX12_faultOf_231 (pc' := 4) (ls' := [_, _, _, _, _, _]) (st' := []) (cs := []) rfl trivial ?_
                           exact T _ (by rw [af_1]; (repeat' split) <;> omega) (by decide) _ _ _)
                      · first
                        | (exfalso; omega; done)
                        | (refine aw_blk oX12_faultOf_229 (pc' := 230) (ls' := [_, _, _, _, _, _]) (st' := [_]) (cs := []) rfl trivial ?_
                           refine aw_iret eX12_faultOf_230 rfl (Nat.le_refl _) (Nat.le_refl _) ?_
                           exact pe_i (F (by rw [af_1]; (repeat' split) <;> omega)).symm rfl rfl))
                 · first
                   | (exfalso; omega; done)
                   | (refine aw_blk oX12_faultOf_49 (pc' := 52) (ls' := [_, _, _, _, _, _]) (st' := [_, _]) (cs := []) rfl trivial ?_
                      refine aw_icmp_eq (tgt := 61) eX12_faultOf_52 (by decide) (by omega) (by omega) (fun h131 => ?_) (fun h131 => ?_)
                      · first
                        | (exfalso; omega; done)
                        | (refine aw_blk oX12_faultOf_61 (pc' := 83) (ls' := [_, _, _, _, _, _]) (st' := [_]) (cs := []) rfl trivial ?_
                           refine aw_blk oX12_faultOf_83 (pc' := 224) (ls' := [_, _, _, _, _, _]) (st' := []) (cs := []) rfl trivial ?_
                           refine aw_blk oX12_faultOf_224 (pc' := 226) (ls' := [_, _, _, _, _, _]) (st' := [_]) (cs := []) rfl trivial ?_
                           refine aw_if_ge (tgt := 231) eX12_faultOf_226 (by decide) (by omega) (fun h132 => ?_) (fun h132 => ?_)
                           · first
                             | (exfalso; omega; done)
                             | (refine aw_blk oX12_faultOf_231 (pc' := 4) (ls' := [_, _, _, _, _, _]) (st' := []) (cs := []) rfl trivial ?_
                                exact T _ (by rw [af_1]; (repeat' split) <;> omega) (by decide) _ _ _)
                           · first
                             | (exfalso; omega; done)
                             | (refine aw_blk oX12_faultOf_229 (pc' := 230) (ls' := [_, _, _, _, _, _]) (st' := [_]) (cs := []) rfl trivial ?_
                                refine aw_iret eX12_faultOf_230 rfl (Nat.le_refl _) (Nat.le_refl _) ?_
                                exact pe_i (F (by rw [af_1]; (repeat' split) <;> omega)).symm rfl rfl))
                      · first
                        | (exfalso; omega; done)
                        | (refine aw_blk oX12_faultOf_55 (pc' := 58) (ls' := [_, _, _, _, _, _]) (st' := [_, _]) (cs := []) rfl trivial ?_
                           refine aw_icmp_ne (tgt := 65) eX12_faultOf_58 (by decide) (by omega) (by omega) (fun h133 => ?_) (fun h133 => ?_)
                           · first
                             | (exfalso; omega; done)
                             | (refine aw_blk oX12_faultOf_65 (pc' := 70) (ls' := [_, _, _, _, _, _]) (st' := [_, _, _]) (cs := []) rfl trivial ?_
                                refine aw_ciS (rest := []) (c_X12_in (by omega) (by omega) (by omega)) kX12_in eX12_faultOf_70 lX12_faultOf_70 rfl rfl (Nat.le_of_ble_eq_true rfl) ⟨Nat.le_of_ble_eq_true rfl, Nat.le_of_ble_eq_true rfl⟩ ⟨Nat.le_refl _, Nat.le_refl _⟩ ?_
                                refine aw_if_eq (tgt := 81) eX12_faultOf_73 (by decide) bt_r (fun hh => have h134 := bt0 hh; ?_) (fun hh => have h134 := bt1 hh; ?_)
                                · first
                                  | (exfalso; omega; done)
                                  | (refine aw_blk oX12_faultOf_81 (pc' := 83) (ls' := [_, _, _, _, _, _]) (st' := [_]) (cs := []) rfl trivial ?_
                                     refine aw_blk oX12_faultOf_83 (pc' := 224) (ls' := [_, _, _, _, _, _]) (st' := []) (cs := []) rfl trivial ?_
                                     refine aw_blk oX12_faultOf_224 (pc' := 226) (ls' := [_, _, _, _, _, _]) (st' := [_]) (cs := []) rfl trivial ?_
                                     refine aw_if_ge (tgt := 231) eX12_faultOf_226 (by decide) (by omega) (fun h135 => ?_) (fun h135 => ?_)
                                     · first
                                       | (exfalso; omega; done)
                                       | (refine aw_blk oX12_faultOf_231 (pc' := 4) (ls' := [_, _, _, _, _, _]) (st' := []) (cs := []) rfl trivial ?_
                                          exact T _ (by rw [af_1]; (repeat' split) <;> omega) (by decide) _ _ _)
                                     · first
                                       | (exfalso; omega; done)
                                       | (refine aw_blk oX12_faultOf_229 (pc' := 230) (ls' := [_, _, _, _, _, _]) (st' := [_]) (cs := []) rfl trivial ?_
                                          refine aw_iret eX12_faultOf_230 rfl (Nat.le_refl _) (Nat.le_refl _) ?_
                                          exact pe_i (F (by rw [af_1]; (repeat' split) <;> omega)).symm rfl rfl))
                                · first
                                  | (exfalso; omega; done)
                                  | (refine aw_blk oX12_faultOf_76 (pc' := 83) (ls' := [_, _, _, _, _, _]) (st' := [_]) (cs := []) rfl trivial ?_
                                     refine aw_blk oX12_faultOf_83 (pc' := 224) (ls' := [_, _, _, _, _, _]) (st' := []) (cs := []) rfl trivial ?_
                                     refine aw_blk oX12_faultOf_224 (pc' := 226) (ls' := [_, _, _, _, _, _]) (st' := [_]) (cs := []) rfl trivial ?_
                                     refine aw_if_ge (tgt := 231) eX12_faultOf_226 (by decide) (by omega) (fun h136 => ?_) (fun h136 => ?_)
                                     · first
                                       | (exfalso; omega; done)
                                       | (refine aw_blk oX12_faultOf_231 (pc' := 4) (ls' := [_, _, _, _, _, _]) (st' := []) (cs := []) rfl trivial ?_
                                          exact T _ (by rw [af_1]; (repeat' split) <;> omega) (by decide) _ _ _)
                                     · first
                                       | (exfalso; omega; done)
                                       | (refine aw_blk oX12_faultOf_229 (pc' := 230) (ls' := [_, _, _, _, _, _]) (st' := [_]) (cs := []) rfl trivial ?_
                                          refine aw_iret eX12_faultOf_230 rfl (Nat.le_refl _) (Nat.le_refl _) ?_
                                          exact pe_i (F (by rw [af_1]; (repeat' split) <;> omega)).symm rfl rfl)))
                           · first
                             | (exfalso; omega; done)
                             | (refine aw_blk oX12_faultOf_61 (pc' := 83) (ls' := [_, _, _, _, _, _]) (st' := [_]) (cs := []) rfl trivial ?_
                                refine aw_blk oX12_faultOf_83 (pc' := 224) (ls' := [_, _, _, _, _, _]) (st' := []) (cs := []) rfl trivial ?_
                                refine aw_blk oX12_faultOf_224 (pc' := 226) (ls' := [_, _, _, _, _, _]) (st' := [_]) (cs := []) rfl trivial ?_
                                refine aw_if_ge (tgt := 231) eX12_faultOf_226 (by decide) (by omega) (fun h137 => ?_) (fun h137 => ?_)
                                · first
                                  | (exfalso; omega; done)
                                  | (refine aw_blk oX12_faultOf_231 (pc' := 4) (ls' := [_, _, _, _, _, _]) (st' := []) (cs := []) rfl trivial ?_
                                     exact T _ (by rw [af_1]; (repeat' split) <;> omega) (by decide) _ _ _)
                                · first
                                  | (exfalso; omega; done)
                                  | (refine aw_blk oX12_faultOf_229 (pc' := 230) (ls' := [_, _, _, _, _, _]) (st' := [_]) (cs := []) rfl trivial ?_
                                     refine aw_iret eX12_faultOf_230 rfl (Nat.le_refl _) (Nat.le_refl _) ?_
                                     exact pe_i (F (by rw [af_1]; (repeat' split) <;> omega)).symm rfl rfl)))))))
theorem s_faultOf_2 {κ : KX} {μ : MM} {ν : ML} {P : Int} {i : Int} {u3 u4 u5 : AV} {N z : Int} (h0 : 0 ≤ i) (h1 : i < N) (a : μ 55 8 = N ∧ 0 ≤ N ∧ N ≤ 40) (g : μ 61 i = z ∧ 0 ≤ z ∧ z ≤ 126) (T : ∀ q : Int, q = af 2 z → q ≠ 9 → ∀ u3 u4 u5 : AV, AX κ mX12_faultOf 1 (PE (some (aI P)) μ ν) 4 [aR 55, aI q, aI (i + 1), u3, u4, u5] [] μ ν) (F : af 2 z = 9 → P = i) : AX κ mX12_faultOf 1 (PE (some (aI P)) μ ν) 4 [aR 55, aI 2, aI i, u3, u4, u5] [] μ ν := by
  have hbt : (48 ≤ μ 61 i ∧ μ 61 i ≤ 57 ∧ bt (μ 61 i) 48 57 = 1) ∨ (¬ (48 ≤ μ 61 i ∧ μ 61 i ≤ 57) ∧ bt (μ 61 i) 48 57 = 0) := by
    unfold bt
    split <;> omega
  refine aw_blk oX12_faultOf_4 (pc' := 9) (ls' := [_, _, _, _, _, _]) (st' := [_, _]) (cs := []) rfl trivial ?_
  refine aw_icmp_ge (tgt := 240) eX12_faultOf_9 (by decide) (by omega) (by omega) (fun h138 => ?_) (fun h138 => ?_)
  · first
    | (exfalso; omega; done)
    | (refine aw_blk oX12_faultOf_240 (pc' := 243) (ls' := [_, _, _, _, _, _]) (st' := [_, _]) (cs := []) rfl trivial ?_
       refine aw_icmp_ne (tgt := 251) eX12_faultOf_243 (by decide) (by omega) (by omega) (fun h139 => ?_) (fun h139 => ?_)
       · first
         | (exfalso; omega; done)
         | (refine aw_blk oX12_faultOf_251 (pc' := 255) (ls' := [_, _, _, _, _, _]) (st' := [_]) (cs := []) rfl trivial ?_
            refine aw_iret eX12_faultOf_255 rfl (Nat.le_refl _) (Nat.le_refl _) ?_
            exact pe_i (F (by rw [af_2]; (repeat' split) <;> omega)).symm rfl rfl)
       · first
         | (exfalso; omega; done)
         | (refine aw_blk oX12_faultOf_246 (pc' := 255) (ls' := [_, _, _, _, _, _]) (st' := [_]) (cs := []) rfl trivial ?_
            refine aw_iret eX12_faultOf_255 rfl (Nat.le_refl _) (Nat.le_refl _) ?_
            exact pe_i (F (by rw [af_2]; (repeat' split) <;> omega)).symm rfl rfl))
  · first
    | (exfalso; omega; done)
    | (refine aw_blk oX12_faultOf_12 (pc' := 28) (ls' := [_, _, _, _, _, _]) (st' := [_, _, _]) (cs := [(_, _)]) rfl (⟨⟨by omega, by omega⟩, trivial⟩) ?_
       refine aw_ciS (rest := []) (c_X12_in (by omega) (by omega) (by omega)) kX12_in eX12_faultOf_28 lX12_faultOf_28 rfl rfl (Nat.le_of_ble_eq_true rfl) ⟨Nat.le_of_ble_eq_true rfl, Nat.le_of_ble_eq_true rfl⟩ ⟨Nat.le_refl _, Nat.le_refl _⟩ ?_
       refine aw_blk oX12_faultOf_31 (pc' := 34) (ls' := [_, _, _, _, _, _]) (st' := [_]) (cs := []) rfl trivial ?_
       refine aw_if_ne (tgt := 88) eX12_faultOf_34 (by decide) (by omega) (fun h140 => ?_) (fun h140 => ?_)
       · first
         | (exfalso; omega; done)
         | (refine aw_blk oX12_faultOf_88 (pc' := 90) (ls' := [_, _, _, _, _, _]) (st' := [_, _]) (cs := []) rfl trivial ?_
            refine aw_icmp_ne (tgt := 116) eX12_faultOf_90 (by decide) (by omega) (by omega) (fun h141 => ?_) (fun h141 => ?_)
            · first
              | (exfalso; omega; done)
              | (refine aw_blk oX12_faultOf_116 (pc' := 119) (ls' := [_, _, _, _, _, _]) (st' := [_, _, _]) (cs := []) rfl trivial ?_
                 refine aw_ciS (rest := []) (c_X12_in (by omega) (by omega) (by omega)) kX12_in eX12_faultOf_119 lX12_faultOf_119 rfl rfl (Nat.le_of_ble_eq_true rfl) ⟨Nat.le_of_ble_eq_true rfl, Nat.le_of_ble_eq_true rfl⟩ ⟨Nat.le_refl _, Nat.le_refl _⟩ ?_
                 refine aw_if_eq (tgt := 148) eX12_faultOf_122 (by decide) bt_r (fun hh => have h142 := bt0 hh; ?_) (fun hh => have h142 := bt1 hh; ?_)
                 · first
                   | (exfalso; omega; done)
                   | (refine aw_blk oX12_faultOf_148 (pc' := 151) (ls' := [_, _, _, _, _, _]) (st' := [_, _, _]) (cs := []) rfl trivial ?_
                      refine aw_ciS (rest := []) (c_X12_in (by omega) (by omega) (by omega)) kX12_in eX12_faultOf_151 lX12_faultOf_151 rfl rfl (Nat.le_of_ble_eq_true rfl) ⟨Nat.le_of_ble_eq_true rfl, Nat.le_of_ble_eq_true rfl⟩ ⟨Nat.le_refl _, Nat.le_refl _⟩ ?_
                      refine aw_if_eq (tgt := 175) eX12_faultOf_154 (by decide) bt_r (fun hh => have h143 := bt0 hh; ?_) (fun hh => have h143 := bt1 hh; ?_)
                      · first
                        | (exfalso; omega; done)
                        | (refine aw_blk oX12_faultOf_175 (pc' := 178) (ls' := [_, _, _, _, _, _]) (st' := [_, _]) (cs := []) rfl trivial ?_
                           refine aw_icmp_ne (tgt := 204) eX12_faultOf_178 (by decide) (by omega) (by omega) (fun h144 => ?_) (fun h144 => ?_)
                           · first
                             | (exfalso; omega; done)
                             | (refine aw_blk oX12_faultOf_204 (pc' := 207) (ls' := [_, _, _, _, _, _]) (st' := [_, _]) (cs := []) rfl trivial ?_
                                refine aw_icmp_ne (tgt := 224) eX12_faultOf_207 (by decide) (by omega) (by omega) (fun h145 => ?_) (fun h145 => ?_)
                                · first
                                  | (exfalso; omega; done)
                                  | (refine aw_blk oX12_faultOf_224 (pc' := 226) (ls' := [_, _, _, _, _, _]) (st' := [_]) (cs := []) rfl trivial ?_
                                     refine aw_if_ge (tgt := 231) eX12_faultOf_226 (by decide) (by omega) (fun h146 => ?_) (fun h146 => ?_)
                                     · first
                                       | (exfalso; omega; done)
                                       | (refine aw_blk oX12_faultOf_231 (pc' := 4) (ls' := [_, _, _, _, _, _]) (st' := []) (cs := []) rfl trivial ?_
                                          exact T _ (by rw [af_2]; (repeat' split) <;> omega) (by decide) _ _ _)
                                     · first
                                       | (exfalso; omega; done)
                                       | (refine aw_blk oX12_faultOf_229 (pc' := 230) (ls' := [_, _, _, _, _, _]) (st' := [_]) (cs := []) rfl trivial ?_
                                          refine aw_iret eX12_faultOf_230 rfl (Nat.le_refl _) (Nat.le_refl _) ?_
                                          exact pe_i (F (by rw [af_2]; (repeat' split) <;> omega)).symm rfl rfl))
                                · first
                                  | (exfalso; omega; done)
                                  | (refine aw_blk oX12_faultOf_210 (pc' := 213) (ls' := [_, _, _, _, _, _]) (st' := [_, _]) (cs := []) rfl trivial ?_
                                     refine aw_icmp_ne (tgt := 220) eX12_faultOf_213 (by decide) (by omega) (by omega) (fun h147 => ?_) (fun h147 => ?_)
                                     · first
                                       | (exfalso; omega; done)
                                       | (refine aw_blk oX12_faultOf_220 (pc' := 222) (ls' := [_, _, _, _, _, _]) (st' := [_]) (cs := []) rfl trivial ?_
                                          refine aw_blk oX12_faultOf_222 (pc' := 224) (ls' := [_, _, _, _, _, _]) (st' := []) (cs := []) rfl trivial ?_
                                          refine aw_blk oX12_faultOf_224 (pc' := 226) (ls' := [_, _, _, _, _, _]) (st' := [_]) (cs := []) rfl trivial ?_
                                          refine aw_if_ge (tgt := 231) eX12_faultOf_226 (by decide) (by omega) (fun h148 => ?_) (fun h148 => ?_)
                                          · first
                                            | (exfalso; omega; done)
                                            | (refine aw_blk oX12_faultOf_231 (pc' := 4) (ls' := [_, _, _, _, _, _]) (st' := []) (cs := []) rfl trivial ?_
                                               exact T _ (by rw [af_2]; (repeat' split) <;> omega) (by decide) _ _ _)
                                          · first
                                            | (exfalso; omega; done)
                                            | (refine aw_blk oX12_faultOf_229 (pc' := 230) (ls' := [_, _, _, _, _, _]) (st' := [_]) (cs := []) rfl trivial ?_
                                               refine aw_iret eX12_faultOf_230 rfl (Nat.le_refl _) (Nat.le_refl _) ?_
                                               exact pe_i (F (by rw [af_2]; (repeat' split) <;> omega)).symm rfl rfl))
                                     · first
                                       | (exfalso; omega; done)
                                       | (refine aw_blk oX12_faultOf_216 (pc' := 222) (ls' := [_, _, _, _, _, _]) (st' := [_]) (cs := []) rfl trivial ?_
                                          refine aw_blk oX12_faultOf_222 (pc' := 224) (ls' := [_, _, _, _, _, _]) (st' := []) (cs := []) rfl trivial ?_
                                          refine aw_blk oX12_faultOf_224 (pc' := 226) (ls' := [_, _, _, _, _, _]) (st' := [_]) (cs := []) rfl trivial ?_
                                          refine aw_if_ge (tgt := 231) eX12_faultOf_226 (by decide) (by omega) (fun h149 => ?_) (fun h149 => ?_)
                                          · first
                                            | (exfalso; omega; done)
                                            | (refine aw_blk oX12_faultOf_231 (pc' := 4) (ls' := [_, _, _, _, _, _]) (st' := []) (cs := []) rfl trivial ?_
                                               exact T _ (by rw [af_2]; (repeat' split) <;> omega) (by decide) _ _ _)
                                          · first
                                            | (exfalso; omega; done)
                                            | (refine aw_blk oX12_faultOf_229 (pc' := 230) (ls' := [_, _, _, _, _, _]) (st' := [_]) (cs := []) rfl trivial ?_
                                               refine aw_iret eX12_faultOf_230 rfl (Nat.le_refl _) (Nat.le_refl _) ?_
                                               exact pe_i (F (by rw [af_2]; (repeat' split) <;> omega)).symm rfl rfl))))
                           · first
                             | (exfalso; omega; done)
                             | (refine aw_blk oX12_faultOf_181 (pc' := 186) (ls' := [_, _, _, _, _, _]) (st' := [_, _, _]) (cs := []) rfl trivial ?_
                                refine aw_ciS (rest := []) (c_X12_in (by omega) (by omega) (by omega)) kX12_in eX12_faultOf_186 lX12_faultOf_186 rfl rfl (Nat.le_of_ble_eq_true rfl) ⟨Nat.le_of_ble_eq_true rfl, Nat.le_of_ble_eq_true rfl⟩ ⟨Nat.le_refl _, Nat.le_refl _⟩ ?_
                                refine aw_if_eq (tgt := 197) eX12_faultOf_189 (by decide) bt_r (fun hh => have h150 := bt0 hh; ?_) (fun hh => have h150 := bt1 hh; ?_)
                                · first
                                  | (exfalso; omega; done)
                                  | (refine aw_blk oX12_faultOf_197 (pc' := 199) (ls' := [_, _, _, _, _, _]) (st' := [_]) (cs := []) rfl trivial ?_
                                     refine aw_blk oX12_faultOf_199 (pc' := 224) (ls' := [_, _, _, _, _, _]) (st' := []) (cs := []) rfl trivial ?_
                                     refine aw_blk oX12_faultOf_224 (pc' := 226) (ls' := [_, _, _, _, _, _]) (st' := [_]) (cs := []) rfl trivial ?_
                                     refine aw_if_ge (tgt := 231) eX12_faultOf_226 (by decide) (by omega) (fun h151 => ?_) (fun h151 => ?_)
                                     · first
                                       | (exfalso; omega; done)
                                       | (refine aw_blk oX12_faultOf_231 (pc' := 4) (ls' := [_, _, _, _, _, _]) (st' := []) (cs := []) rfl trivial ?_
                                          exact T _ (by rw [af_2]; (repeat' split) <;> omega) (by decide) _ _ _)
                                     · first
                                       | (exfalso; omega; done)
                                       | (refine aw_blk oX12_faultOf_229 (pc' := 230) (ls' := [_, _, _, _, _, _]) (st' := [_]) (cs := []) rfl trivial ?_
                                          refine aw_iret eX12_faultOf_230 rfl (Nat.le_refl _) (Nat.le_refl _) ?_
                                          exact pe_i (F (by rw [af_2]; (repeat' split) <;> omega)).symm rfl rfl))
                                · first
                                  | (exfalso; omega; done)
                                  | (refine aw_blk oX12_faultOf_192 (pc' := 199) (ls' := [_, _, _, _, _, _]) (st' := [_]) (cs := []) rfl trivial ?_
                                     refine aw_blk oX12_faultOf_199 (pc' := 224) (ls' := [_, _, _, _, _, _]) (st' := []) (cs := []) rfl trivial ?_
                                     refine aw_blk oX12_faultOf_224 (pc' := 226) (ls' := [_, _, _, _, _, _]) (st' := [_]) (cs := []) rfl trivial ?_
                                     refine aw_if_ge (tgt := 231) eX12_faultOf_226 (by decide) (by omega) (fun h152 => ?_) (fun h152 => ?_)
                                     · first
                                       | (exfalso; omega; done)
                                       | (refine aw_blk oX12_faultOf_231 (pc' := 4) (ls' := [_, _, _, _, _, _]) (st' := []) (cs := []) rfl trivial ?_
                                          exact T _ (by rw [af_2]; (repeat' split) <;> omega) (by decide) _ _ _)
                                     · first
                                       | (exfalso; omega; done)
                                       | (refine aw_blk oX12_faultOf_229 (pc' := 230) (ls' := [_, _, _, _, _, _]) (st' := [_]) (cs := []) rfl trivial ?_
                                          refine aw_iret eX12_faultOf_230 rfl (Nat.le_refl _) (Nat.le_refl _) ?_
                                          exact pe_i (F (by rw [af_2]; (repeat' split) <;> omega)).symm rfl rfl))))
                      · first
                        | (exfalso; omega; done)
                        | (refine aw_blk oX12_faultOf_157 (pc' := 160) (ls' := [_, _, _, _, _, _]) (st' := [_, _]) (cs := []) rfl trivial ?_
                           refine aw_icmp_ne (tgt := 168) eX12_faultOf_160 (by decide) (by omega) (by omega) (fun h153 => ?_) (fun h153 => ?_)
                           · first
                             | (exfalso; omega; done)
                             | (refine aw_blk oX12_faultOf_168 (pc' := 170) (ls' := [_, _, _, _, _, _]) (st' := [_]) (cs := []) rfl trivial ?_
                                refine aw_blk oX12_faultOf_170 (pc' := 224) (ls' := [_, _, _, _, _, _]) (st' := []) (cs := []) rfl trivial ?_
                                refine aw_blk oX12_faultOf_224 (pc' := 226) (ls' := [_, _, _, _, _, _]) (st' := [_]) (cs := []) rfl trivial ?_
                                refine aw_if_ge (tgt := 231) eX12_faultOf_226 (by decide) (by omega) (fun h154 => ?_) (fun h154 => ?_)
                                · first
                                  | (exfalso; omega; done)
                                  | (refine aw_blk oX12_faultOf_231 (pc' := 4) (ls' := [_, _, _, _, _, _]) (st' := []) (cs := []) rfl trivial ?_
                                     exact T _ (by rw [af_2]; (repeat' split) <;> omega) (by decide) _ _ _)
                                · first
                                  | (exfalso; omega; done)
                                  | (refine aw_blk oX12_faultOf_229 (pc' := 230) (ls' := [_, _, _, _, _, _]) (st' := [_]) (cs := []) rfl trivial ?_
                                     refine aw_iret eX12_faultOf_230 rfl (Nat.le_refl _) (Nat.le_refl _) ?_
                                     exact pe_i (F (by rw [af_2]; (repeat' split) <;> omega)).symm rfl rfl))
                           · first
                             | (exfalso; omega; done)
                             | (refine aw_blk oX12_faultOf_163 (pc' := 170) (ls' := [_, _, _, _, _, _]) (st' := [_]) (cs := []) rfl trivial ?_
                                refine aw_blk oX12_faultOf_170 (pc' := 224) (ls' := [_, _, _, _, _, _]) (st' := []) (cs := []) rfl trivial ?_
                                refine aw_blk oX12_faultOf_224 (pc' := 226) (ls' := [_, _, _, _, _, _]) (st' := [_]) (cs := []) rfl trivial ?_
                                refine aw_if_ge (tgt := 231) eX12_faultOf_226 (by decide) (by omega) (fun h155 => ?_) (fun h155 => ?_)
                                · first
                                  | (exfalso; omega; done)
                                  | (refine aw_blk oX12_faultOf_231 (pc' := 4) (ls' := [_, _, _, _, _, _]) (st' := []) (cs := []) rfl trivial ?_
                                     exact T _ (by rw [af_2]; (repeat' split) <;> omega) (by decide) _ _ _)
                                · first
                                  | (exfalso; omega; done)
                                  | (refine aw_blk oX12_faultOf_229 (pc' := 230) (ls' := [_, _, _, _, _, _]) (st' := [_]) (cs := []) rfl trivial ?_
                                     refine aw_iret eX12_faultOf_230 rfl (Nat.le_refl _) (Nat.le_refl _) ?_
                                     exact pe_i (F (by rw [af_2]; (repeat' split) <;> omega)).symm rfl rfl))))
                 · first
                   | (exfalso; omega; done)
                   | (refine aw_blk oX12_faultOf_125 (pc' := 127) (ls' := [_, _, _, _, _, _]) (st' := [_]) (cs := []) rfl trivial ?_
                      refine aw_if_eq (tgt := 148) eX12_faultOf_127 (by decide) (by omega) (fun h156 => ?_) (fun h156 => ?_)
                      · first
                        | (exfalso; omega; done)
                        | (refine aw_blk oX12_faultOf_148 (pc' := 151) (ls' := [_, _, _, _, _, _]) (st' := [_, _, _]) (cs := []) rfl trivial ?_
                           refine aw_ciS (rest := []) (c_X12_in (by omega) (by omega) (by omega)) kX12_in eX12_faultOf_151 lX12_faultOf_151 rfl rfl (Nat.le_of_ble_eq_true rfl) ⟨Nat.le_of_ble_eq_true rfl, Nat.le_of_ble_eq_true rfl⟩ ⟨Nat.le_refl _, Nat.le_refl _⟩ ?_
                           refine aw_if_eq (tgt := 175) eX12_faultOf_154 (by decide) bt_r (fun hh => have h157 := bt0 hh; ?_) (fun hh => have h157 := bt1 hh; ?_)
                           · first
                             | (exfalso; omega; done)
                             | (refine aw_blk oX12_faultOf_175 (pc' := 178) (ls' := [_, _, _, _, _, _]) (st' := [_, _]) (cs := []) rfl trivial ?_
                                refine aw_icmp_ne (tgt := 204) eX12_faultOf_178 (by decide) (by omega) (by omega) (fun h158 => ?_) (fun h158 => ?_)
                                · first
                                  | (exfalso; omega; done)
                                  | (refine aw_blk oX12_faultOf_204 (pc' := 207) (ls' := [_, _, _, _, _, _]) (st' := [_, _]) (cs := []) rfl trivial ?_
                                     refine aw_icmp_ne (tgt := 224) eX12_faultOf_207 (by decide) (by omega) (by omega) (fun h159 => ?_) (fun h159 => ?_)
                                     · first
                                       | (exfalso; omega; done)
                                       | (refine aw_blk oX12_faultOf_224 (pc' := 226) (ls' := [_, _, _, _, _, _]) (st' := [_]) (cs := []) rfl trivial ?_
                                          refine aw_if_ge (tgt := 231) eX12_faultOf_226 (by decide) (by omega) (fun h160 => ?_) (fun h160 => ?_)
                                          · first
                                            | (exfalso; omega; done)
                                            | (refine aw_blk oX12_faultOf_231 (pc' := 4) (ls' := [_, _, _, _, _, _]) (st' := []) (cs := []) rfl trivial ?_
                                               exact T _ (by rw [af_2]; (repeat' split) <;> omega) (by decide) _ _ _)
                                          · first
                                            | (exfalso; omega; done)
                                            | (refine aw_blk oX12_faultOf_229 (pc' := 230) (ls' := [_, _, _, _, _, _]) (st' := [_]) (cs := []) rfl trivial ?_
                                               refine aw_iret eX12_faultOf_230 rfl (Nat.le_refl _) (Nat.le_refl _) ?_
                                               exact pe_i (F (by rw [af_2]; (repeat' split) <;> omega)).symm rfl rfl))
                                     · first
                                       | (exfalso; omega; done)
                                       | (refine aw_blk oX12_faultOf_210 (pc' := 213) (ls' := [_, _, _, _, _, _]) (st' := [_, _]) (cs := []) rfl trivial ?_
                                          refine aw_icmp_ne (tgt := 220) eX12_faultOf_213 (by decide) (by omega) (by omega) (fun h161 => ?_) (fun h161 => ?_)
                                          · first
                                            | (exfalso; omega; done)
                                            | (refine aw_blk oX12_faultOf_220 (pc' := 222) (ls' := [_, _, _, _, _, _]) (st' := [_]) (cs := []) rfl trivial ?_
                                               refine aw_blk oX12_faultOf_222 (pc' := 224) (ls' := [_, _, _, _, _, _]) (st' := []) (cs := []) rfl trivial ?_
                                               refine aw_blk oX12_faultOf_224 (pc' := 226) (ls' := [_, _, _, _, _, _]) (st' := [_]) (cs := []) rfl trivial ?_
                                               refine aw_if_ge (tgt := 231) eX12_faultOf_226 (by decide) (by omega) (fun h162 => ?_) (fun h162 => ?_)
                                               · first
                                                 | (exfalso; omega; done)
                                                 | (refine aw_blk oX12_faultOf_231 (pc' := 4) (ls' := [_, _, _, _, _, _]) (st' := []) (cs := []) rfl trivial ?_
                                                    exact T _ (by rw [af_2]; (repeat' split) <;> omega) (by decide) _ _ _)
                                               · first
                                                 | (exfalso; omega; done)
                                                 | (refine aw_blk oX12_faultOf_229 (pc' := 230) (ls' := [_, _, _, _, _, _]) (st' := [_]) (cs := []) rfl trivial ?_
                                                    refine aw_iret eX12_faultOf_230 rfl (Nat.le_refl _) (Nat.le_refl _) ?_
                                                    exact pe_i (F (by rw [af_2]; (repeat' split) <;> omega)).symm rfl rfl))
                                          · first
                                            | (exfalso; omega; done)
                                            | (refine aw_blk oX12_faultOf_216 (pc' := 222) (ls' := [_, _, _, _, _, _]) (st' := [_]) (cs := []) rfl trivial ?_
                                               refine aw_blk oX12_faultOf_222 (pc' := 224) (ls' := [_, _, _, _, _, _]) (st' := []) (cs := []) rfl trivial ?_
                                               refine aw_blk oX12_faultOf_224 (pc' := 226) (ls' := [_, _, _, _, _, _]) (st' := [_]) (cs := []) rfl trivial ?_
                                               refine aw_if_ge (tgt := 231) eX12_faultOf_226 (by decide) (by omega) (fun h163 => ?_) (fun h163 => ?_)
                                               · first
                                                 | (exfalso; omega; done)
                                                 | (refine aw_blk oX12_faultOf_231 (pc' := 4) (ls' := [_, _, _, _, _, _]) (st' := []) (cs := []) rfl trivial ?_
                                                    exact T _ (by rw [af_2]; (repeat' split) <;> omega) (by decide) _ _ _)
                                               · first
                                                 | (exfalso; omega; done)
                                                 | (refine aw_blk oX12_faultOf_229 (pc' := 230) (ls' := [_, _, _, _, _, _]) (st' := [_]) (cs := []) rfl trivial ?_
                                                    refine aw_iret eX12_faultOf_230 rfl (Nat.le_refl _) (Nat.le_refl _) ?_
                                                    exact pe_i (F (by rw [af_2]; (repeat' split) <;> omega)).symm rfl rfl))))
                                · first
                                  | (exfalso; omega; done)
                                  | (refine aw_blk oX12_faultOf_181 (pc' := 186) (ls' := [_, _, _, _, _, _]) (st' := [_, _, _]) (cs := []) rfl trivial ?_
                                     refine aw_ciS (rest := []) (c_X12_in (by omega) (by omega) (by omega)) kX12_in eX12_faultOf_186 lX12_faultOf_186 rfl rfl (Nat.le_of_ble_eq_true rfl) ⟨Nat.le_of_ble_eq_true rfl, Nat.le_of_ble_eq_true rfl⟩ ⟨Nat.le_refl _, Nat.le_refl _⟩ ?_
                                     refine aw_if_eq (tgt := 197) eX12_faultOf_189 (by decide) bt_r (fun hh => have h164 := bt0 hh; ?_) (fun hh => have h164 := bt1 hh; ?_)
                                     · first
                                       | (exfalso; omega; done)
                                       | (refine aw_blk oX12_faultOf_197 (pc' := 199) (ls' := [_, _, _, _, _, _]) (st' := [_]) (cs := []) rfl trivial ?_
                                          refine aw_blk oX12_faultOf_199 (pc' := 224) (ls' := [_, _, _, _, _, _]) (st' := []) (cs := []) rfl trivial ?_
                                          refine aw_blk oX12_faultOf_224 (pc' := 226) (ls' := [_, _, _, _, _, _]) (st' := [_]) (cs := []) rfl trivial ?_
                                          refine aw_if_ge (tgt := 231) eX12_faultOf_226 (by decide) (by omega) (fun h165 => ?_) (fun h165 => ?_)
                                          · first
                                            | (exfalso; omega; done)
                                            | (refine aw_blk oX12_faultOf_231 (pc' := 4) (ls' := [_, _, _, _, _, _]) (st' := []) (cs := []) rfl trivial ?_
                                               exact T _ (by rw [af_2]; (repeat' split) <;> omega) (by decide) _ _ _)
                                          · first
                                            | (exfalso; omega; done)
                                            | (refine aw_blk oX12_faultOf_229 (pc' := 230) (ls' := [_, _, _, _, _, _]) (st' := [_]) (cs := []) rfl trivial ?_
                                               refine aw_iret eX12_faultOf_230 rfl (Nat.le_refl _) (Nat.le_refl _) ?_
                                               exact pe_i (F (by rw [af_2]; (repeat' split) <;> omega)).symm rfl rfl))
                                     · first
                                       | (exfalso; omega; done)
                                       | (refine aw_blk oX12_faultOf_192 (pc' := 199) (ls' := [_, _, _, _, _, _]) (st' := [_]) (cs := []) rfl trivial ?_
                                          refine aw_blk oX12_faultOf_199 (pc' := 224) (ls' := [_, _, _, _, _, _]) (st' := []) (cs := []) rfl trivial ?_
                                          refine aw_blk oX12_faultOf_224 (pc' := 226) (ls' := [_, _, _, _, _, _]) (st' := [_]) (cs := []) rfl trivial ?_
                                          refine aw_if_ge (tgt := 231) eX12_faultOf_226 (by decide) (by omega) (fun h166 => ?_) (fun h166 => ?_)
                                          · first
                                            | (exfalso; omega; done)
                                            | (refine aw_blk oX12_faultOf_231 (pc' := 4) (ls' := [_, _, _, _, _, _]) (st' := []) (cs := []) rfl trivial ?_
                                               exact T _ (by rw [af_2]; (repeat' split) <;> omega) (by decide) _ _ _)
                                          · first
                                            | (exfalso; omega; done)
                                            | (refine aw_blk oX12_faultOf_229 (pc' := 230) (ls' := [_, _, _, _, _, _]) (st' := [_]) (cs := []) rfl trivial ?_
                                               refine aw_iret eX12_faultOf_230 rfl (Nat.le_refl _) (Nat.le_refl _) ?_
                                               exact pe_i (F (by rw [af_2]; (repeat' split) <;> omega)).symm rfl rfl))))
                           · first
                             | (exfalso; omega; done)
                             | (refine aw_blk oX12_faultOf_157 (pc' := 160) (ls' := [_, _, _, _, _, _]) (st' := [_, _]) (cs := []) rfl trivial ?_
                                refine aw_icmp_ne (tgt := 168) eX12_faultOf_160 (by decide) (by omega) (by omega) (fun h167 => ?_) (fun h167 => ?_)
                                · first
                                  | (exfalso; omega; done)
                                  | (refine aw_blk oX12_faultOf_168 (pc' := 170) (ls' := [_, _, _, _, _, _]) (st' := [_]) (cs := []) rfl trivial ?_
                                     refine aw_blk oX12_faultOf_170 (pc' := 224) (ls' := [_, _, _, _, _, _]) (st' := []) (cs := []) rfl trivial ?_
                                     refine aw_blk oX12_faultOf_224 (pc' := 226) (ls' := [_, _, _, _, _, _]) (st' := [_]) (cs := []) rfl trivial ?_
                                     refine aw_if_ge (tgt := 231) eX12_faultOf_226 (by decide) (by omega) (fun h168 => ?_) (fun h168 => ?_)
                                     · first
                                       | (exfalso; omega; done)
                                       | (refine aw_blk oX12_faultOf_231 (pc' := 4) (ls' := [_, _, _, _, _, _]) (st' := []) (cs := []) rfl trivial ?_
                                          exact T _ (by rw [af_2]; (repeat' split) <;> omega) (by decide) _ _ _)
                                     · first
                                       | (exfalso; omega; done)
                                       | (refine aw_blk oX12_faultOf_229 (pc' := 230) (ls' := [_, _, _, _, _, _]) (st' := [_]) (cs := []) rfl trivial ?_
                                          refine aw_iret eX12_faultOf_230 rfl (Nat.le_refl _) (Nat.le_refl _) ?_
                                          exact pe_i (F (by rw [af_2]; (repeat' split) <;> omega)).symm rfl rfl))
                                · first
                                  | (exfalso; omega; done)
                                  | (refine aw_blk oX12_faultOf_163 (pc' := 170) (ls' := [_, _, _, _, _, _]) (st' := [_]) (cs := []) rfl trivial ?_
                                     refine aw_blk oX12_faultOf_170 (pc' := 224) (ls' := [_, _, _, _, _, _]) (st' := []) (cs := []) rfl trivial ?_
                                     refine aw_blk oX12_faultOf_224 (pc' := 226) (ls' := [_, _, _, _, _, _]) (st' := [_]) (cs := []) rfl trivial ?_
                                     refine aw_if_ge (tgt := 231) eX12_faultOf_226 (by decide) (by omega) (fun h169 => ?_) (fun h169 => ?_)
                                     · first
                                       | (exfalso; omega; done)
                                       | (refine aw_blk oX12_faultOf_231 (pc' := 4) (ls' := [_, _, _, _, _, _]) (st' := []) (cs := []) rfl trivial ?_
                                          exact T _ (by rw [af_2]; (repeat' split) <;> omega) (by decide) _ _ _)
                                     · first
                                       | (exfalso; omega; done)
                                       | (refine aw_blk oX12_faultOf_229 (pc' := 230) (ls' := [_, _, _, _, _, _]) (st' := [_]) (cs := []) rfl trivial ?_
                                          refine aw_iret eX12_faultOf_230 rfl (Nat.le_refl _) (Nat.le_refl _) ?_
                                          exact pe_i (F (by rw [af_2]; (repeat' split) <;> omega)).symm rfl rfl))))
                      · first
                        | (exfalso; omega; done)
                        | (refine aw_blk oX12_faultOf_130 (pc' := 132) (ls' := [_, _, _, _, _, _]) (st' := [_, _]) (cs := []) rfl trivial ?_
                           refine aw_icmp_ge (tgt := 141) eX12_faultOf_132 (by decide) (by omega) (by omega) (fun h170 => ?_) (fun h170 => ?_)
                           · first
                             | (exfalso; omega; done)
                             | (refine aw_blk oX12_faultOf_141 (pc' := 143) (ls' := [_, _, _, _, _, _]) (st' := [_]) (cs := []) rfl trivial ?_
                                refine aw_blk oX12_faultOf_143 (pc' := 224) (ls' := [_, _, _, _, _, _]) (st' := []) (cs := []) rfl trivial ?_
                                refine aw_blk oX12_faultOf_224 (pc' := 226) (ls' := [_, _, _, _, _, _]) (st' := [_]) (cs := []) rfl trivial ?_
                                refine aw_if_ge (tgt := 231) eX12_faultOf_226 (by decide) (by omega) (fun h171 => ?_) (fun h171 => ?_)
                                · first
                                  | (exfalso; omega; done)
                                  | (refine aw_blk oX12_faultOf_231 (pc' := 4) (ls' := [_, _, _, _, _, _]) (st' := []) (cs := []) rfl trivial ?_
                                     exact T _ (by rw [af_2]; (repeat' split) <;> omega) (by decide) _ _ _)
                                · first
                                  | (exfalso; omega; done)
                                  | (refine aw_blk oX12_faultOf_229 (pc' := 230) (ls' := [_, _, _, _, _, _]) (st' := [_]) (cs := []) rfl trivial ?_
                                     refine aw_iret eX12_faultOf_230 rfl (Nat.le_refl _) (Nat.le_refl _) ?_
                                     exact pe_i (F (by rw [af_2]; (repeat' split) <;> omega)).symm rfl rfl))
                           · first
                             | (exfalso; omega; done)
                             | (refine aw_blk oX12_faultOf_135 (pc' := 143) (ls' := [_, _, _, _, _, _]) (st' := [_]) (cs := []) rfl trivial ?_
                                refine aw_blk oX12_faultOf_143 (pc' := 224) (ls' := [_, _, _, _, _, _]) (st' := []) (cs := []) rfl trivial ?_
                                refine aw_blk oX12_faultOf_224 (pc' := 226) (ls' := [_, _, _, _, _, _]) (st' := [_]) (cs := []) rfl trivial ?_
                                refine aw_if_ge (tgt := 231) eX12_faultOf_226 (by decide) (by omega) (fun h172 => ?_) (fun h172 => ?_)
                                · first
                                  | (exfalso; omega; done)
                                  | (refine aw_blk oX12_faultOf_231 (pc' := 4) (ls' := [_, _, _, _, _, _]) (st' := []) (cs := []) rfl trivial ?_
                                     exact T _ (by rw [af_2]; (repeat' split) <;> omega) (by decide) _ _ _)
                                · first
                                  | (exfalso; omega; done)
                                  | (refine aw_blk oX12_faultOf_229 (pc' := 230) (ls' := [_, _, _, _, _, _]) (st' := [_]) (cs := []) rfl trivial ?_
                                     refine aw_iret eX12_faultOf_230 rfl (Nat.le_refl _) (Nat.le_refl _) ?_
                                     exact pe_i (F (by rw [af_2]; (repeat' split) <;> omega)).symm rfl rfl)))))
            · first
              | (exfalso; omega; done)
              | (refine aw_blk oX12_faultOf_93 (pc' := 96) (ls' := [_, _, _, _, _, _]) (st' := [_, _]) (cs := []) rfl trivial ?_
                 refine aw_icmp_eq (tgt := 105) eX12_faultOf_96 (by decide) (by omega) (by omega) (fun h173 => ?_) (fun h173 => ?_)
                 · first
                   | (exfalso; omega; done)
                   | (refine aw_blk oX12_faultOf_105 (pc' := 111) (ls' := [_, _, _, _, _, _]) (st' := [_]) (cs := []) rfl trivial ?_
                      refine aw_blk oX12_faultOf_111 (pc' := 224) (ls' := [_, _, _, _, _, _]) (st' := []) (cs := []) rfl trivial ?_
                      refine aw_blk oX12_faultOf_224 (pc' := 226) (ls' := [_, _, _, _, _, _]) (st' := [_]) (cs := []) rfl trivial ?_
                      refine aw_if_ge (tgt := 231) eX12_faultOf_226 (by decide) (by omega) (fun h174 => ?_) (fun h174 => ?_)
                      · first
                        | (exfalso; omega; done)
                        | (refine aw_blk oX12_faultOf_231 (pc' := 4) (ls' := [_, _, _, _, _, _]) (st' := []) (cs := []) rfl trivial ?_
                           exact T _ (by rw [af_2]; (repeat' split) <;> omega) (by decide) _ _ _)
                      · first
                        | (exfalso; omega; done)
                        | (refine aw_blk oX12_faultOf_229 (pc' := 230) (ls' := [_, _, _, _, _, _]) (st' := [_]) (cs := []) rfl trivial ?_
                           refine aw_iret eX12_faultOf_230 rfl (Nat.le_refl _) (Nat.le_refl _) ?_
                           exact pe_i (F (by rw [af_2]; (repeat' split) <;> omega)).symm rfl rfl))
                 · first
                   | (exfalso; omega; done)
                   | (refine aw_blk oX12_faultOf_99 (pc' := 102) (ls' := [_, _, _, _, _, _]) (st' := [_, _]) (cs := []) rfl trivial ?_
                      refine aw_icmp_ne (tgt := 109) eX12_faultOf_102 (by decide) (by omega) (by omega) (fun h175 => ?_) (fun h175 => ?_)
                      · first
                        | (exfalso; omega; done)
                        | (refine aw_blk oX12_faultOf_109 (pc' := 111) (ls' := [_, _, _, _, _, _]) (st' := [_]) (cs := []) rfl trivial ?_
                           refine aw_blk oX12_faultOf_111 (pc' := 224) (ls' := [_, _, _, _, _, _]) (st' := []) (cs := []) rfl trivial ?_
                           refine aw_blk oX12_faultOf_224 (pc' := 226) (ls' := [_, _, _, _, _, _]) (st' := [_]) (cs := []) rfl trivial ?_
                           refine aw_if_ge (tgt := 231) eX12_faultOf_226 (by decide) (by omega) (fun h176 => ?_) (fun h176 => ?_)
                           · first
                             | (exfalso; omega; done)
                             | (refine aw_blk oX12_faultOf_231 (pc' := 4) (ls' := [_, _, _, _, _, _]) (st' := []) (cs := []) rfl trivial ?_
                                exact T _ (by rw [af_2]; (repeat' split) <;> omega) (by decide) _ _ _)
                           · first
                             | (exfalso; omega; done)
                             | (refine aw_blk oX12_faultOf_229 (pc' := 230) (ls' := [_, _, _, _, _, _]) (st' := [_]) (cs := []) rfl trivial ?_
                                refine aw_iret eX12_faultOf_230 rfl (Nat.le_refl _) (Nat.le_refl _) ?_
                                exact pe_i (F (by rw [af_2]; (repeat' split) <;> omega)).symm rfl rfl))
                      · first
                        | (exfalso; omega; done)
                        | (refine aw_blk oX12_faultOf_105 (pc' := 111) (ls' := [_, _, _, _, _, _]) (st' := [_]) (cs := []) rfl trivial ?_
                           refine aw_blk oX12_faultOf_111 (pc' := 224) (ls' := [_, _, _, _, _, _]) (st' := []) (cs := []) rfl trivial ?_
                           refine aw_blk oX12_faultOf_224 (pc' := 226) (ls' := [_, _, _, _, _, _]) (st' := [_]) (cs := []) rfl trivial ?_
                           refine aw_if_ge (tgt := 231) eX12_faultOf_226 (by decide) (by omega) (fun h177 => ?_) (fun h177 => ?_)
                           · first
                             | (exfalso; omega; done)
                             | (refine aw_blk oX12_faultOf_231 (pc' := 4) (ls' := [_, _, _, _, _, _]) (st' := []) (cs := []) rfl trivial ?_
                                exact T _ (by rw [af_2]; (repeat' split) <;> omega) (by decide) _ _ _)
                           · first
                             | (exfalso; omega; done)
                             | (refine aw_blk oX12_faultOf_229 (pc' := 230) (ls' := [_, _, _, _, _, _]) (st' := [_]) (cs := []) rfl trivial ?_
                                refine aw_iret eX12_faultOf_230 rfl (Nat.le_refl _) (Nat.le_refl _) ?_
                                exact pe_i (F (by rw [af_2]; (repeat' split) <;> omega)).symm rfl rfl)))))
       · first
         | (exfalso; omega; done)
         | (refine aw_blk oX12_faultOf_37 (pc' := 40) (ls' := [_, _, _, _, _, _]) (st' := [_, _]) (cs := []) rfl trivial ?_
            refine aw_icmp_eq (tgt := 61) eX12_faultOf_40 (by decide) (by omega) (by omega) (fun h178 => ?_) (fun h178 => ?_)
            · first
              | (exfalso; omega; done)
              | (refine aw_blk oX12_faultOf_61 (pc' := 83) (ls' := [_, _, _, _, _, _]) (st' := [_]) (cs := []) rfl trivial ?_
                 refine aw_blk oX12_faultOf_83 (pc' := 224) (ls' := [_, _, _, _, _, _]) (st' := []) (cs := []) rfl trivial ?_
                 refine aw_blk oX12_faultOf_224 (pc' := 226) (ls' := [_, _, _, _, _, _]) (st' := [_]) (cs := []) rfl trivial ?_
                 refine aw_if_ge (tgt := 231) eX12_faultOf_226 (by decide) (by omega) (fun h179 => ?_) (fun h179 => ?_)
                 · first
                   | (exfalso; omega; done)
                   | (refine aw_blk oX12_faultOf_231 (pc' := 4) (ls' := [_, _, _, _, _, _]) (st' := []) (cs := []) rfl trivial ?_
                      exact T _ (by rw [af_2]; (repeat' split) <;> omega) (by decide) _ _ _)
                 · first
                   | (exfalso; omega; done)
                   | (refine aw_blk oX12_faultOf_229 (pc' := 230) (ls' := [_, _, _, _, _, _]) (st' := [_]) (cs := []) rfl trivial ?_
                      refine aw_iret eX12_faultOf_230 rfl (Nat.le_refl _) (Nat.le_refl _) ?_
                      exact pe_i (F (by rw [af_2]; (repeat' split) <;> omega)).symm rfl rfl))
            · first
              | (exfalso; omega; done)
              | (refine aw_blk oX12_faultOf_43 (pc' := 46) (ls' := [_, _, _, _, _, _]) (st' := [_, _]) (cs := []) rfl trivial ?_
                 refine aw_icmp_eq (tgt := 61) eX12_faultOf_46 (by decide) (by omega) (by omega) (fun h180 => ?_) (fun h180 => ?_)
                 · first
                   | (exfalso; omega; done)
                   | (refine aw_blk oX12_faultOf_61 (pc' := 83) (ls' := [_, _, _, _, _, _]) (st' := [_]) (cs := []) rfl trivial ?_
                      refine aw_blk oX12_faultOf_83 (pc' := 224) (ls' := [_, _, _, _, _, _]) (st' := []) (cs := []) rfl trivial ?_
                      refine aw_blk oX12_faultOf_224 (pc' := 226) (ls' := [_, _, _, _, _, _]) (st' := [_]) (cs := []) rfl trivial ?_
                      refine aw_if_ge (tgt := 231) eX12_faultOf_226 (by decide) (by omega) (fun h181 => ?_) (fun h181 => ?_)
                      · first
                        | (exfalso; omega; done)
                        | (refine aw_blk oX12_faultOf_231 (pc' := 4) (ls' := [_, _, _, _, _, _]) (st' := []) (cs := []) rfl trivial ?_
                           exact T _ (by rw [af_2]; (repeat' split) <;> omega) (by decide) _ _ _)
                      · first
                        | (exfalso; omega; done)
                        | (refine aw_blk oX12_faultOf_229 (pc' := 230) (ls' := [_, _, _, _, _, _]) (st' := [_]) (cs := []) rfl trivial ?_
                           refine aw_iret eX12_faultOf_230 rfl (Nat.le_refl _) (Nat.le_refl _) ?_
                           exact pe_i (F (by rw [af_2]; (repeat' split) <;> omega)).symm rfl rfl))
                 · first
                   | (exfalso; omega; done)
                   | (refine aw_blk oX12_faultOf_49 (pc' := 52) (ls' := [_, _, _, _, _, _]) (st' := [_, _]) (cs := []) rfl trivial ?_
                      refine aw_icmp_eq (tgt := 61) eX12_faultOf_52 (by decide) (by omega) (by omega) (fun h182 => ?_) (fun h182 => ?_)
                      · first
                        | (exfalso; omega; done)
                        | (refine aw_blk oX12_faultOf_61 (pc' := 83) (ls' := [_, _, _, _, _, _]) (st' := [_]) (cs := []) rfl trivial ?_
                           refine aw_blk oX12_faultOf_83 (pc' := 224) (ls' := [_, _, _, _, _, _]) (st' := []) (cs := []) rfl trivial ?_
                           refine aw_blk oX12_faultOf_224 (pc' := 226) (ls' := [_, _, _, _, _, _]) (st' := [_]) (cs := []) rfl trivial ?_
                           refine aw_if_ge (tgt := 231) eX12_faultOf_226 (by decide) (by omega) (fun h183 => ?_) (fun h183 => ?_)
                           · first
                             | (exfalso; omega; done)
                             | (refine aw_blk oX12_faultOf_231 (pc' := 4) (ls' := [_, _, _, _, _, _]) (st' := []) (cs := []) rfl trivial ?_
                                exact T _ (by rw [af_2]; (repeat' split) <;> omega) (by decide) _ _ _)
                           · first
                             | (exfalso; omega; done)
                             | (refine aw_blk oX12_faultOf_229 (pc' := 230) (ls' := [_, _, _, _, _, _]) (st' := [_]) (cs := []) rfl trivial ?_
                                refine aw_iret eX12_faultOf_230 rfl (Nat.le_refl _) (Nat.le_refl _) ?_
                                exact pe_i (F (by rw [af_2]; (repeat' split) <;> omega)).symm rfl rfl))
                      · first
                        | (exfalso; omega; done)
                        | (refine aw_blk oX12_faultOf_55 (pc' := 58) (ls' := [_, _, _, _, _, _]) (st' := [_, _]) (cs := []) rfl trivial ?_
                           refine aw_icmp_ne (tgt := 65) eX12_faultOf_58 (by decide) (by omega) (by omega) (fun h184 => ?_) (fun h184 => ?_)
                           · first
                             | (exfalso; omega; done)
                             | (refine aw_blk oX12_faultOf_65 (pc' := 70) (ls' := [_, _, _, _, _, _]) (st' := [_, _, _]) (cs := []) rfl trivial ?_
                                refine aw_ciS (rest := []) (c_X12_in (by omega) (by omega) (by omega)) kX12_in eX12_faultOf_70 lX12_faultOf_70 rfl rfl (Nat.le_of_ble_eq_true rfl) ⟨Nat.le_of_ble_eq_true rfl, Nat.le_of_ble_eq_true rfl⟩ ⟨Nat.le_refl _, Nat.le_refl _⟩ ?_
                                refine aw_if_eq (tgt := 81) eX12_faultOf_73 (by decide) bt_r (fun hh => have h185 := bt0 hh; ?_) (fun hh => have h185 := bt1 hh; ?_)
                                · first
                                  | (exfalso; omega; done)
                                  | (refine aw_blk oX12_faultOf_81 (pc' := 83) (ls' := [_, _, _, _, _, _]) (st' := [_]) (cs := []) rfl trivial ?_
                                     refine aw_blk oX12_faultOf_83 (pc' := 224) (ls' := [_, _, _, _, _, _]) (st' := []) (cs := []) rfl trivial ?_
                                     refine aw_blk oX12_faultOf_224 (pc' := 226) (ls' := [_, _, _, _, _, _]) (st' := [_]) (cs := []) rfl trivial ?_
                                     refine aw_if_ge (tgt := 231) eX12_faultOf_226 (by decide) (by omega) (fun h186 => ?_) (fun h186 => ?_)
                                     · first
                                       | (exfalso; omega; done)
                                       | (refine aw_blk oX12_faultOf_231 (pc' := 4) (ls' := [_, _, _, _, _, _]) (st' := []) (cs := []) rfl trivial ?_
                                          exact T _ (by rw [af_2]; (repeat' split) <;> omega) (by decide) _ _ _)
                                     · first
                                       | (exfalso; omega; done)
                                       | (refine aw_blk oX12_faultOf_229 (pc' := 230) (ls' := [_, _, _, _, _, _]) (st' := [_]) (cs := []) rfl trivial ?_
                                          refine aw_iret eX12_faultOf_230 rfl (Nat.le_refl _) (Nat.le_refl _) ?_
                                          exact pe_i (F (by rw [af_2]; (repeat' split) <;> omega)).symm rfl rfl))
                                · first
                                  | (exfalso; omega; done)
                                  | (refine aw_blk oX12_faultOf_76 (pc' := 83) (ls' := [_, _, _, _, _, _]) (st' := [_]) (cs := []) rfl trivial ?_
                                     refine aw_blk oX12_faultOf_83 (pc' := 224) (ls' := [_, _, _, _, _, _]) (st' := []) (cs := []) rfl trivial ?_
                                     refine aw_blk oX12_faultOf_224 (pc' := 226) (ls' := [_, _, _, _, _, _]) (st' := [_]) (cs := []) rfl trivial ?_
                                     refine aw_if_ge (tgt := 231) eX12_faultOf_226 (by decide) (by omega) (fun h187 => ?_) (fun h187 => ?_)
                                     · first
                                       | (exfalso; omega; done)
                                       | (refine aw_blk oX12_faultOf_231 (pc' := 4) (ls' := [_, _, _, _, _, _]) (st' := []) (cs := []) rfl trivial ?_
                                          exact T _ (by rw [af_2]; (repeat' split) <;> omega) (by decide) _ _ _)
                                     · first
                                       | (exfalso; omega; done)
                                       | (refine aw_blk oX12_faultOf_229 (pc' := 230) (ls' := [_, _, _, _, _, _]) (st' := [_]) (cs := []) rfl trivial ?_
                                          refine aw_iret eX12_faultOf_230 rfl (Nat.le_refl _) (Nat.le_refl _) ?_
                                          exact pe_i (F (by rw [af_2]; (repeat' split) <;> omega)).symm rfl rfl)))
                           · first
                             | (exfalso; omega; done)
                             | (refine aw_blk oX12_faultOf_61 (pc' := 83) (ls' := [_, _, _, _, _, _]) (st' := [_]) (cs := []) rfl trivial ?_
                                refine aw_blk oX12_faultOf_83 (pc' := 224) (ls' := [_, _, _, _, _, _]) (st' := []) (cs := []) rfl trivial ?_
                                refine aw_blk oX12_faultOf_224 (pc' := 226) (ls' := [_, _, _, _, _, _]) (st' := [_]) (cs := []) rfl trivial ?_
                                refine aw_if_ge (tgt := 231) eX12_faultOf_226 (by decide) (by omega) (fun h188 => ?_) (fun h188 => ?_)
                                · first
                                  | (exfalso; omega; done)
                                  | (refine aw_blk oX12_faultOf_231 (pc' := 4) (ls' := [_, _, _, _, _, _]) (st' := []) (cs := []) rfl trivial ?_
                                     exact T _ (by rw [af_2]; (repeat' split) <;> omega) (by decide) _ _ _)
                                · first
                                  | (exfalso; omega; done)
                                  | (refine aw_blk oX12_faultOf_229 (pc' := 230) (ls' := [_, _, _, _, _, _]) (st' := [_]) (cs := []) rfl trivial ?_
                                     refine aw_iret eX12_faultOf_230 rfl (Nat.le_refl _) (Nat.le_refl _) ?_
                                     exact pe_i (F (by rw [af_2]; (repeat' split) <;> omega)).symm rfl rfl)))))))
theorem s_faultOf_3 {κ : KX} {μ : MM} {ν : ML} {P : Int} {i : Int} {u3 u4 u5 : AV} {N z : Int} (h0 : 0 ≤ i) (h1 : i < N) (a : μ 55 8 = N ∧ 0 ≤ N ∧ N ≤ 40) (g : μ 61 i = z ∧ 0 ≤ z ∧ z ≤ 126) (T : ∀ q : Int, q = af 3 z → q ≠ 9 → ∀ u3 u4 u5 : AV, AX κ mX12_faultOf 1 (PE (some (aI P)) μ ν) 4 [aR 55, aI q, aI (i + 1), u3, u4, u5] [] μ ν) (F : af 3 z = 9 → P = i) : AX κ mX12_faultOf 1 (PE (some (aI P)) μ ν) 4 [aR 55, aI 3, aI i, u3, u4, u5] [] μ ν := by
  have hbt : (48 ≤ μ 61 i ∧ μ 61 i ≤ 57 ∧ bt (μ 61 i) 48 57 = 1) ∨ (¬ (48 ≤ μ 61 i ∧ μ 61 i ≤ 57) ∧ bt (μ 61 i) 48 57 = 0) := by
    unfold bt
    split <;> omega
  refine aw_blk oX12_faultOf_4 (pc' := 9) (ls' := [_, _, _, _, _, _]) (st' := [_, _]) (cs := []) rfl trivial ?_
  refine aw_icmp_ge (tgt := 240) eX12_faultOf_9 (by decide) (by omega) (by omega) (fun h189 => ?_) (fun h189 => ?_)
  · first
    | (exfalso; omega; done)
    | (refine aw_blk oX12_faultOf_240 (pc' := 243) (ls' := [_, _, _, _, _, _]) (st' := [_, _]) (cs := []) rfl trivial ?_
       refine aw_icmp_ne (tgt := 251) eX12_faultOf_243 (by decide) (by omega) (by omega) (fun h190 => ?_) (fun h190 => ?_)
       · first
         | (exfalso; omega; done)
         | (refine aw_blk oX12_faultOf_251 (pc' := 255) (ls' := [_, _, _, _, _, _]) (st' := [_]) (cs := []) rfl trivial ?_
            refine aw_iret eX12_faultOf_255 rfl (Nat.le_refl _) (Nat.le_refl _) ?_
            exact pe_i (F (by rw [af_3]; (repeat' split) <;> omega)).symm rfl rfl)
       · first
         | (exfalso; omega; done)
         | (refine aw_blk oX12_faultOf_246 (pc' := 255) (ls' := [_, _, _, _, _, _]) (st' := [_]) (cs := []) rfl trivial ?_
            refine aw_iret eX12_faultOf_255 rfl (Nat.le_refl _) (Nat.le_refl _) ?_
            exact pe_i (F (by rw [af_3]; (repeat' split) <;> omega)).symm rfl rfl))
  · first
    | (exfalso; omega; done)
    | (refine aw_blk oX12_faultOf_12 (pc' := 28) (ls' := [_, _, _, _, _, _]) (st' := [_, _, _]) (cs := [(_, _)]) rfl (⟨⟨by omega, by omega⟩, trivial⟩) ?_
       refine aw_ciS (rest := []) (c_X12_in (by omega) (by omega) (by omega)) kX12_in eX12_faultOf_28 lX12_faultOf_28 rfl rfl (Nat.le_of_ble_eq_true rfl) ⟨Nat.le_of_ble_eq_true rfl, Nat.le_of_ble_eq_true rfl⟩ ⟨Nat.le_refl _, Nat.le_refl _⟩ ?_
       refine aw_blk oX12_faultOf_31 (pc' := 34) (ls' := [_, _, _, _, _, _]) (st' := [_]) (cs := []) rfl trivial ?_
       refine aw_if_ne (tgt := 88) eX12_faultOf_34 (by decide) (by omega) (fun h191 => ?_) (fun h191 => ?_)
       · first
         | (exfalso; omega; done)
         | (refine aw_blk oX12_faultOf_88 (pc' := 90) (ls' := [_, _, _, _, _, _]) (st' := [_, _]) (cs := []) rfl trivial ?_
            refine aw_icmp_ne (tgt := 116) eX12_faultOf_90 (by decide) (by omega) (by omega) (fun h192 => ?_) (fun h192 => ?_)
            · first
              | (exfalso; omega; done)
              | (refine aw_blk oX12_faultOf_116 (pc' := 119) (ls' := [_, _, _, _, _, _]) (st' := [_, _, _]) (cs := []) rfl trivial ?_
                 refine aw_ciS (rest := []) (c_X12_in (by omega) (by omega) (by omega)) kX12_in eX12_faultOf_119 lX12_faultOf_119 rfl rfl (Nat.le_of_ble_eq_true rfl) ⟨Nat.le_of_ble_eq_true rfl, Nat.le_of_ble_eq_true rfl⟩ ⟨Nat.le_refl _, Nat.le_refl _⟩ ?_
                 refine aw_if_eq (tgt := 148) eX12_faultOf_122 (by decide) bt_r (fun hh => have h193 := bt0 hh; ?_) (fun hh => have h193 := bt1 hh; ?_)
                 · first
                   | (exfalso; omega; done)
                   | (refine aw_blk oX12_faultOf_148 (pc' := 151) (ls' := [_, _, _, _, _, _]) (st' := [_, _, _]) (cs := []) rfl trivial ?_
                      refine aw_ciS (rest := []) (c_X12_in (by omega) (by omega) (by omega)) kX12_in eX12_faultOf_151 lX12_faultOf_151 rfl rfl (Nat.le_of_ble_eq_true rfl) ⟨Nat.le_of_ble_eq_true rfl, Nat.le_of_ble_eq_true rfl⟩ ⟨Nat.le_refl _, Nat.le_refl _⟩ ?_
                      refine aw_if_eq (tgt := 175) eX12_faultOf_154 (by decide) bt_r (fun hh => have h194 := bt0 hh; ?_) (fun hh => have h194 := bt1 hh; ?_)
                      · first
                        | (exfalso; omega; done)
                        | (refine aw_blk oX12_faultOf_175 (pc' := 178) (ls' := [_, _, _, _, _, _]) (st' := [_, _]) (cs := []) rfl trivial ?_
                           refine aw_icmp_ne (tgt := 204) eX12_faultOf_178 (by decide) (by omega) (by omega) (fun h195 => ?_) (fun h195 => ?_)
                           · first
                             | (exfalso; omega; done)
                             | (refine aw_blk oX12_faultOf_204 (pc' := 207) (ls' := [_, _, _, _, _, _]) (st' := [_, _]) (cs := []) rfl trivial ?_
                                refine aw_icmp_ne (tgt := 224) eX12_faultOf_207 (by decide) (by omega) (by omega) (fun h196 => ?_) (fun h196 => ?_)
                                · first
                                  | (exfalso; omega; done)
                                  | (refine aw_blk oX12_faultOf_224 (pc' := 226) (ls' := [_, _, _, _, _, _]) (st' := [_]) (cs := []) rfl trivial ?_
                                     refine aw_if_ge (tgt := 231) eX12_faultOf_226 (by decide) (by omega) (fun h197 => ?_) (fun h197 => ?_)
                                     · first
                                       | (exfalso; omega; done)
                                       | (refine aw_blk oX12_faultOf_231 (pc' := 4) (ls' := [_, _, _, _, _, _]) (st' := []) (cs := []) rfl trivial ?_
                                          exact T _ (by rw [af_3]; (repeat' split) <;> omega) (by decide) _ _ _)
                                     · first
                                       | (exfalso; omega; done)
                                       | (refine aw_blk oX12_faultOf_229 (pc' := 230) (ls' := [_, _, _, _, _, _]) (st' := [_]) (cs := []) rfl trivial ?_
                                          refine aw_iret eX12_faultOf_230 rfl (Nat.le_refl _) (Nat.le_refl _) ?_
                                          exact pe_i (F (by rw [af_3]; (repeat' split) <;> omega)).symm rfl rfl))
                                · first
                                  | (exfalso; omega; done)
                                  | (refine aw_blk oX12_faultOf_210 (pc' := 213) (ls' := [_, _, _, _, _, _]) (st' := [_, _]) (cs := []) rfl trivial ?_
                                     refine aw_icmp_ne (tgt := 220) eX12_faultOf_213 (by decide) (by omega) (by omega) (fun h198 => ?_) (fun h198 => ?_)
                                     · first
                                       | (exfalso; omega; done)
                                       | (refine aw_blk oX12_faultOf_220 (pc' := 222) (ls' := [_, _, _, _, _, _]) (st' := [_]) (cs := []) rfl trivial ?_
                                          refine aw_blk oX12_faultOf_222 (pc' := 224) (ls' := [_, _, _, _, _, _]) (st' := []) (cs := []) rfl trivial ?_
                                          refine aw_blk oX12_faultOf_224 (pc' := 226) (ls' := [_, _, _, _, _, _]) (st' := [_]) (cs := []) rfl trivial ?_
                                          refine aw_if_ge (tgt := 231) eX12_faultOf_226 (by decide) (by omega) (fun h199 => ?_) (fun h199 => ?_)
                                          · first
                                            | (exfalso; omega; done)
                                            | (refine aw_blk oX12_faultOf_231 (pc' := 4) (ls' := [_, _, _, _, _, _]) (st' := []) (cs := []) rfl trivial ?_
                                               exact T _ (by rw [af_3]; (repeat' split) <;> omega) (by decide) _ _ _)
                                          · first
                                            | (exfalso; omega; done)
                                            | (refine aw_blk oX12_faultOf_229 (pc' := 230) (ls' := [_, _, _, _, _, _]) (st' := [_]) (cs := []) rfl trivial ?_
                                               refine aw_iret eX12_faultOf_230 rfl (Nat.le_refl _) (Nat.le_refl _) ?_
                                               exact pe_i (F (by rw [af_3]; (repeat' split) <;> omega)).symm rfl rfl))
                                     · first
                                       | (exfalso; omega; done)
                                       | (refine aw_blk oX12_faultOf_216 (pc' := 222) (ls' := [_, _, _, _, _, _]) (st' := [_]) (cs := []) rfl trivial ?_
                                          refine aw_blk oX12_faultOf_222 (pc' := 224) (ls' := [_, _, _, _, _, _]) (st' := []) (cs := []) rfl trivial ?_
                                          refine aw_blk oX12_faultOf_224 (pc' := 226) (ls' := [_, _, _, _, _, _]) (st' := [_]) (cs := []) rfl trivial ?_
                                          refine aw_if_ge (tgt := 231) eX12_faultOf_226 (by decide) (by omega) (fun h200 => ?_) (fun h200 => ?_)
                                          · first
                                            | (exfalso; omega; done)
                                            | (refine aw_blk oX12_faultOf_231 (pc' := 4) (ls' := [_, _, _, _, _, _]) (st' := []) (cs := []) rfl trivial ?_
                                               exact T _ (by rw [af_3]; (repeat' split) <;> omega) (by decide) _ _ _)
                                          · first
                                            | (exfalso; omega; done)
                                            | (refine aw_blk oX12_faultOf_229 (pc' := 230) (ls' := [_, _, _, _, _, _]) (st' := [_]) (cs := []) rfl trivial ?_
                                               refine aw_iret eX12_faultOf_230 rfl (Nat.le_refl _) (Nat.le_refl _) ?_
                                               exact pe_i (F (by rw [af_3]; (repeat' split) <;> omega)).symm rfl rfl))))
                           · first
                             | (exfalso; omega; done)
                             | (refine aw_blk oX12_faultOf_181 (pc' := 186) (ls' := [_, _, _, _, _, _]) (st' := [_, _, _]) (cs := []) rfl trivial ?_
                                refine aw_ciS (rest := []) (c_X12_in (by omega) (by omega) (by omega)) kX12_in eX12_faultOf_186 lX12_faultOf_186 rfl rfl (Nat.le_of_ble_eq_true rfl) ⟨Nat.le_of_ble_eq_true rfl, Nat.le_of_ble_eq_true rfl⟩ ⟨Nat.le_refl _, Nat.le_refl _⟩ ?_
                                refine aw_if_eq (tgt := 197) eX12_faultOf_189 (by decide) bt_r (fun hh => have h201 := bt0 hh; ?_) (fun hh => have h201 := bt1 hh; ?_)
                                · first
                                  | (exfalso; omega; done)
                                  | (refine aw_blk oX12_faultOf_197 (pc' := 199) (ls' := [_, _, _, _, _, _]) (st' := [_]) (cs := []) rfl trivial ?_
                                     refine aw_blk oX12_faultOf_199 (pc' := 224) (ls' := [_, _, _, _, _, _]) (st' := []) (cs := []) rfl trivial ?_
                                     refine aw_blk oX12_faultOf_224 (pc' := 226) (ls' := [_, _, _, _, _, _]) (st' := [_]) (cs := []) rfl trivial ?_
                                     refine aw_if_ge (tgt := 231) eX12_faultOf_226 (by decide) (by omega) (fun h202 => ?_) (fun h202 => ?_)
                                     · first
                                       | (exfalso; omega; done)
                                       | (refine aw_blk oX12_faultOf_231 (pc' := 4) (ls' := [_, _, _, _, _, _]) (st' := []) (cs := []) rfl trivial ?_
                                          exact T _ (by rw [af_3]; (repeat' split) <;> omega) (by decide) _ _ _)
                                     · first
                                       | (exfalso; omega; done)
                                       | (refine aw_blk oX12_faultOf_229 (pc' := 230) (ls' := [_, _, _, _, _, _]) (st' := [_]) (cs := []) rfl trivial ?_
                                          refine aw_iret eX12_faultOf_230 rfl (Nat.le_refl _) (Nat.le_refl _) ?_
                                          exact pe_i (F (by rw [af_3]; (repeat' split) <;> omega)).symm rfl rfl))
                                · first
                                  | (exfalso; omega; done)
                                  | (refine aw_blk oX12_faultOf_192 (pc' := 199) (ls' := [_, _, _, _, _, _]) (st' := [_]) (cs := []) rfl trivial ?_
                                     refine aw_blk oX12_faultOf_199 (pc' := 224) (ls' := [_, _, _, _, _, _]) (st' := []) (cs := []) rfl trivial ?_
                                     refine aw_blk oX12_faultOf_224 (pc' := 226) (ls' := [_, _, _, _, _, _]) (st' := [_]) (cs := []) rfl trivial ?_
                                     refine aw_if_ge (tgt := 231) eX12_faultOf_226 (by decide) (by omega) (fun h203 => ?_) (fun h203 => ?_)
                                     · first
                                       | (exfalso; omega; done)
                                       | (refine aw_blk oX12_faultOf_231 (pc' := 4) (ls' := [_, _, _, _, _, _]) (st' := []) (cs := []) rfl trivial ?_
                                          exact T _ (by rw [af_3]; (repeat' split) <;> omega) (by decide) _ _ _)
                                     · first
                                       | (exfalso; omega; done)
                                       | (refine aw_blk oX12_faultOf_229 (pc' := 230) (ls' := [_, _, _, _, _, _]) (st' := [_]) (cs := []) rfl trivial ?_
                                          refine aw_iret eX12_faultOf_230 rfl (Nat.le_refl _) (Nat.le_refl _) ?_
                                          exact pe_i (F (by rw [af_3]; (repeat' split) <;> omega)).symm rfl rfl))))
                      · first
                        | (exfalso; omega; done)
                        | (refine aw_blk oX12_faultOf_157 (pc' := 160) (ls' := [_, _, _, _, _, _]) (st' := [_, _]) (cs := []) rfl trivial ?_
                           refine aw_icmp_ne (tgt := 168) eX12_faultOf_160 (by decide) (by omega) (by omega) (fun h204 => ?_) (fun h204 => ?_)
                           · first
                             | (exfalso; omega; done)
                             | (refine aw_blk oX12_faultOf_168 (pc' := 170) (ls' := [_, _, _, _, _, _]) (st' := [_]) (cs := []) rfl trivial ?_
                                refine aw_blk oX12_faultOf_170 (pc' := 224) (ls' := [_, _, _, _, _, _]) (st' := []) (cs := []) rfl trivial ?_
                                refine aw_blk oX12_faultOf_224 (pc' := 226) (ls' := [_, _, _, _, _, _]) (st' := [_]) (cs := []) rfl trivial ?_
                                refine aw_if_ge (tgt := 231) eX12_faultOf_226 (by decide) (by omega) (fun h205 => ?_) (fun h205 => ?_)
                                · first
                                  | (exfalso; omega; done)
                                  | (refine aw_blk oX12_faultOf_231 (pc' := 4) (ls' := [_, _, _, _, _, _]) (st' := []) (cs := []) rfl trivial ?_
                                     exact T _ (by rw [af_3]; (repeat' split) <;> omega) (by decide) _ _ _)
                                · first
                                  | (exfalso; omega; done)
                                  | (refine aw_blk oX12_faultOf_229 (pc' := 230) (ls' := [_, _, _, _, _, _]) (st' := [_]) (cs := []) rfl trivial ?_
                                     refine aw_iret eX12_faultOf_230 rfl (Nat.le_refl _) (Nat.le_refl _) ?_
                                     exact pe_i (F (by rw [af_3]; (repeat' split) <;> omega)).symm rfl rfl))
                           · first
                             | (exfalso; omega; done)
                             | (refine aw_blk oX12_faultOf_163 (pc' := 170) (ls' := [_, _, _, _, _, _]) (st' := [_]) (cs := []) rfl trivial ?_
                                refine aw_blk oX12_faultOf_170 (pc' := 224) (ls' := [_, _, _, _, _, _]) (st' := []) (cs := []) rfl trivial ?_
                                refine aw_blk oX12_faultOf_224 (pc' := 226) (ls' := [_, _, _, _, _, _]) (st' := [_]) (cs := []) rfl trivial ?_
                                refine aw_if_ge (tgt := 231) eX12_faultOf_226 (by decide) (by omega) (fun h206 => ?_) (fun h206 => ?_)
                                · first
                                  | (exfalso; omega; done)
                                  | (refine aw_blk oX12_faultOf_231 (pc' := 4) (ls' := [_, _, _, _, _, _]) (st' := []) (cs := []) rfl trivial ?_
                                     exact T _ (by rw [af_3]; (repeat' split) <;> omega) (by decide) _ _ _)
                                · first
                                  | (exfalso; omega; done)
                                  | (refine aw_blk oX12_faultOf_229 (pc' := 230) (ls' := [_, _, _, _, _, _]) (st' := [_]) (cs := []) rfl trivial ?_
                                     refine aw_iret eX12_faultOf_230 rfl (Nat.le_refl _) (Nat.le_refl _) ?_
                                     exact pe_i (F (by rw [af_3]; (repeat' split) <;> omega)).symm rfl rfl))))
                 · first
                   | (exfalso; omega; done)
                   | (refine aw_blk oX12_faultOf_125 (pc' := 127) (ls' := [_, _, _, _, _, _]) (st' := [_]) (cs := []) rfl trivial ?_
                      refine aw_if_eq (tgt := 148) eX12_faultOf_127 (by decide) (by omega) (fun h207 => ?_) (fun h207 => ?_)
                      · first
                        | (exfalso; omega; done)
                        | (refine aw_blk oX12_faultOf_148 (pc' := 151) (ls' := [_, _, _, _, _, _]) (st' := [_, _, _]) (cs := []) rfl trivial ?_
                           refine aw_ciS (rest := []) (c_X12_in (by omega) (by omega) (by omega)) kX12_in eX12_faultOf_151 lX12_faultOf_151 rfl rfl (Nat.le_of_ble_eq_true rfl) ⟨Nat.le_of_ble_eq_true rfl, Nat.le_of_ble_eq_true rfl⟩ ⟨Nat.le_refl _, Nat.le_refl _⟩ ?_
                           refine aw_if_eq (tgt := 175) eX12_faultOf_154 (by decide) bt_r (fun hh => have h208 := bt0 hh; ?_) (fun hh => have h208 := bt1 hh; ?_)
                           · first
                             | (exfalso; omega; done)
                             | (refine aw_blk oX12_faultOf_175 (pc' := 178) (ls' := [_, _, _, _, _, _]) (st' := [_, _]) (cs := []) rfl trivial ?_
                                refine aw_icmp_ne (tgt := 204) eX12_faultOf_178 (by decide) (by omega) (by omega) (fun h209 => ?_) (fun h209 => ?_)
                                · first
                                  | (exfalso; omega; done)
                                  | (refine aw_blk oX12_faultOf_204 (pc' := 207) (ls' := [_, _, _, _, _, _]) (st' := [_, _]) (cs := []) rfl trivial ?_
                                     refine aw_icmp_ne (tgt := 224) eX12_faultOf_207 (by decide) (by omega) (by omega) (fun h210 => ?_) (fun h210 => ?_)
                                     · first
                                       | (exfalso; omega; done)
                                       | (refine aw_blk oX12_faultOf_224 (pc' := 226) (ls' := [_, _, _, _, _, _]) (st' := [_]) (cs := []) rfl trivial ?_
                                          refine aw_if_ge (tgt := 231) eX12_faultOf_226 (by decide) (by omega) (fun h211 => ?_) (fun h211 => ?_)
                                          · first
                                            | (exfalso; omega; done)
                                            | (refine aw_blk oX12_faultOf_231 (pc' := 4) (ls' := [_, _, _, _, _, _]) (st' := []) (cs := []) rfl trivial ?_
                                               exact T _ (by rw [af_3]; (repeat' split) <;> omega) (by decide) _ _ _)
                                          · first
                                            | (exfalso; omega; done)
                                            | (refine aw_blk oX12_faultOf_229 (pc' := 230) (ls' := [_, _, _, _, _, _]) (st' := [_]) (cs := []) rfl trivial ?_
                                               refine aw_iret eX12_faultOf_230 rfl (Nat.le_refl _) (Nat.le_refl _) ?_
                                               exact pe_i (F (by rw [af_3]; (repeat' split) <;> omega)).symm rfl rfl))
                                     · first
                                       | (exfalso; omega; done)
                                       | (refine aw_blk oX12_faultOf_210 (pc' := 213) (ls' := [_, _, _, _, _, _]) (st' := [_, _]) (cs := []) rfl trivial ?_
                                          refine aw_icmp_ne (tgt := 220) eX12_faultOf_213 (by decide) (by omega) (by omega) (fun h212 => ?_) (fun h212 => ?_)
                                          · first
                                            | (exfalso; omega; done)
                                            | (refine aw_blk oX12_faultOf_220 (pc' := 222) (ls' := [_, _, _, _, _, _]) (st' := [_]) (cs := []) rfl trivial ?_
                                               refine aw_blk oX12_faultOf_222 (pc' := 224) (ls' := [_, _, _, _, _, _]) (st' := []) (cs := []) rfl trivial ?_
                                               refine aw_blk oX12_faultOf_224 (pc' := 226) (ls' := [_, _, _, _, _, _]) (st' := [_]) (cs := []) rfl trivial ?_
                                               refine aw_if_ge (tgt := 231) eX12_faultOf_226 (by decide) (by omega) (fun h213 => ?_) (fun h213 => ?_)
                                               · first
                                                 | (exfalso; omega; done)
                                                 | (refine aw_blk oX12_faultOf_231 (pc' := 4) (ls' := [_, _, _, _, _, _]) (st' := []) (cs := []) rfl trivial ?_
                                                    exact T _ (by rw [af_3]; (repeat' split) <;> omega) (by decide) _ _ _)
                                               · first
                                                 | (exfalso; omega; done)
                                                 | (refine aw_blk oX12_faultOf_229 (pc' := 230) (ls' := [_, _, _, _, _, _]) (st' := [_]) (cs := []) rfl trivial ?_
                                                    refine aw_iret eX12_faultOf_230 rfl (Nat.le_refl _) (Nat.le_refl _) ?_
                                                    exact pe_i (F (by rw [af_3]; (repeat' split) <;> omega)).symm rfl rfl))
                                          · first
                                            | (exfalso; omega; done)
                                            | (refine aw_blk oX12_faultOf_216 (pc' := 222) (ls' := [_, _, _, _, _, _]) (st' := [_]) (cs := []) rfl trivial ?_
                                               refine aw_blk oX12_faultOf_222 (pc' := 224) (ls' := [_, _, _, _, _, _]) (st' := []) (cs := []) rfl trivial ?_
                                               refine aw_blk oX12_faultOf_224 (pc' := 226) (ls' := [_, _, _, _, _, _]) (st' := [_]) (cs := []) rfl trivial ?_
                                               refine aw_if_ge (tgt := 231) eX12_faultOf_226 (by decide) (by omega) (fun h214 => ?_) (fun h214 => ?_)
                                               · first
                                                 | (exfalso; omega; done)
                                                 | (refine aw_blk oX12_faultOf_231 (pc' := 4) (ls' := [_, _, _, _, _, _]) (st' := []) (cs := []) rfl trivial ?_
                                                    exact T _ (by rw [af_3]; (repeat' split) <;> omega) (by decide) _ _ _)
                                               · first
                                                 | (exfalso; omega; done)
                                                 | (refine aw_blk oX12_faultOf_229 (pc' := 230) (ls' := [_, _, _, _, _, _]) (st' := [_]) (cs := []) rfl trivial ?_
                                                    refine aw_iret eX12_faultOf_230 rfl (Nat.le_refl _) (Nat.le_refl _) ?_
                                                    exact pe_i (F (by rw [af_3]; (repeat' split) <;> omega)).symm rfl rfl))))
                                · first
                                  | (exfalso; omega; done)
                                  | (refine aw_blk oX12_faultOf_181 (pc' := 186) (ls' := [_, _, _, _, _, _]) (st' := [_, _, _]) (cs := []) rfl trivial ?_
                                     refine aw_ciS (rest := []) (c_X12_in (by omega) (by omega) (by omega)) kX12_in eX12_faultOf_186 lX12_faultOf_186 rfl rfl (Nat.le_of_ble_eq_true rfl) ⟨Nat.le_of_ble_eq_true rfl, Nat.le_of_ble_eq_true rfl⟩ ⟨Nat.le_refl _, Nat.le_refl _⟩ ?_
                                     refine aw_if_eq (tgt := 197) eX12_faultOf_189 (by decide) bt_r (fun hh => have h215 := bt0 hh; ?_) (fun hh => have h215 := bt1 hh; ?_)
                                     · first
                                       | (exfalso; omega; done)
                                       | (refine aw_blk oX12_faultOf_197 (pc' := 199) (ls' := [_, _, _, _, _, _]) (st' := [_]) (cs := []) rfl trivial ?_
                                          refine aw_blk oX12_faultOf_199 (pc' := 224) (ls' := [_, _, _, _, _, _]) (st' := []) (cs := []) rfl trivial ?_
                                          refine aw_blk oX12_faultOf_224 (pc' := 226) (ls' := [_, _, _, _, _, _]) (st' := [_]) (cs := []) rfl trivial ?_
                                          refine aw_if_ge (tgt := 231) eX12_faultOf_226 (by decide) (by omega) (fun h216 => ?_) (fun h216 => ?_)
                                          · first
                                            | (exfalso; omega; done)
                                            | (refine aw_blk oX12_faultOf_231 (pc' := 4) (ls' := [_, _, _, _, _, _]) (st' := []) (cs := []) rfl trivial ?_
                                               exact T _ (by rw [af_3]; (repeat' split) <;> omega) (by decide) _ _ _)
                                          · first
                                            | (exfalso; omega; done)
                                            | (refine aw_blk oX12_faultOf_229 (pc' := 230) (ls' := [_, _, _, _, _, _]) (st' := [_]) (cs := []) rfl trivial ?_
                                               refine aw_iret eX12_faultOf_230 rfl (Nat.le_refl _) (Nat.le_refl _) ?_
                                               exact pe_i (F (by rw [af_3]; (repeat' split) <;> omega)).symm rfl rfl))
                                     · first
                                       | (exfalso; omega; done)
                                       | (refine aw_blk oX12_faultOf_192 (pc' := 199) (ls' := [_, _, _, _, _, _]) (st' := [_]) (cs := []) rfl trivial ?_
                                          refine aw_blk oX12_faultOf_199 (pc' := 224) (ls' := [_, _, _, _, _, _]) (st' := []) (cs := []) rfl trivial ?_
                                          refine aw_blk oX12_faultOf_224 (pc' := 226) (ls' := [_, _, _, _, _, _]) (st' := [_]) (cs := []) rfl trivial ?_
                                          refine aw_if_ge (tgt := 231) eX12_faultOf_226 (by decide) (by omega) (fun h217 => ?_) (fun h217 => ?_)
                                          · first
                                            | (exfalso; omega; done)
                                            | (refine aw_blk oX12_faultOf_231 (pc' := 4) (ls' := [_, _, _, _, _, _]) (st' := []) (cs := []) rfl trivial ?_
                                               exact T _ (by rw [af_3]; (repeat' split) <;> omega) (by decide) _ _ _)
                                          · first
                                            | (exfalso; omega; done)
                                            | (refine aw_blk oX12_faultOf_229 (pc' := 230) (ls' := [_, _, _, _, _, _]) (st' := [_]) (cs := []) rfl trivial ?_
                                               refine aw_iret eX12_faultOf_230 rfl (Nat.le_refl _) (Nat.le_refl _) ?_
                                               exact pe_i (F (by rw [af_3]; (repeat' split) <;> omega)).symm rfl rfl))))
                           · first
                             | (exfalso; omega; done)
                             | (refine aw_blk oX12_faultOf_157 (pc' := 160) (ls' := [_, _, _, _, _, _]) (st' := [_, _]) (cs := []) rfl trivial ?_
                                refine aw_icmp_ne (tgt := 168) eX12_faultOf_160 (by decide) (by omega) (by omega) (fun h218 => ?_) (fun h218 => ?_)
                                · first
                                  | (exfalso; omega; done)
                                  | (refine aw_blk oX12_faultOf_168 (pc' := 170) (ls' := [_, _, _, _, _, _]) (st' := [_]) (cs := []) rfl trivial ?_
                                     refine aw_blk oX12_faultOf_170 (pc' := 224) (ls' := [_, _, _, _, _, _]) (st' := []) (cs := []) rfl trivial ?_
                                     refine aw_blk oX12_faultOf_224 (pc' := 226) (ls' := [_, _, _, _, _, _]) (st' := [_]) (cs := []) rfl trivial ?_
                                     refine aw_if_ge (tgt := 231) eX12_faultOf_226 (by decide) (by omega) (fun h219 => ?_) (fun h219 => ?_)
                                     · first
                                       | (exfalso; omega; done)
                                       | (refine aw_blk oX12_faultOf_231 (pc' := 4) (ls' := [_, _, _, _, _, _]) (st' := []) (cs := []) rfl trivial ?_
                                          exact T _ (by rw [af_3]; (repeat' split) <;> omega) (by decide) _ _ _)
                                     · first
                                       | (exfalso; omega; done)
                                       | (refine aw_blk oX12_faultOf_229 (pc' := 230) (ls' := [_, _, _, _, _, _]) (st' := [_]) (cs := []) rfl trivial ?_
                                          refine aw_iret eX12_faultOf_230 rfl (Nat.le_refl _) (Nat.le_refl _) ?_
                                          exact pe_i (F (by rw [af_3]; (repeat' split) <;> omega)).symm rfl rfl))
                                · first
                                  | (exfalso; omega; done)
                                  | (refine aw_blk oX12_faultOf_163 (pc' := 170) (ls' := [_, _, _, _, _, _]) (st' := [_]) (cs := []) rfl trivial ?_
                                     refine aw_blk oX12_faultOf_170 (pc' := 224) (ls' := [_, _, _, _, _, _]) (st' := []) (cs := []) rfl trivial ?_
                                     refine aw_blk oX12_faultOf_224 (pc' := 226) (ls' := [_, _, _, _, _, _]) (st' := [_]) (cs := []) rfl trivial ?_
                                     refine aw_if_ge (tgt := 231) eX12_faultOf_226 (by decide) (by omega) (fun h220 => ?_) (fun h220 => ?_)
                                     · first
                                       | (exfalso; omega; done)
                                       | (refine aw_blk oX12_faultOf_231 (pc' := 4) (ls' := [_, _, _, _, _, _]) (st' := []) (cs := []) rfl trivial ?_
                                          exact T _ (by rw [af_3]; (repeat' split) <;> omega) (by decide) _ _ _)
                                     · first
                                       | (exfalso; omega; done)
                                       | (refine aw_blk oX12_faultOf_229 (pc' := 230) (ls' := [_, _, _, _, _, _]) (st' := [_]) (cs := []) rfl trivial ?_
                                          refine aw_iret eX12_faultOf_230 rfl (Nat.le_refl _) (Nat.le_refl _) ?_
                                          exact pe_i (F (by rw [af_3]; (repeat' split) <;> omega)).symm rfl rfl))))
                      · first
                        | (exfalso; omega; done)
                        | (refine aw_blk oX12_faultOf_130 (pc' := 132) (ls' := [_, _, _, _, _, _]) (st' := [_, _]) (cs := []) rfl trivial ?_
                           refine aw_icmp_ge (tgt := 141) eX12_faultOf_132 (by decide) (by omega) (by omega) (fun h221 => ?_) (fun h221 => ?_)
                           · first
                             | (exfalso; omega; done)
                             | (refine aw_blk oX12_faultOf_141 (pc' := 143) (ls' := [_, _, _, _, _, _]) (st' := [_]) (cs := []) rfl trivial ?_
                                refine aw_blk oX12_faultOf_143 (pc' := 224) (ls' := [_, _, _, _, _, _]) (st' := []) (cs := []) rfl trivial ?_
                                refine aw_blk oX12_faultOf_224 (pc' := 226) (ls' := [_, _, _, _, _, _]) (st' := [_]) (cs := []) rfl trivial ?_
                                refine aw_if_ge (tgt := 231) eX12_faultOf_226 (by decide) (by omega) (fun h222 => ?_) (fun h222 => ?_)
                                · first
                                  | (exfalso; omega; done)
                                  | (refine aw_blk oX12_faultOf_231 (pc' := 4) (ls' := [_, _, _, _, _, _]) (st' := []) (cs := []) rfl trivial ?_
                                     exact T _ (by rw [af_3]; (repeat' split) <;> omega) (by decide) _ _ _)
                                · first
                                  | (exfalso; omega; done)
                                  | (refine aw_blk oX12_faultOf_229 (pc' := 230) (ls' := [_, _, _, _, _, _]) (st' := [_]) (cs := []) rfl trivial ?_
                                     refine aw_iret eX12_faultOf_230 rfl (Nat.le_refl _) (Nat.le_refl _) ?_
                                     exact pe_i (F (by rw [af_3]; (repeat' split) <;> omega)).symm rfl rfl))
                           · first
                             | (exfalso; omega; done)
                             | (refine aw_blk oX12_faultOf_135 (pc' := 143) (ls' := [_, _, _, _, _, _]) (st' := [_]) (cs := []) rfl trivial ?_
                                refine aw_blk oX12_faultOf_143 (pc' := 224) (ls' := [_, _, _, _, _, _]) (st' := []) (cs := []) rfl trivial ?_
                                refine aw_blk oX12_faultOf_224 (pc' := 226) (ls' := [_, _, _, _, _, _]) (st' := [_]) (cs := []) rfl trivial ?_
                                refine aw_if_ge (tgt := 231) eX12_faultOf_226 (by decide) (by omega) (fun h223 => ?_) (fun h223 => ?_)
                                · first
                                  | (exfalso; omega; done)
                                  | (refine aw_blk oX12_faultOf_231 (pc' := 4) (ls' := [_, _, _, _, _, _]) (st' := []) (cs := []) rfl trivial ?_
                                     exact T _ (by rw [af_3]; (repeat' split) <;> omega) (by decide) _ _ _)
                                · first
                                  | (exfalso; omega; done)
                                  | (refine aw_blk oX12_faultOf_229 (pc' := 230) (ls' := [_, _, _, _, _, _]) (st' := [_]) (cs := []) rfl trivial ?_
                                     refine aw_iret eX12_faultOf_230 rfl (Nat.le_refl _) (Nat.le_refl _) ?_
                                     exact pe_i (F (by rw [af_3]; (repeat' split) <;> omega)).symm rfl rfl)))))
            · first
              | (exfalso; omega; done)
              | (refine aw_blk oX12_faultOf_93 (pc' := 96) (ls' := [_, _, _, _, _, _]) (st' := [_, _]) (cs := []) rfl trivial ?_
                 refine aw_icmp_eq (tgt := 105) eX12_faultOf_96 (by decide) (by omega) (by omega) (fun h224 => ?_) (fun h224 => ?_)
                 · first
                   | (exfalso; omega; done)
                   | (refine aw_blk oX12_faultOf_105 (pc' := 111) (ls' := [_, _, _, _, _, _]) (st' := [_]) (cs := []) rfl trivial ?_
                      refine aw_blk oX12_faultOf_111 (pc' := 224) (ls' := [_, _, _, _, _, _]) (st' := []) (cs := []) rfl trivial ?_
                      refine aw_blk oX12_faultOf_224 (pc' := 226) (ls' := [_, _, _, _, _, _]) (st' := [_]) (cs := []) rfl trivial ?_
                      refine aw_if_ge (tgt := 231) eX12_faultOf_226 (by decide) (by omega) (fun h225 => ?_) (fun h225 => ?_)
                      · first
                        | (exfalso; omega; done)
                        | (refine aw_blk oX12_faultOf_231 (pc' := 4) (ls' := [_, _, _, _, _, _]) (st' := []) (cs := []) rfl trivial ?_
                           exact T _ (by rw [af_3]; (repeat' split) <;> omega) (by decide) _ _ _)
                      · first
                        | (exfalso; omega; done)
                        | (refine aw_blk oX12_faultOf_229 (pc' := 230) (ls' := [_, _, _, _, _, _]) (st' := [_]) (cs := []) rfl trivial ?_
                           refine aw_iret eX12_faultOf_230 rfl (Nat.le_refl _) (Nat.le_refl _) ?_
                           exact pe_i (F (by rw [af_3]; (repeat' split) <;> omega)).symm rfl rfl))
                 · first
                   | (exfalso; omega; done)
                   | (refine aw_blk oX12_faultOf_99 (pc' := 102) (ls' := [_, _, _, _, _, _]) (st' := [_, _]) (cs := []) rfl trivial ?_
                      refine aw_icmp_ne (tgt := 109) eX12_faultOf_102 (by decide) (by omega) (by omega) (fun h226 => ?_) (fun h226 => ?_)
                      · first
                        | (exfalso; omega; done)
                        | (refine aw_blk oX12_faultOf_109 (pc' := 111) (ls' := [_, _, _, _, _, _]) (st' := [_]) (cs := []) rfl trivial ?_
                           refine aw_blk oX12_faultOf_111 (pc' := 224) (ls' := [_, _, _, _, _, _]) (st' := []) (cs := []) rfl trivial ?_
                           refine aw_blk oX12_faultOf_224 (pc' := 226) (ls' := [_, _, _, _, _, _]) (st' := [_]) (cs := []) rfl trivial ?_
                           refine aw_if_ge (tgt := 231) eX12_faultOf_226 (by decide) (by omega) (fun h227 => ?_) (fun h227 => ?_)
                           · first
                             | (exfalso; omega; done)
                             | (refine aw_blk oX12_faultOf_231 (pc' := 4) (ls' := [_, _, _, _, _, _]) (st' := []) (cs := []) rfl trivial ?_
                                exact T _ (by rw [af_3]; (repeat' split) <;> omega) (by decide) _ _ _)
                           · first
                             | (exfalso; omega; done)
                             | (refine aw_blk oX12_faultOf_229 (pc' := 230) (ls' := [_, _, _, _, _, _]) (st' := [_]) (cs := []) rfl trivial ?_
                                refine aw_iret eX12_faultOf_230 rfl (Nat.le_refl _) (Nat.le_refl _) ?_
                                exact pe_i (F (by rw [af_3]; (repeat' split) <;> omega)).symm rfl rfl))
                      · first
                        | (exfalso; omega; done)
                        | (refine aw_blk oX12_faultOf_105 (pc' := 111) (ls' := [_, _, _, _, _, _]) (st' := [_]) (cs := []) rfl trivial ?_
                           refine aw_blk oX12_faultOf_111 (pc' := 224) (ls' := [_, _, _, _, _, _]) (st' := []) (cs := []) rfl trivial ?_
                           refine aw_blk oX12_faultOf_224 (pc' := 226) (ls' := [_, _, _, _, _, _]) (st' := [_]) (cs := []) rfl trivial ?_
                           refine aw_if_ge (tgt := 231) eX12_faultOf_226 (by decide) (by omega) (fun h228 => ?_) (fun h228 => ?_)
                           · first
                             | (exfalso; omega; done)
                             | (refine aw_blk oX12_faultOf_231 (pc' := 4) (ls' := [_, _, _, _, _, _]) (st' := []) (cs := []) rfl trivial ?_
                                exact T _ (by rw [af_3]; (repeat' split) <;> omega) (by decide) _ _ _)
                           · first
                             | (exfalso; omega; done)
                             | (refine aw_blk oX12_faultOf_229 (pc' := 230) (ls' := [_, _, _, _, _, _]) (st' := [_]) (cs := []) rfl trivial ?_
                                refine aw_iret eX12_faultOf_230 rfl (Nat.le_refl _) (Nat.le_refl _) ?_
                                exact pe_i (F (by rw [af_3]; (repeat' split) <;> omega)).symm rfl rfl)))))
       · first
         | (exfalso; omega; done)
         | (refine aw_blk oX12_faultOf_37 (pc' := 40) (ls' := [_, _, _, _, _, _]) (st' := [_, _]) (cs := []) rfl trivial ?_
            refine aw_icmp_eq (tgt := 61) eX12_faultOf_40 (by decide) (by omega) (by omega) (fun h229 => ?_) (fun h229 => ?_)
            · first
              | (exfalso; omega; done)
              | (refine aw_blk oX12_faultOf_61 (pc' := 83) (ls' := [_, _, _, _, _, _]) (st' := [_]) (cs := []) rfl trivial ?_
                 refine aw_blk oX12_faultOf_83 (pc' := 224) (ls' := [_, _, _, _, _, _]) (st' := []) (cs := []) rfl trivial ?_
                 refine aw_blk oX12_faultOf_224 (pc' := 226) (ls' := [_, _, _, _, _, _]) (st' := [_]) (cs := []) rfl trivial ?_
                 refine aw_if_ge (tgt := 231) eX12_faultOf_226 (by decide) (by omega) (fun h230 => ?_) (fun h230 => ?_)
                 · first
                   | (exfalso; omega; done)
                   | (refine aw_blk oX12_faultOf_231 (pc' := 4) (ls' := [_, _, _, _, _, _]) (st' := []) (cs := []) rfl trivial ?_
                      exact T _ (by rw [af_3]; (repeat' split) <;> omega) (by decide) _ _ _)
                 · first
                   | (exfalso; omega; done)
                   | (refine aw_blk oX12_faultOf_229 (pc' := 230) (ls' := [_, _, _, _, _, _]) (st' := [_]) (cs := []) rfl trivial ?_
                      refine aw_iret eX12_faultOf_230 rfl (Nat.le_refl _) (Nat.le_refl _) ?_
                      exact pe_i (F (by rw [af_3]; (repeat' split) <;> omega)).symm rfl rfl))
            · first
              | (exfalso; omega; done)
              | (refine aw_blk oX12_faultOf_43 (pc' := 46) (ls' := [_, _, _, _, _, _]) (st' := [_, _]) (cs := []) rfl trivial ?_
                 refine aw_icmp_eq (tgt := 61) eX12_faultOf_46 (by decide) (by omega) (by omega) (fun h231 => ?_) (fun h231 => ?_)
                 · first
                   | (exfalso; omega; done)
                   | (refine aw_blk oX12_faultOf_61 (pc' := 83) (ls' := [_, _, _, _, _, _]) (st' := [_]) (cs := []) rfl trivial ?_
                      refine aw_blk oX12_faultOf_83 (pc' := 224) (ls' := [_, _, _, _, _, _]) (st' := []) (cs := []) rfl trivial ?_
                      refine aw_blk oX12_faultOf_224 (pc' := 226) (ls' := [_, _, _, _, _, _]) (st' := [_]) (cs := []) rfl trivial ?_
                      refine aw_if_ge (tgt := 231) eX12_faultOf_226 (by decide) (by omega) (fun h232 => ?_) (fun h232 => ?_)
                      · first
                        | (exfalso; omega; done)
                        | (refine aw_blk oX12_faultOf_231 (pc' := 4) (ls' := [_, _, _, _, _, _]) (st' := []) (cs := []) rfl trivial ?_
                           exact T _ (by rw [af_3]; (repeat' split) <;> omega) (by decide) _ _ _)
                      · first
                        | (exfalso; omega; done)
                        | (refine aw_blk oX12_faultOf_229 (pc' := 230) (ls' := [_, _, _, _, _, _]) (st' := [_]) (cs := []) rfl trivial ?_
                           refine aw_iret eX12_faultOf_230 rfl (Nat.le_refl _) (Nat.le_refl _) ?_
                           exact pe_i (F (by rw [af_3]; (repeat' split) <;> omega)).symm rfl rfl))
                 · first
                   | (exfalso; omega; done)
                   | (refine aw_blk oX12_faultOf_49 (pc' := 52) (ls' := [_, _, _, _, _, _]) (st' := [_, _]) (cs := []) rfl trivial ?_
                      refine aw_icmp_eq (tgt := 61) eX12_faultOf_52 (by decide) (by omega) (by omega) (fun h233 => ?_) (fun h233 => ?_)
                      · first
                        | (exfalso; omega; done)
                        | (refine aw_blk oX12_faultOf_61 (pc' := 83) (ls' := [_, _, _, _, _, _]) (st' := [_]) (cs := []) rfl trivial ?_
                           refine aw_blk oX12_faultOf_83 (pc' := 224) (ls' := [_, _, _, _, _, _]) (st' := []) (cs := []) rfl trivial ?_
                           refine aw_blk oX12_faultOf_224 (pc' := 226) (ls' := [_, _, _, _, _, _]) (st' := [_]) (cs := []) rfl trivial ?_
                           refine aw_if_ge (tgt := 231) eX12_faultOf_226 (by decide) (by omega) (fun h234 => ?_) (fun h234 => ?_)
                           · first
                             | (exfalso; omega; done)
                             | (refine aw_blk oX12_faultOf_231 (pc' := 4) (ls' := [_, _, _, _, _, _]) (st' := []) (cs := []) rfl trivial ?_
                                exact T _ (by rw [af_3]; (repeat' split) <;> omega) (by decide) _ _ _)
                           · first
                             | (exfalso; omega; done)
                             | (refine aw_blk oX12_faultOf_229 (pc' := 230) (ls' := [_, _, _, _, _, _]) (st' := [_]) (cs := []) rfl trivial ?_
                                refine aw_iret eX12_faultOf_230 rfl (Nat.le_refl _) (Nat.le_refl _) ?_
                                exact pe_i (F (by rw [af_3]; (repeat' split) <;> omega)).symm rfl rfl))
                      · first
                        | (exfalso; omega; done)
                        | (refine aw_blk oX12_faultOf_55 (pc' := 58) (ls' := [_, _, _, _, _, _]) (st' := [_, _]) (cs := []) rfl trivial ?_
                           refine aw_icmp_ne (tgt := 65) eX12_faultOf_58 (by decide) (by omega) (by omega) (fun h235 => ?_) (fun h235 => ?_)
                           · first
                             | (exfalso; omega; done)
                             | (refine aw_blk oX12_faultOf_65 (pc' := 70) (ls' := [_, _, _, _, _, _]) (st' := [_, _, _]) (cs := []) rfl trivial ?_
                                refine aw_ciS (rest := []) (c_X12_in (by omega) (by omega) (by omega)) kX12_in eX12_faultOf_70 lX12_faultOf_70 rfl rfl (Nat.le_of_ble_eq_true rfl) ⟨Nat.le_of_ble_eq_true rfl, Nat.le_of_ble_eq_true rfl⟩ ⟨Nat.le_refl _, Nat.le_refl _⟩ ?_
                                refine aw_if_eq (tgt := 81) eX12_faultOf_73 (by decide) bt_r (fun hh => have h236 := bt0 hh; ?_) (fun hh => have h236 := bt1 hh; ?_)
                                · first
                                  | (exfalso; omega; done)
                                  | (refine aw_blk oX12_faultOf_81 (pc' := 83) (ls' := [_, _, _, _, _, _]) (st' := [_]) (cs := []) rfl trivial ?_
                                     refine aw_blk oX12_faultOf_83 (pc' := 224) (ls' := [_, _, _, _, _, _]) (st' := []) (cs := []) rfl trivial ?_
                                     refine aw_blk oX12_faultOf_224 (pc' := 226) (ls' := [_, _, _, _, _, _]) (st' := [_]) (cs := []) rfl trivial ?_
                                     refine aw_if_ge (tgt := 231) eX12_faultOf_226 (by decide) (by omega) (fun h237 => ?_) (fun h237 => ?_)
                                     · first
                                       | (exfalso; omega; done)
                                       | (refine aw_blk oX12_faultOf_231 (pc' := 4) (ls' := [_, _, _, _, _, _]) (st' := []) (cs := []) rfl trivial ?_
                                          exact T _ (by rw [af_3]; (repeat' split) <;> omega) (by decide) _ _ _)
                                     · first
                                       | (exfalso; omega; done)
                                       | (refine aw_blk oX12_faultOf_229 (pc' := 230) (ls' := [_, _, _, _, _, _]) (st' := [_]) (cs := []) rfl trivial ?_
                                          refine aw_iret eX12_faultOf_230 rfl (Nat.le_refl _) (Nat.le_refl _) ?_
                                          exact pe_i (F (by rw [af_3]; (repeat' split) <;> omega)).symm rfl rfl))
                                · first
                                  | (exfalso; omega; done)
                                  | (refine aw_blk oX12_faultOf_76 (pc' := 83) (ls' := [_, _, _, _, _, _]) (st' := [_]) (cs := []) rfl trivial ?_
                                     refine aw_blk oX12_faultOf_83 (pc' := 224) (ls' := [_, _, _, _, _, _]) (st' := []) (cs := []) rfl trivial ?_
                                     refine aw_blk oX12_faultOf_224 (pc' := 226) (ls' := [_, _, _, _, _, _]) (st' := [_]) (cs := []) rfl trivial ?_
                                     refine aw_if_ge (tgt := 231) eX12_faultOf_226 (by decide) (by omega) (fun h238 => ?_) (fun h238 => ?_)
                                     · first
                                       | (exfalso; omega; done)
                                       | (refine aw_blk oX12_faultOf_231 (pc' := 4) (ls' := [_, _, _, _, _, _]) (st' := []) (cs := []) rfl trivial ?_
                                          exact T _ (by rw [af_3]; (repeat' split) <;> omega) (by decide) _ _ _)
                                     · first
                                       | (exfalso; omega; done)
                                       | (refine aw_blk oX12_faultOf_229 (pc' := 230) (ls' := [_, _, _, _, _, _]) (st' := [_]) (cs := []) rfl trivial ?_
                                          refine aw_iret eX12_faultOf_230 rfl (Nat.le_refl _) (Nat.le_refl _) ?_
                                          exact pe_i (F (by rw [af_3]; (repeat' split) <;> omega)).symm rfl rfl)))
                           · first
                             | (exfalso; omega; done)
                             | (refine aw_blk oX12_faultOf_61 (pc' := 83) (ls' := [_, _, _, _, _, _]) (st' := [_]) (cs := []) rfl trivial ?_
                                refine aw_blk oX12_faultOf_83 (pc' := 224) (ls' := [_, _, _, _, _, _]) (st' := []) (cs := []) rfl trivial ?_
                                refine aw_blk oX12_faultOf_224 (pc' := 226) (ls' := [_, _, _, _, _, _]) (st' := [_]) (cs := []) rfl trivial ?_
                                refine aw_if_ge (tgt := 231) eX12_faultOf_226 (by decide) (by omega) (fun h239 => ?_) (fun h239 => ?_)
                                · first
                                  | (exfalso; omega; done)
                                  | (refine aw_blk oX12_faultOf_231 (pc' := 4) (ls' := [_, _, _, _, _, _]) (st' := []) (cs := []) rfl trivial ?_
                                     exact T _ (by rw [af_3]; (repeat' split) <;> omega) (by decide) _ _ _)
                                · first
                                  | (exfalso; omega; done)
                                  | (refine aw_blk oX12_faultOf_229 (pc' := 230) (ls' := [_, _, _, _, _, _]) (st' := [_]) (cs := []) rfl trivial ?_
                                     refine aw_iret eX12_faultOf_230 rfl (Nat.le_refl _) (Nat.le_refl _) ?_
                                     exact pe_i (F (by rw [af_3]; (repeat' split) <;> omega)).symm rfl rfl)))))))
theorem s_faultOf_4 {κ : KX} {μ : MM} {ν : ML} {P : Int} {i : Int} {u3 u4 u5 : AV} {N z : Int} (h0 : 0 ≤ i) (h1 : i < N) (a : μ 55 8 = N ∧ 0 ≤ N ∧ N ≤ 40) (g : μ 61 i = z ∧ 0 ≤ z ∧ z ≤ 126) (T : ∀ q : Int, q = af 4 z → q ≠ 9 → ∀ u3 u4 u5 : AV, AX κ mX12_faultOf 1 (PE (some (aI P)) μ ν) 4 [aR 55, aI q, aI (i + 1), u3, u4, u5] [] μ ν) (F : af 4 z = 9 → P = i) : AX κ mX12_faultOf 1 (PE (some (aI P)) μ ν) 4 [aR 55, aI 4, aI i, u3, u4, u5] [] μ ν := by
  have hbt : (48 ≤ μ 61 i ∧ μ 61 i ≤ 57 ∧ bt (μ 61 i) 48 57 = 1) ∨ (¬ (48 ≤ μ 61 i ∧ μ 61 i ≤ 57) ∧ bt (μ 61 i) 48 57 = 0) := by
    unfold bt
    split <;> omega
  refine aw_blk oX12_faultOf_4 (pc' := 9) (ls' := [_, _, _, _, _, _]) (st' := [_, _]) (cs := []) rfl trivial ?_
  refine aw_icmp_ge (tgt := 240) eX12_faultOf_9 (by decide) (by omega) (by omega) (fun h240 => ?_) (fun h240 => ?_)
  · first
    | (exfalso; omega; done)
    | (refine aw_blk oX12_faultOf_240 (pc' := 243) (ls' := [_, _, _, _, _, _]) (st' := [_, _]) (cs := []) rfl trivial ?_
       refine aw_icmp_ne (tgt := 251) eX12_faultOf_243 (by decide) (by omega) (by omega) (fun h241 => ?_) (fun h241 => ?_)
       · first
         | (exfalso; omega; done)
         | (refine aw_blk oX12_faultOf_251 (pc' := 255) (ls' := [_, _, _, _, _, _]) (st' := [_]) (cs := []) rfl trivial ?_
            refine aw_iret eX12_faultOf_255 rfl (Nat.le_refl _) (Nat.le_refl _) ?_
            exact pe_i (F (by rw [af_4]; (repeat' split) <;> omega)).symm rfl rfl)
       · first
         | (exfalso; omega; done)
         | (refine aw_blk oX12_faultOf_246 (pc' := 255) (ls' := [_, _, _, _, _, _]) (st' := [_]) (cs := []) rfl trivial ?_
            refine aw_iret eX12_faultOf_255 rfl (Nat.le_refl _) (Nat.le_refl _) ?_
            exact pe_i (F (by rw [af_4]; (repeat' split) <;> omega)).symm rfl rfl))
  · first
    | (exfalso; omega; done)
    | (refine aw_blk oX12_faultOf_12 (pc' := 28) (ls' := [_, _, _, _, _, _]) (st' := [_, _, _]) (cs := [(_, _)]) rfl (⟨⟨by omega, by omega⟩, trivial⟩) ?_
       refine aw_ciS (rest := []) (c_X12_in (by omega) (by omega) (by omega)) kX12_in eX12_faultOf_28 lX12_faultOf_28 rfl rfl (Nat.le_of_ble_eq_true rfl) ⟨Nat.le_of_ble_eq_true rfl, Nat.le_of_ble_eq_true rfl⟩ ⟨Nat.le_refl _, Nat.le_refl _⟩ ?_
       refine aw_blk oX12_faultOf_31 (pc' := 34) (ls' := [_, _, _, _, _, _]) (st' := [_]) (cs := []) rfl trivial ?_
       refine aw_if_ne (tgt := 88) eX12_faultOf_34 (by decide) (by omega) (fun h242 => ?_) (fun h242 => ?_)
       · first
         | (exfalso; omega; done)
         | (refine aw_blk oX12_faultOf_88 (pc' := 90) (ls' := [_, _, _, _, _, _]) (st' := [_, _]) (cs := []) rfl trivial ?_
            refine aw_icmp_ne (tgt := 116) eX12_faultOf_90 (by decide) (by omega) (by omega) (fun h243 => ?_) (fun h243 => ?_)
            · first
              | (exfalso; omega; done)
              | (refine aw_blk oX12_faultOf_116 (pc' := 119) (ls' := [_, _, _, _, _, _]) (st' := [_, _, _]) (cs := []) rfl trivial ?_
                 refine aw_ciS (rest := []) (c_X12_in (by omega) (by omega) (by omega)) kX12_in eX12_faultOf_119 lX12_faultOf_119 rfl rfl (Nat.le_of_ble_eq_true rfl) ⟨Nat.le_of_ble_eq_true rfl, Nat.le_of_ble_eq_true rfl⟩ ⟨Nat.le_refl _, Nat.le_refl _⟩ ?_
                 refine aw_if_eq (tgt := 148) eX12_faultOf_122 (by decide) bt_r (fun hh => have h244 := bt0 hh; ?_) (fun hh => have h244 := bt1 hh; ?_)
                 · first
                   | (exfalso; omega; done)
                   | (refine aw_blk oX12_faultOf_148 (pc' := 151) (ls' := [_, _, _, _, _, _]) (st' := [_, _, _]) (cs := []) rfl trivial ?_
                      refine aw_ciS (rest := []) (c_X12_in (by omega) (by omega) (by omega)) kX12_in eX12_faultOf_151 lX12_faultOf_151 rfl rfl (Nat.le_of_ble_eq_true rfl) ⟨Nat.le_of_ble_eq_true rfl, Nat.le_of_ble_eq_true rfl⟩ ⟨Nat.le_refl _, Nat.le_refl _⟩ ?_
                      refine aw_if_eq (tgt := 175) eX12_faultOf_154 (by decide) bt_r (fun hh => have h245 := bt0 hh; ?_) (fun hh => have h245 := bt1 hh; ?_)
                      · first
                        | (exfalso; omega; done)
                        | (refine aw_blk oX12_faultOf_175 (pc' := 178) (ls' := [_, _, _, _, _, _]) (st' := [_, _]) (cs := []) rfl trivial ?_
                           refine aw_icmp_ne (tgt := 204) eX12_faultOf_178 (by decide) (by omega) (by omega) (fun h246 => ?_) (fun h246 => ?_)
                           · first
                             | (exfalso; omega; done)
                             | (refine aw_blk oX12_faultOf_204 (pc' := 207) (ls' := [_, _, _, _, _, _]) (st' := [_, _]) (cs := []) rfl trivial ?_
                                refine aw_icmp_ne (tgt := 224) eX12_faultOf_207 (by decide) (by omega) (by omega) (fun h247 => ?_) (fun h247 => ?_)
                                · first
                                  | (exfalso; omega; done)
                                  | (refine aw_blk oX12_faultOf_224 (pc' := 226) (ls' := [_, _, _, _, _, _]) (st' := [_]) (cs := []) rfl trivial ?_
                                     refine aw_if_ge (tgt := 231) eX12_faultOf_226 (by decide) (by omega) (fun h248 => ?_) (fun h248 => ?_)
                                     · first
                                       | (exfalso; omega; done)
                                       | (refine aw_blk oX12_faultOf_231 (pc' := 4) (ls' := [_, _, _, _, _, _]) (st' := []) (cs := []) rfl trivial ?_
                                          exact T _ (by rw [af_4]; (repeat' split) <;> omega) (by decide) _ _ _)
                                     · first
                                       | (exfalso; omega; done)
                                       | (refine aw_blk oX12_faultOf_229 (pc' := 230) (ls' := [_, _, _, _, _, _]) (st' := [_]) (cs := []) rfl trivial ?_
                                          refine aw_iret eX12_faultOf_230 rfl (Nat.le_refl _) (Nat.le_refl _) ?_
                                          exact pe_i (F (by rw [af_4]; (repeat' split) <;> omega)).symm rfl rfl))
                                · first
                                  | (exfalso; omega; done)
                                  | (refine aw_blk oX12_faultOf_210 (pc' := 213) (ls' := [_, _, _, _, _, _]) (st' := [_, _]) (cs := []) rfl trivial ?_
                                     refine aw_icmp_ne (tgt := 220) eX12_faultOf_213 (by decide) (by omega) (by omega) (fun h249 => ?_) (fun h249 => ?_)
                                     · first
                                       | (exfalso; omega; done)
                                       | (refine aw_blk oX12_faultOf_220 (pc' := 222) (ls' := [_, _, _, _, _, _]) (st' := [_]) (cs := []) rfl trivial ?_
                                          refine aw_blk oX12_faultOf_222 (pc' := 224) (ls' := [_, _, _, _, _, _]) (st' := []) (cs := []) rfl trivial ?_
                                          refine aw_blk oX12_faultOf_224 (pc' := 226) (ls' := [_, _, _, _, _, _]) (st' := [_]) (cs := []) rfl trivial ?_
                                          refine aw_if_ge (tgt := 231) eX12_faultOf_226 (by decide) (by omega) (fun h250 => ?_) (fun h250 => ?_)
                                          · first
                                            | (exfalso; omega; done)
                                            | (refine aw_blk oX12_faultOf_231 (pc' := 4) (ls' := [_, _, _, _, _, _]) (st' := []) (cs := []) rfl trivial ?_
                                               exact T _ (by rw [af_4]; (repeat' split) <;> omega) (by decide) _ _ _)
                                          · first
                                            | (exfalso; omega; done)
                                            | (refine aw_blk oX12_faultOf_229 (pc' := 230) (ls' := [_, _, _, _, _, _]) (st' := [_]) (cs := []) rfl trivial ?_
                                               refine aw_iret eX12_faultOf_230 rfl (Nat.le_refl _) (Nat.le_refl _) ?_
                                               exact pe_i (F (by rw [af_4]; (repeat' split) <;> omega)).symm rfl rfl))
                                     · first
                                       | (exfalso; omega; done)
                                       | (refine aw_blk oX12_faultOf_216 (pc' := 222) (ls' := [_, _, _, _, _, _]) (st' := [_]) (cs := []) rfl trivial ?_
                                          refine aw_blk oX12_faultOf_222 (pc' := 224) (ls' := [_, _, _, _, _, _]) (st' := []) (cs := []) rfl trivial ?_
                                          refine aw_blk oX12_faultOf_224 (pc' := 226) (ls' := [_, _, _, _, _, _]) (st' := [_]) (cs := []) rfl trivial ?_
                                          refine aw_if_ge (tgt := 231) eX12_faultOf_226 (by decide) (by omega) (fun h251 => ?_) (fun h251 => ?_)
                                          · first
                                            | (exfalso; omega; done)
                                            | (refine aw_blk oX12_faultOf_231 (pc' := 4) (ls' := [_, _, _, _, _, _]) (st' := []) (cs := []) rfl trivial ?_
                                               exact T _ (by rw [af_4]; (repeat' split) <;> omega) (by decide) _ _ _)
                                          · first
                                            | (exfalso; omega; done)
                                            | (refine aw_blk oX12_faultOf_229 (pc' := 230) (ls' := [_, _, _, _, _, _]) (st' := [_]) (cs := []) rfl trivial ?_
                                               refine aw_iret eX12_faultOf_230 rfl (Nat.le_refl _) (Nat.le_refl _) ?_
                                               exact pe_i (F (by rw [af_4]; (repeat' split) <;> omega)).symm rfl rfl))))
                           · first
                             | (exfalso; omega; done)
                             | (refine aw_blk oX12_faultOf_181 (pc' := 186) (ls' := [_, _, _, _, _, _]) (st' := [_, _, _]) (cs := []) rfl trivial ?_
                                refine aw_ciS (rest := []) (c_X12_in (by omega) (by omega) (by omega)) kX12_in eX12_faultOf_186 lX12_faultOf_186 rfl rfl (Nat.le_of_ble_eq_true rfl) ⟨Nat.le_of_ble_eq_true rfl, Nat.le_of_ble_eq_true rfl⟩ ⟨Nat.le_refl _, Nat.le_refl _⟩ ?_
                                refine aw_if_eq (tgt := 197) eX12_faultOf_189 (by decide) bt_r (fun hh => have h252 := bt0 hh; ?_) (fun hh => have h252 := bt1 hh; ?_)
                                · first
                                  | (exfalso; omega; done)
                                  | (refine aw_blk oX12_faultOf_197 (pc' := 199) (ls' := [_, _, _, _, _, _]) (st' := [_]) (cs := []) rfl trivial ?_
                                     refine aw_blk oX12_faultOf_199 (pc' := 224) (ls' := [_, _, _, _, _, _]) (st' := []) (cs := []) rfl trivial ?_
                                     refine aw_blk oX12_faultOf_224 (pc' := 226) (ls' := [_, _, _, _, _, _]) (st' := [_]) (cs := []) rfl trivial ?_
                                     refine aw_if_ge (tgt := 231) eX12_faultOf_226 (by decide) (by omega) (fun h253 => ?_) (fun h253 => ?_)
                                     · first
                                       | (exfalso; omega; done)
                                       | (refine aw_blk oX12_faultOf_231 (pc' := 4) (ls' := [_, _, _, _, _, _]) (st' := []) (cs := []) rfl trivial ?_
                                          exact T _ (by rw [af_4]; (repeat' split) <;> omega) (by decide) _ _ _)
                                     · first
                                       | (exfalso; omega; done)
                                       | (refine aw_blk oX12_faultOf_229 (pc' := 230) (ls' := [_, _, _, _, _, _]) (st' := [_]) (cs := []) rfl trivial ?_
                                          refine aw_iret eX12_faultOf_230 rfl (Nat.le_refl _) (Nat.le_refl _) ?_
                                          exact pe_i (F (by rw [af_4]; (repeat' split) <;> omega)).symm rfl rfl))
                                · first
                                  | (exfalso; omega; done)
                                  | (refine aw_blk oX12_faultOf_192 (pc' := 199) (ls' := [_, _, _, _, _, _]) (st' := [_]) (cs := []) rfl trivial ?_
                                     refine aw_blk oX12_faultOf_199 (pc' := 224) (ls' := [_, _, _, _, _, _]) (st' := []) (cs := []) rfl trivial ?_
                                     refine aw_blk oX12_faultOf_224 (pc' := 226) (ls' := [_, _, _, _, _, _]) (st' := [_]) (cs := []) rfl trivial ?_
                                     refine aw_if_ge (tgt := 231) eX12_faultOf_226 (by decide) (by omega) (fun h254 => ?_) (fun h254 => ?_)
                                     · first
                                       | (exfalso; omega; done)
                                       | (refine aw_blk oX12_faultOf_231 (pc' := 4) (ls' := [_, _, _, _, _, _]) (st' := []) (cs := []) rfl trivial ?_
                                          exact T _ (by rw [af_4]; (repeat' split) <;> omega) (by decide) _ _ _)
                                     · first
                                       | (exfalso; omega; done)
                                       | (refine aw_blk oX12_faultOf_229 (pc' := 230) (ls' := [_, _, _, _, _, _]) (st' := [_]) (cs := []) rfl trivial ?_
                                          refine aw_iret eX12_faultOf_230 rfl (Nat.le_refl _) (Nat.le_refl _) ?_
                                          exact pe_i (F (by rw [af_4]; (repeat' split) <;> omega)).symm rfl rfl))))
                      · first
                        | (exfalso; omega; done)
                        | (refine aw_blk oX12_faultOf_157 (pc' := 160) (ls' := [_, _, _, _, _, _]) (st' := [_, _]) (cs := []) rfl trivial ?_
                           refine aw_icmp_ne (tgt := 168) eX12_faultOf_160 (by decide) (by omega) (by omega) (fun h255 => ?_) (fun h255 => ?_)
                           · first
                             | (exfalso; omega; done)
                             | (refine aw_blk oX12_faultOf_168 (pc' := 170) (ls' := [_, _, _, _, _, _]) (st' := [_]) (cs := []) rfl trivial ?_
                                refine aw_blk oX12_faultOf_170 (pc' := 224) (ls' := [_, _, _, _, _, _]) (st' := []) (cs := []) rfl trivial ?_
                                refine aw_blk oX12_faultOf_224 (pc' := 226) (ls' := [_, _, _, _, _, _]) (st' := [_]) (cs := []) rfl trivial ?_
                                refine aw_if_ge (tgt := 231) eX12_faultOf_226 (by decide) (by omega) (fun h256 => ?_) (fun h256 => ?_)
                                · first
                                  | (exfalso; omega; done)
                                  | (refine aw_blk oX12_faultOf_231 (pc' := 4) (ls' := [_, _, _, _, _, _]) (st' := []) (cs := []) rfl trivial ?_
                                     exact T _ (by rw [af_4]; (repeat' split) <;> omega) (by decide) _ _ _)
                                · first
                                  | (exfalso; omega; done)
                                  | (refine aw_blk oX12_faultOf_229 (pc' := 230) (ls' := [_, _, _, _, _, _]) (st' := [_]) (cs := []) rfl trivial ?_
                                     refine aw_iret eX12_faultOf_230 rfl (Nat.le_refl _) (Nat.le_refl _) ?_
                                     exact pe_i (F (by rw [af_4]; (repeat' split) <;> omega)).symm rfl rfl))
                           · first
                             | (exfalso; omega; done)
                             | (refine aw_blk oX12_faultOf_163 (pc' := 170) (ls' := [_, _, _, _, _, _]) (st' := [_]) (cs := []) rfl trivial ?_
                                refine aw_blk oX12_faultOf_170 (pc' := 224) (ls' := [_, _, _, _, _, _]) (st' := []) (cs := []) rfl trivial ?_
                                refine aw_blk oX12_faultOf_224 (pc' := 226) (ls' := [_, _, _, _, _, _]) (st' := [_]) (cs := []) rfl trivial ?_
                                refine aw_if_ge (tgt := 231) eX12_faultOf_226 (by decide) (by omega) (fun h257 => ?_) (fun h257 => ?_)
                                · first
                                  | (exfalso; omega; done)
                                  | (refine aw_blk oX12_faultOf_231 (pc' := 4) (ls' := [_, _, _, _, _, _]) (st' := []) (cs := []) rfl trivial ?_
                                     exact T _ (by rw [af_4]; (repeat' split) <;> omega) (by decide) _ _ _)
                                · first
                                  | (exfalso; omega; done)
                                  | (refine aw_blk oX12_faultOf_229 (pc' := 230) (ls' := [_, _, _, _, _, _]) (st' := [_]) (cs := []) rfl trivial ?_
                                     refine aw_iret eX12_faultOf_230 rfl (Nat.le_refl _) (Nat.le_refl _) ?_
                                     exact pe_i (F (by rw [af_4]; (repeat' split) <;> omega)).symm rfl rfl))))
                 · first
                   | (exfalso; omega; done)
                   | (refine aw_blk oX12_faultOf_125 (pc' := 127) (ls' := [_, _, _, _, _, _]) (st' := [_]) (cs := []) rfl trivial ?_
                      refine aw_if_eq (tgt := 148) eX12_faultOf_127 (by decide) (by omega) (fun h258 => ?_) (fun h258 => ?_)
                      · first
                        | (exfalso; omega; done)
                        | (refine aw_blk oX12_faultOf_148 (pc' := 151) (ls' := [_, _, _, _, _, _]) (st' := [_, _, _]) (cs := []) rfl trivial ?_
                           refine aw_ciS (rest := []) (c_X12_in (by omega) (by omega) (by omega)) kX12_in eX12_faultOf_151 lX12_faultOf_151 rfl rfl (Nat.le_of_ble_eq_true rfl) ⟨Nat.le_of_ble_eq_true rfl, Nat.le_of_ble_eq_true rfl⟩ ⟨Nat.le_refl _, Nat.le_refl _⟩ ?_
                           refine aw_if_eq (tgt := 175) eX12_faultOf_154 (by decide) bt_r (fun hh => have h259 := bt0 hh; ?_) (fun hh => have h259 := bt1 hh; ?_)
                           · first
                             | (exfalso; omega; done)
                             | (refine aw_blk oX12_faultOf_175 (pc' := 178) (ls' := [_, _, _, _, _, _]) (st' := [_, _]) (cs := []) rfl trivial ?_
                                refine aw_icmp_ne (tgt := 204) eX12_faultOf_178 (by decide) (by omega) (by omega) (fun h260 => ?_) (fun h260 => ?_)
                                · first
                                  | (exfalso; omega; done)
                                  | (refine aw_blk oX12_faultOf_204 (pc' := 207) (ls' := [_, _, _, _, _, _]) (st' := [_, _]) (cs := []) rfl trivial ?_
                                     refine aw_icmp_ne (tgt := 224) eX12_faultOf_207 (by decide) (by omega) (by omega) (fun h261 => ?_) (fun h261 => ?_)
                                     · first
                                       | (exfalso; omega; done)
                                       | (refine aw_blk oX12_faultOf_224 (pc' := 226) (ls' := [_, _, _, _, _, _]) (st' := [_]) (cs := []) rfl trivial ?_
                                          refine aw_if_ge (tgt := 231) eX12_faultOf_226 (by decide) (by omega) (fun h262 => ?_) (fun h262 => ?_)
                                          · first
                                            | (exfalso; omega; done)
                                            | (refine aw_blk oX12_faultOf_231 (pc' := 4) (ls' := [_, _, _, _, _, _]) (st' := []) (cs := []) rfl trivial ?_
                                               exact T _ (by rw [af_4]; (repeat' split) <;> omega) (by decide) _ _ _)
                                          · first
                                            | (exfalso; omega; done)
                                            | (refine aw_blk oX12_faultOf_229 (pc' := 230) (ls' := [_, _, _, _, _, _]) (st' := [_]) (cs := []) rfl trivial ?_
                                               refine aw_iret eX12_faultOf_230 rfl (Nat.le_refl _) (Nat.le_refl _) ?_
                                               exact pe_i (F (by rw [af_4]; (repeat' split) <;> omega)).symm rfl rfl))
                                     · first
                                       | (exfalso; omega; done)
                                       | (refine aw_blk oX12_faultOf_210 (pc' := 213) (ls' := [_, _, _, _, _, _]) (st' := [_, _]) (cs := []) rfl trivial ?_
                                          refine aw_icmp_ne (tgt := 220) eX12_faultOf_213 (by decide) (by omega) (by omega) (fun h263 => ?_) (fun h263 => ?_)
                                          · first
                                            | (exfalso; omega; done)
                                            | (refine aw_blk oX12_faultOf_220 (pc' := 222) (ls' := [_, _, _, _, _, _]) (st' := [_]) (cs := []) rfl trivial ?_
                                               refine aw_blk oX12_faultOf_222 (pc' := 224) (ls' := [_, _, _, _, _, _]) (st' := []) (cs := []) rfl trivial ?_
                                               refine aw_blk oX12_faultOf_224 (pc' := 226) (ls' := [_, _, _, _, _, _]) (st' := [_]) (cs := []) rfl trivial ?_
                                               refine aw_if_ge (tgt := 231) eX12_faultOf_226 (by decide) (by omega) (fun h264 => ?_) (fun h264 => ?_)
                                               · first
                                                 | (exfalso; omega; done)
                                                 | (refine aw_blk oX12_faultOf_231 (pc' := 4) (ls' := [_, _, _, _, _, _]) (st' := []) (cs := []) rfl trivial ?_
                                                    exact T _ (by rw [af_4]; (repeat' split) <;> omega) (by decide) _ _ _)
                                               · first
                                                 | (exfalso; omega; done)
                                                 | (refine aw_blk oX12_faultOf_229 (pc' := 230) (ls' := [_, _, _, _, _, _]) (st' := [_]) (cs := []) rfl trivial ?_
                                                    refine aw_iret eX12_faultOf_230 rfl (Nat.le_refl _) (Nat.le_refl _) ?_
                                                    exact pe_i (F (by rw [af_4]; (repeat' split) <;> omega)).symm rfl rfl))
                                          · first
                                            | (exfalso; omega; done)
                                            | (refine aw_blk oX12_faultOf_216 (pc' := 222) (ls' := [_, _, _, _, _, _]) (st' := [_]) (cs := []) rfl trivial ?_
                                               refine aw_blk oX12_faultOf_222 (pc' := 224) (ls' := [_, _, _, _, _, _]) (st' := []) (cs := []) rfl trivial ?_
                                               refine aw_blk oX12_faultOf_224 (pc' := 226) (ls' := [_, _, _, _, _, _]) (st' := [_]) (cs := []) rfl trivial ?_
                                               refine aw_if_ge (tgt := 231) eX12_faultOf_226 (by decide) (by omega) (fun h265 => ?_) (fun h265 => ?_)
                                               · first
                                                 | (exfalso; omega; done)
                                                 | (refine aw_blk oX12_faultOf_231 (pc' := 4) (ls' := [_, _, _, _, _, _]) (st' := []) (cs := []) rfl trivial ?_
                                                    exact T _ (by rw [af_4]; (repeat' split) <;> omega) (by decide) _ _ _)
                                               · first
                                                 | (exfalso; omega; done)
                                                 | (refine aw_blk oX12_faultOf_229 (pc' := 230) (ls' := [_, _, _, _, _, _]) (st' := [_]) (cs := []) rfl trivial ?_
                                                    refine aw_iret eX12_faultOf_230 rfl (Nat.le_refl _) (Nat.le_refl _) ?_
                                                    exact pe_i (F (by rw [af_4]; (repeat' split) <;> omega)).symm rfl rfl))))
                                · first
                                  | (exfalso; omega; done)
                                  | (refine aw_blk oX12_faultOf_181 (pc' := 186) (ls' := [_, _, _, _, _, _]) (st' := [_, _, _]) (cs := []) rfl trivial ?_
                                     refine aw_ciS (rest := []) (c_X12_in (by omega) (by omega) (by omega)) kX12_in eX12_faultOf_186 lX12_faultOf_186 rfl rfl (Nat.le_of_ble_eq_true rfl) ⟨Nat.le_of_ble_eq_true rfl, Nat.le_of_ble_eq_true rfl⟩ ⟨Nat.le_refl _, Nat.le_refl _⟩ ?_
                                     refine aw_if_eq (tgt := 197) eX12_faultOf_189 (by decide) bt_r (fun hh => have h266 := bt0 hh; ?_) (fun hh => have h266 := bt1 hh; ?_)
                                     · first
                                       | (exfalso; omega; done)
                                       | (refine aw_blk oX12_faultOf_197 (pc' := 199) (ls' := [_, _, _, _, _, _]) (st' := [_]) (cs := []) rfl trivial ?_
                                          refine aw_blk oX12_faultOf_199 (pc' := 224) (ls' := [_, _, _, _, _, _]) (st' := []) (cs := []) rfl trivial ?_
                                          refine aw_blk oX12_faultOf_224 (pc' := 226) (ls' := [_, _, _, _, _, _]) (st' := [_]) (cs := []) rfl trivial ?_
                                          refine aw_if_ge (tgt := 231) eX12_faultOf_226 (by decide) (by omega) (fun h267 => ?_) (fun h267 => ?_)
                                          · first
                                            | (exfalso; omega; done)
                                            | (refine aw_blk oX12_faultOf_231 (pc' := 4) (ls' := [_, _, _, _, _, _]) (st' := []) (cs := []) rfl trivial ?_
                                               exact T _ (by rw [af_4]; (repeat' split) <;> omega) (by decide) _ _ _)
                                          · first
                                            | (exfalso; omega; done)
                                            | (refine aw_blk oX12_faultOf_229 (pc' := 230) (ls' := [_, _, _, _, _, _]) (st' := [_]) (cs := []) rfl trivial ?_
                                               refine aw_iret eX12_faultOf_230 rfl (Nat.le_refl _) (Nat.le_refl _) ?_
                                               exact pe_i (F (by rw [af_4]; (repeat' split) <;> omega)).symm rfl rfl))
                                     · first
                                       | (exfalso; omega; done)
                                       | (refine aw_blk oX12_faultOf_192 (pc' := 199) (ls' := [_, _, _, _, _, _]) (st' := [_]) (cs := []) rfl trivial ?_
                                          refine aw_blk oX12_faultOf_199 (pc' := 224) (ls' := [_, _, _, _, _, _]) (st' := []) (cs := []) rfl trivial ?_
                                          refine aw_blk oX12_faultOf_224 (pc' := 226) (ls' := [_, _, _, _, _, _]) (st' := [_]) (cs := []) rfl trivial ?_
                                          refine aw_if_ge (tgt := 231) eX12_faultOf_226 (by decide) (by omega) (fun h268 => ?_) (fun h268 => ?_)
                                          · first
                                            | (exfalso; omega; done)
                                            | (refine aw_blk oX12_faultOf_231 (pc' := 4) (ls' := [_, _, _, _, _, _]) (st' := []) (cs := []) rfl trivial ?_
                                               exact T _ (by rw [af_4]; (repeat' split) <;> omega) (by decide) _ _ _)
                                          · first
                                            | (exfalso; omega; done)
                                            | (refine aw_blk oX12_faultOf_229 (pc' := 230) (ls' := [_, _, _, _, _, _]) (st' := [_]) (cs := []) rfl trivial ?_
                                               refine aw_iret eX12_faultOf_230 rfl (Nat.le_refl _) (Nat.le_refl _) ?_
                                               exact pe_i (F (by rw [af_4]; (repeat' split) <;> omega)).symm rfl rfl))))
                           · first
                             | (exfalso; omega; done)
                             | (refine aw_blk oX12_faultOf_157 (pc' := 160) (ls' := [_, _, _, _, _, _]) (st' := [_, _]) (cs := []) rfl trivial ?_
                                refine aw_icmp_ne (tgt := 168) eX12_faultOf_160 (by decide) (by omega) (by omega) (fun h269 => ?_) (fun h269 => ?_)
                                · first
                                  | (exfalso; omega; done)
                                  | (refine aw_blk oX12_faultOf_168 (pc' := 170) (ls' := [_, _, _, _, _, _]) (st' := [_]) (cs := []) rfl trivial ?_
                                     refine aw_blk oX12_faultOf_170 (pc' := 224) (ls' := [_, _, _, _, _, _]) (st' := []) (cs := []) rfl trivial ?_
                                     refine aw_blk oX12_faultOf_224 (pc' := 226) (ls' := [_, _, _, _, _, _]) (st' := [_]) (cs := []) rfl trivial ?_
                                     refine aw_if_ge (tgt := 231) eX12_faultOf_226 (by decide) (by omega) (fun h270 => ?_) (fun h270 => ?_)
                                     · first
                                       | (exfalso; omega; done)
                                       | (refine aw_blk oX12_faultOf_231 (pc' := 4) (ls' := [_, _, _, _, _, _]) (st' := []) (cs := []) rfl trivial ?_
                                          exact T _ (by rw [af_4]; (repeat' split) <;> omega) (by decide) _ _ _)
                                     · first
                                       | (exfalso; omega; done)
                                       | (refine aw_blk oX12_faultOf_229 (pc' := 230) (ls' := [_, _, _, _, _, _]) (st' := [_]) (cs := []) rfl trivial ?_
                                          refine aw_iret eX12_faultOf_230 rfl (Nat.le_refl _) (Nat.le_refl _) ?_
                                          exact pe_i (F (by rw [af_4]; (repeat' split) <;> omega)).symm rfl rfl))
                                · first
                                  | (exfalso; omega; done)
                                  | (refine aw_blk oX12_faultOf_163 (pc' := 170) (ls' := [_, _, _, _, _, _]) (st' := [_]) (cs := []) rfl trivial ?_
                                     refine aw_blk oX12_faultOf_170 (pc' := 224) (ls' := [_, _, _, _, _, _]) (st' := []) (cs := []) rfl trivial ?_
                                     refine aw_blk oX12_faultOf_224 (pc' := 226) (ls' := [_, _, _, _, _, _]) (st' := [_]) (cs := []) rfl trivial ?_
                                     refine aw_if_ge (tgt := 231) eX12_faultOf_226 (by decide) (by omega) (fun h271 => ?_) (fun h271 => ?_)
                                     · first
                                       | (exfalso; omega; done)
                                       | (refine aw_blk oX12_faultOf_231 (pc' := 4) (ls' := [_, _, _, _, _, _]) (st' := []) (cs := []) rfl trivial ?_
                                          exact T _ (by rw [af_4]; (repeat' split) <;> omega) (by decide) _ _ _)
                                     · first
                                       | (exfalso; omega; done)
                                       | (refine aw_blk oX12_faultOf_229 (pc' := 230) (ls' := [_, _, _, _, _, _]) (st' := [_]) (cs := []) rfl trivial ?_
                                          refine aw_iret eX12_faultOf_230 rfl (Nat.le_refl _) (Nat.le_refl _) ?_
                                          exact pe_i (F (by rw [af_4]; (repeat' split) <;> omega)).symm rfl rfl))))
                      · first
                        | (exfalso; omega; done)
                        | (refine aw_blk oX12_faultOf_130 (pc' := 132) (ls' := [_, _, _, _, _, _]) (st' := [_, _]) (cs := []) rfl trivial ?_
                           refine aw_icmp_ge (tgt := 141) eX12_faultOf_132 (by decide) (by omega) (by omega) (fun h272 => ?_) (fun h272 => ?_)
                           · first
                             | (exfalso; omega; done)
                             | (refine aw_blk oX12_faultOf_141 (pc' := 143) (ls' := [_, _, _, _, _, _]) (st' := [_]) (cs := []) rfl trivial ?_
                                refine aw_blk oX12_faultOf_143 (pc' := 224) (ls' := [_, _, _, _, _, _]) (st' := []) (cs := []) rfl trivial ?_
                                refine aw_blk oX12_faultOf_224 (pc' := 226) (ls' := [_, _, _, _, _, _]) (st' := [_]) (cs := []) rfl trivial ?_
                                refine aw_if_ge (tgt := 231) eX12_faultOf_226 (by decide) (by omega) (fun h273 => ?_) (fun h273 => ?_)
                                · first
                                  | (exfalso; omega; done)
                                  | (refine aw_blk oX12_faultOf_231 (pc' := 4) (ls' := [_, _, _, _, _, _]) (st' := []) (cs := []) rfl trivial ?_
                                     exact T _ (by rw [af_4]; (repeat' split) <;> omega) (by decide) _ _ _)
                                · first
                                  | (exfalso; omega; done)
                                  | (refine aw_blk oX12_faultOf_229 (pc' := 230) (ls' := [_, _, _, _, _, _]) (st' := [_]) (cs := []) rfl trivial ?_
                                     refine aw_iret eX12_faultOf_230 rfl (Nat.le_refl _) (Nat.le_refl _) ?_
                                     exact pe_i (F (by rw [af_4]; (repeat' split) <;> omega)).symm rfl rfl))
                           · first
                             | (exfalso; omega; done)
                             | (refine aw_blk oX12_faultOf_135 (pc' := 143) (ls' := [_, _, _, _, _, _]) (st' := [_]) (cs := []) rfl trivial ?_
                                refine aw_blk oX12_faultOf_143 (pc' := 224) (ls' := [_, _, _, _, _, _]) (st' := []) (cs := []) rfl trivial ?_
                                refine aw_blk oX12_faultOf_224 (pc' := 226) (ls' := [_, _, _, _, _, _]) (st' := [_]) (cs := []) rfl trivial ?_
                                refine aw_if_ge (tgt := 231) eX12_faultOf_226 (by decide) (by omega) (fun h274 => ?_) (fun h274 => ?_)
                                · first
                                  | (exfalso; omega; done)
                                  | (refine aw_blk oX12_faultOf_231 (pc' := 4) (ls' := [_, _, _, _, _, _]) (st' := []) (cs := []) rfl trivial ?_
                                     exact T _ (by rw [af_4]; (repeat' split) <;> omega) (by decide) _ _ _)
                                · first
                                  | (exfalso; omega; done)
                                  | (refine aw_blk oX12_faultOf_229 (pc' := 230) (ls' := [_, _, _, _, _, _]) (st' := [_]) (cs := []) rfl trivial ?_
                                     refine aw_iret eX12_faultOf_230 rfl (Nat.le_refl _) (Nat.le_refl _) ?_
                                     exact pe_i (F (by rw [af_4]; (repeat' split) <;> omega)).symm rfl rfl)))))
            · first
              | (exfalso; omega; done)
              | (refine aw_blk oX12_faultOf_93 (pc' := 96) (ls' := [_, _, _, _, _, _]) (st' := [_, _]) (cs := []) rfl trivial ?_
                 refine aw_icmp_eq (tgt := 105) eX12_faultOf_96 (by decide) (by omega) (by omega) (fun h275 => ?_) (fun h275 => ?_)
                 · first
                   | (exfalso; omega; done)
                   | (refine aw_blk oX12_faultOf_105 (pc' := 111) (ls' := [_, _, _, _, _, _]) (st' := [_]) (cs := []) rfl trivial ?_
                      refine aw_blk oX12_faultOf_111 (pc' := 224) (ls' := [_, _, _, _, _, _]) (st' := []) (cs := []) rfl trivial ?_
                      refine aw_blk oX12_faultOf_224 (pc' := 226) (ls' := [_, _, _, _, _, _]) (st' := [_]) (cs := []) rfl trivial ?_
                      refine aw_if_ge (tgt := 231) eX12_faultOf_226 (by decide) (by omega) (fun h276 => ?_) (fun h276 => ?_)
                      · first
                        | (exfalso; omega; done)
                        | (refine aw_blk oX12_faultOf_231 (pc' := 4) (ls' := [_, _, _, _, _, _]) (st' := []) (cs := []) rfl trivial ?_
                           exact T _ (by rw [af_4]; (repeat' split) <;> omega) (by decide) _ _ _)
                      · first
                        | (exfalso; omega; done)
                        | (refine aw_blk oX12_faultOf_229 (pc' := 230) (ls' := [_, _, _, _, _, _]) (st' := [_]) (cs := []) rfl trivial ?_
                           refine aw_iret eX12_faultOf_230 rfl (Nat.le_refl _) (Nat.le_refl _) ?_
                           exact pe_i (F (by rw [af_4]; (repeat' split) <;> omega)).symm rfl rfl))
                 · first
                   | (exfalso; omega; done)
                   | (refine aw_blk oX12_faultOf_99 (pc' := 102) (ls' := [_, _, _, _, _, _]) (st' := [_, _]) (cs := []) rfl trivial ?_
                      refine aw_icmp_ne (tgt := 109) eX12_faultOf_102 (by decide) (by omega) (by omega) (fun h277 => ?_) (fun h277 => ?_)
                      · first
                        | (exfalso; omega; done)
                        | (refine aw_blk oX12_faultOf_109 (pc' := 111) (ls' := [_, _, _, _, _, _]) (st' := [_]) (cs := []) rfl trivial ?_
                           refine aw_blk oX12_faultOf_111 (pc' := 224) (ls' := [_, _, _, _, _, _]) (st' := []) (cs := []) rfl trivial ?_
                           refine aw_blk oX12_faultOf_224 (pc' := 226) (ls' := [_, _, _, _, _, _]) (st' := [_]) (cs := []) rfl trivial ?_
                           refine aw_if_ge (tgt := 231) eX12_faultOf_226 (by decide) (by omega) (fun h278 => ?_) (fun h278 => ?_)
                           · first
                             | (exfalso; omega; done)
                             | (refine aw_blk oX12_faultOf_231 (pc' := 4) (ls' := [_, _, _, _, _, _]) (st' := []) (cs := []) rfl trivial ?_
                                exact T _ (by rw [af_4]; (repeat' split) <;> omega) (by decide) _ _ _)
                           · first
                             | (exfalso; omega; done)
                             | (refine aw_blk oX12_faultOf_229 (pc' := 230) (ls' := [_, _, _, _, _, _]) (st' := [_]) (cs := []) rfl trivial ?_
                                refine aw_iret eX12_faultOf_230 rfl (Nat.le_refl _) (Nat.le_refl _) ?_
                                exact pe_i (F (by rw [af_4]; (repeat' split) <;> omega)).symm rfl rfl))
                      · first
                        | (exfalso; omega; done)
                        | (refine aw_blk oX12_faultOf_105 (pc' := 111) (ls' := [_, _, _, _, _, _]) (st' := [_]) (cs := []) rfl trivial ?_
                           refine aw_blk oX12_faultOf_111 (pc' := 224) (ls' := [_, _, _, _, _, _]) (st' := []) (cs := []) rfl trivial ?_
                           refine aw_blk oX12_faultOf_224 (pc' := 226) (ls' := [_, _, _, _, _, _]) (st' := [_]) (cs := []) rfl trivial ?_
                           refine aw_if_ge (tgt := 231) eX12_faultOf_226 (by decide) (by omega) (fun h279 => ?_) (fun h279 => ?_)
                           · first
                             | (exfalso; omega; done)
                             | (refine aw_blk oX12_faultOf_231 (pc' := 4) (ls' := [_, _, _, _, _, _]) (st' := []) (cs := []) rfl trivial ?_
                                exact T _ (by rw [af_4]; (repeat' split) <;> omega) (by decide) _ _ _)
                           · first
                             | (exfalso; omega; done)
                             | (refine aw_blk oX12_faultOf_229 (pc' := 230) (ls' := [_, _, _, _, _, _]) (st' := [_]) (cs := []) rfl trivial ?_
                                refine aw_iret eX12_faultOf_230 rfl (Nat.le_refl _) (Nat.le_refl _) ?_
                                exact pe_i (F (by rw [af_4]; (repeat' split) <;> omega)).symm rfl rfl)))))
       · first
         | (exfalso; omega; done)
         | (refine aw_blk oX12_faultOf_37 (pc' := 40) (ls' := [_, _, _, _, _, _]) (st' := [_, _]) (cs := []) rfl trivial ?_
            refine aw_icmp_eq (tgt := 61) eX12_faultOf_40 (by decide) (by omega) (by omega) (fun h280 => ?_) (fun h280 => ?_)
            · first
              | (exfalso; omega; done)
              | (refine aw_blk oX12_faultOf_61 (pc' := 83) (ls' := [_, _, _, _, _, _]) (st' := [_]) (cs := []) rfl trivial ?_
                 refine aw_blk oX12_faultOf_83 (pc' := 224) (ls' := [_, _, _, _, _, _]) (st' := []) (cs := []) rfl trivial ?_
                 refine aw_blk oX12_faultOf_224 (pc' := 226) (ls' := [_, _, _, _, _, _]) (st' := [_]) (cs := []) rfl trivial ?_
                 refine aw_if_ge (tgt := 231) eX12_faultOf_226 (by decide) (by omega) (fun h281 => ?_) (fun h281 => ?_)
                 · first
                   | (exfalso; omega; done)
                   | (refine aw_blk oX12_faultOf_231 (pc' := 4) (ls' := [_, _, _, _, _, _]) (st' := []) (cs := []) rfl trivial ?_
                      exact T _ (by rw [af_4]; (repeat' split) <;> omega) (by decide) _ _ _)
                 · first
                   | (exfalso; omega; done)
                   | (refine aw_blk oX12_faultOf_229 (pc' := 230) (ls' := [_, _, _, _, _, _]) (st' := [_]) (cs := []) rfl trivial ?_
                      refine aw_iret eX12_faultOf_230 rfl (Nat.le_refl _) (Nat.le_refl _) ?_
                      exact pe_i (F (by rw [af_4]; (repeat' split) <;> omega)).symm rfl rfl))
            · first
              | (exfalso; omega; done)
              | (refine aw_blk oX12_faultOf_43 (pc' := 46) (ls' := [_, _, _, _, _, _]) (st' := [_, _]) (cs := []) rfl trivial ?_
                 refine aw_icmp_eq (tgt := 61) eX12_faultOf_46 (by decide) (by omega) (by omega) (fun h282 => ?_) (fun h282 => ?_)
                 · first
                   | (exfalso; omega; done)
                   | (refine aw_blk oX12_faultOf_61 (pc' := 83) (ls' := [_, _, _, _, _, _]) (st' := [_]) (cs := []) rfl trivial ?_
                      refine aw_blk oX12_faultOf_83 (pc' := 224) (ls' := [_, _, _, _, _, _]) (st' := []) (cs := []) rfl trivial ?_
                      refine aw_blk oX12_faultOf_224 (pc' := 226) (ls' := [_, _, _, _, _, _]) (st' := [_]) (cs := []) rfl trivial ?_
                      refine aw_if_ge (tgt := 231) eX12_faultOf_226 (by decide) (by omega) (fun h283 => ?_) (fun h283 => ?_)
                      · first
                        | (exfalso; omega; done)
                        | (refine aw_blk oX12_faultOf_231 (pc' := 4) (ls' := [_, _, _, _, _, _]) (st' := []) (cs := []) rfl trivial ?_
                           exact T _ (by rw [af_4]; (repeat' split) <;> omega) (by decide) _ _ _)
                      · first
                        | (exfalso; omega; done)
                        | (refine aw_blk oX12_faultOf_229 (pc' := 230) (ls' := [_, _, _, _, _, _]) (st' := [_]) (cs := []) rfl trivial ?_
                           refine aw_iret eX12_faultOf_230 rfl (Nat.le_refl _) (Nat.le_refl _) ?_
                           exact pe_i (F (by rw [af_4]; (repeat' split) <;> omega)).symm rfl rfl))
                 · first
                   | (exfalso; omega; done)
                   | (refine aw_blk oX12_faultOf_49 (pc' := 52) (ls' := [_, _, _, _, _, _]) (st' := [_, _]) (cs := []) rfl trivial ?_
                      refine aw_icmp_eq (tgt := 61) eX12_faultOf_52 (by decide) (by omega) (by omega) (fun h284 => ?_) (fun h284 => ?_)
                      · first
                        | (exfalso; omega; done)
                        | (refine aw_blk oX12_faultOf_61 (pc' := 83) (ls' := [_, _, _, _, _, _]) (st' := [_]) (cs := []) rfl trivial ?_
                           refine aw_blk oX12_faultOf_83 (pc' := 224) (ls' := [_, _, _, _, _, _]) (st' := []) (cs := []) rfl trivial ?_
                           refine aw_blk oX12_faultOf_224 (pc' := 226) (ls' := [_, _, _, _, _, _]) (st' := [_]) (cs := []) rfl trivial ?_
                           refine aw_if_ge (tgt := 231) eX12_faultOf_226 (by decide) (by omega) (fun h285 => ?_) (fun h285 => ?_)
                           · first
                             | (exfalso; omega; done)
                             | (refine aw_blk oX12_faultOf_231 (pc' := 4) (ls' := [_, _, _, _, _, _]) (st' := []) (cs := []) rfl trivial ?_
                                exact T _ (by rw [af_4]; (repeat' split) <;> omega) (by decide) _ _ _)
                           · first
                             | (exfalso; omega; done)
                             | (refine aw_blk oX12_faultOf_229 (pc' := 230) (ls' := [_, _, _, _, _, _]) (st' := [_]) (cs := []) rfl trivial ?_
                                refine aw_iret eX12_faultOf_230 rfl (Nat.le_refl _) (Nat.le_refl _) ?_
                                exact pe_i (F (by rw [af_4]; (repeat' split) <;> omega)).symm rfl rfl))
                      · first
                        | (exfalso; omega; done)
                        | (refine aw_blk oX12_faultOf_55 (pc' := 58) (ls' := [_, _, _, _, _, _]) (st' := [_, _]) (cs := []) rfl trivial ?_
                           refine aw_icmp_ne (tgt := 65) eX12_faultOf_58 (by decide) (by omega) (by omega) (fun h286 => ?_) (fun h286 => ?_)
                           · first
                             | (exfalso; omega; done)
                             | (refine aw_blk oX12_faultOf_65 (pc' := 70) (ls' := [_, _, _, _, _, _]) (st' := [_, _, _]) (cs := []) rfl trivial ?_
                                refine aw_ciS (rest := []) (c_X12_in (by omega) (by omega) (by omega)) kX12_in eX12_faultOf_70 lX12_faultOf_70 rfl rfl (Nat.le_of_ble_eq_true rfl) ⟨Nat.le_of_ble_eq_true rfl, Nat.le_of_ble_eq_true rfl⟩ ⟨Nat.le_refl _, Nat.le_refl _⟩ ?_
                                refine aw_if_eq (tgt := 81) eX12_faultOf_73 (by decide) bt_r (fun hh => have h287 := bt0 hh; ?_) (fun hh => have h287 := bt1 hh; ?_)
                                · first
                                  | (exfalso; omega; done)
                                  | (refine aw_blk oX12_faultOf_81 (pc' := 83) (ls' := [_, _, _, _, _, _]) (st' := [_]) (cs := []) rfl trivial ?_
                                     refine aw_blk oX12_faultOf_83 (pc' := 224) (ls' := [_, _, _, _, _, _]) (st' := []) (cs := []) rfl trivial ?_
                                     refine aw_blk oX12_faultOf_224 (pc' := 226) (ls' := [_, _, _, _, _, _]) (st' := [_]) (cs := []) rfl trivial ?_
                                     refine aw_if_ge (tgt := 231) eX12_faultOf_226 (by decide) (by omega) (fun h288 => ?_) (fun h288 => ?_)
                                     · first
                                       | (exfalso; omega; done)
                                       | (refine aw_blk oX12_faultOf_231 (pc' := 4) (ls' := [_, _, _, _, _, _]) (st' := []) (cs := []) rfl trivial ?_
                                          exact T _ (by rw [af_4]; (repeat' split) <;> omega) (by decide) _ _ _)
                                     · first
                                       | (exfalso; omega; done)
                                       | (refine aw_blk oX12_faultOf_229 (pc' := 230) (ls' := [_, _, _, _, _, _]) (st' := [_]) (cs := []) rfl trivial ?_
                                          refine aw_iret eX12_faultOf_230 rfl (Nat.le_refl _) (Nat.le_refl _) ?_
                                          exact pe_i (F (by rw [af_4]; (repeat' split) <;> omega)).symm rfl rfl))
                                · first
                                  | (exfalso; omega; done)
                                  | (refine aw_blk oX12_faultOf_76 (pc' := 83) (ls' := [_, _, _, _, _, _]) (st' := [_]) (cs := []) rfl trivial ?_
                                     refine aw_blk oX12_faultOf_83 (pc' := 224) (ls' := [_, _, _, _, _, _]) (st' := []) (cs := []) rfl trivial ?_
                                     refine aw_blk oX12_faultOf_224 (pc' := 226) (ls' := [_, _, _, _, _, _]) (st' := [_]) (cs := []) rfl trivial ?_
                                     refine aw_if_ge (tgt := 231) eX12_faultOf_226 (by decide) (by omega) (fun h289 => ?_) (fun h289 => ?_)
                                     · first
                                       | (exfalso; omega; done)
                                       | (refine aw_blk oX12_faultOf_231 (pc' := 4) (ls' := [_, _, _, _, _, _]) (st' := []) (cs := []) rfl trivial ?_
                                          exact T _ (by rw [af_4]; (repeat' split) <;> omega) (by decide) _ _ _)
                                     · first
                                       | (exfalso; omega; done)
                                       | (refine aw_blk oX12_faultOf_229 (pc' := 230) (ls' := [_, _, _, _, _, _]) (st' := [_]) (cs := []) rfl trivial ?_
                                          refine aw_iret eX12_faultOf_230 rfl (Nat.le_refl _) (Nat.le_refl _) ?_
                                          exact pe_i (F (by rw [af_4]; (repeat' split) <;> omega)).symm rfl rfl)))
                           · first
                             | (exfalso; omega; done)
                             | (refine aw_blk oX12_faultOf_61 (pc' := 83) (ls' := [_, _, _, _, _, _]) (st' := [_]) (cs := []) rfl trivial ?_
                                refine aw_blk oX12_faultOf_83 (pc' := 224) (ls' := [_, _, _, _, _, _]) (st' := []) (cs := []) rfl trivial ?_
                                refine aw_blk oX12_faultOf_224 (pc' := 226) (ls' := [_, _, _, _, _, _]) (st' := [_]) (cs := []) rfl trivial ?_
                                refine aw_if_ge (tgt := 231) eX12_faultOf_226 (by decide) (by omega) (fun h290 => ?_) (fun h290 => ?_)
                                · first
                                  | (exfalso; omega; done)
                                  | (refine aw_blk oX12_faultOf_231 (pc' := 4) (ls' := [_, _, _, _, _, _]) (st' := []) (cs := []) rfl trivial ?_
                                     exact T _ (by rw [af_4]; (repeat' split) <;> omega) (by decide) _ _ _)
                                · first
                                  | (exfalso; omega; done)
                                  | (refine aw_blk oX12_faultOf_229 (pc' := 230) (ls' := [_, _, _, _, _, _]) (st' := [_]) (cs := []) rfl trivial ?_
                                     refine aw_iret eX12_faultOf_230 rfl (Nat.le_refl _) (Nat.le_refl _) ?_
                                     exact pe_i (F (by rw [af_4]; (repeat' split) <;> omega)).symm rfl rfl)))))))
theorem s_faultOf_5 {κ : KX} {μ : MM} {ν : ML} {P : Int} {i : Int} {u3 u4 u5 : AV} {N z : Int} (h0 : 0 ≤ i) (h1 : i < N) (a : μ 55 8 = N ∧ 0 ≤ N ∧ N ≤ 40) (g : μ 61 i = z ∧ 0 ≤ z ∧ z ≤ 126) (T : ∀ q : Int, q = af 5 z → q ≠ 9 → ∀ u3 u4 u5 : AV, AX κ mX12_faultOf 1 (PE (some (aI P)) μ ν) 4 [aR 55, aI q, aI (i + 1), u3, u4, u5] [] μ ν) (F : af 5 z = 9 → P = i) : AX κ mX12_faultOf 1 (PE (some (aI P)) μ ν) 4 [aR 55, aI 5, aI i, u3, u4, u5] [] μ ν := by
  have hbt : (48 ≤ μ 61 i ∧ μ 61 i ≤ 57 ∧ bt (μ 61 i) 48 57 = 1) ∨ (¬ (48 ≤ μ 61 i ∧ μ 61 i ≤ 57) ∧ bt (μ 61 i) 48 57 = 0) := by
    unfold bt
    split <;> omega
  refine aw_blk oX12_faultOf_4 (pc' := 9) (ls' := [_, _, _, _, _, _]) (st' := [_, _]) (cs := []) rfl trivial ?_
  refine aw_icmp_ge (tgt := 240) eX12_faultOf_9 (by decide) (by omega) (by omega) (fun h291 => ?_) (fun h291 => ?_)
  · first
    | (exfalso; omega; done)
    | (refine aw_blk oX12_faultOf_240 (pc' := 243) (ls' := [_, _, _, _, _, _]) (st' := [_, _]) (cs := []) rfl trivial ?_
       refine aw_icmp_ne (tgt := 251) eX12_faultOf_243 (by decide) (by omega) (by omega) (fun h292 => ?_) (fun h292 => ?_)
       · first
         | (exfalso; omega; done)
         | (refine aw_blk oX12_faultOf_251 (pc' := 255) (ls' := [_, _, _, _, _, _]) (st' := [_]) (cs := []) rfl trivial ?_
            refine aw_iret eX12_faultOf_255 rfl (Nat.le_refl _) (Nat.le_refl _) ?_
            exact pe_i (F (by rw [af_5]; (repeat' split) <;> omega)).symm rfl rfl)
       · first
         | (exfalso; omega; done)
         | (refine aw_blk oX12_faultOf_246 (pc' := 255) (ls' := [_, _, _, _, _, _]) (st' := [_]) (cs := []) rfl trivial ?_
            refine aw_iret eX12_faultOf_255 rfl (Nat.le_refl _) (Nat.le_refl _) ?_
            exact pe_i (F (by rw [af_5]; (repeat' split) <;> omega)).symm rfl rfl))
  · first
    | (exfalso; omega; done)
    | (refine aw_blk oX12_faultOf_12 (pc' := 28) (ls' := [_, _, _, _, _, _]) (st' := [_, _, _]) (cs := [(_, _)]) rfl (⟨⟨by omega, by omega⟩, trivial⟩) ?_
       refine aw_ciS (rest := []) (c_X12_in (by omega) (by omega) (by omega)) kX12_in eX12_faultOf_28 lX12_faultOf_28 rfl rfl (Nat.le_of_ble_eq_true rfl) ⟨Nat.le_of_ble_eq_true rfl, Nat.le_of_ble_eq_true rfl⟩ ⟨Nat.le_refl _, Nat.le_refl _⟩ ?_
       refine aw_blk oX12_faultOf_31 (pc' := 34) (ls' := [_, _, _, _, _, _]) (st' := [_]) (cs := []) rfl trivial ?_
       refine aw_if_ne (tgt := 88) eX12_faultOf_34 (by decide) (by omega) (fun h293 => ?_) (fun h293 => ?_)
       · first
         | (exfalso; omega; done)
         | (refine aw_blk oX12_faultOf_88 (pc' := 90) (ls' := [_, _, _, _, _, _]) (st' := [_, _]) (cs := []) rfl trivial ?_
            refine aw_icmp_ne (tgt := 116) eX12_faultOf_90 (by decide) (by omega) (by omega) (fun h294 => ?_) (fun h294 => ?_)
            · first
              | (exfalso; omega; done)
              | (refine aw_blk oX12_faultOf_116 (pc' := 119) (ls' := [_, _, _, _, _, _]) (st' := [_, _, _]) (cs := []) rfl trivial ?_
                 refine aw_ciS (rest := []) (c_X12_in (by omega) (by omega) (by omega)) kX12_in eX12_faultOf_119 lX12_faultOf_119 rfl rfl (Nat.le_of_ble_eq_true rfl) ⟨Nat.le_of_ble_eq_true rfl, Nat.le_of_ble_eq_true rfl⟩ ⟨Nat.le_refl _, Nat.le_refl _⟩ ?_
                 refine aw_if_eq (tgt := 148) eX12_faultOf_122 (by decide) bt_r (fun hh => have h295 := bt0 hh; ?_) (fun hh => have h295 := bt1 hh; ?_)
                 · first
                   | (exfalso; omega; done)
                   | (refine aw_blk oX12_faultOf_148 (pc' := 151) (ls' := [_, _, _, _, _, _]) (st' := [_, _, _]) (cs := []) rfl trivial ?_
                      refine aw_ciS (rest := []) (c_X12_in (by omega) (by omega) (by omega)) kX12_in eX12_faultOf_151 lX12_faultOf_151 rfl rfl (Nat.le_of_ble_eq_true rfl) ⟨Nat.le_of_ble_eq_true rfl, Nat.le_of_ble_eq_true rfl⟩ ⟨Nat.le_refl _, Nat.le_refl _⟩ ?_
                      refine aw_if_eq (tgt := 175) eX12_faultOf_154 (by decide) bt_r (fun hh => have h296 := bt0 hh; ?_) (fun hh => have h296 := bt1 hh; ?_)
                      · first
                        | (exfalso; omega; done)
                        | (refine aw_blk oX12_faultOf_175 (pc' := 178) (ls' := [_, _, _, _, _, _]) (st' := [_, _]) (cs := []) rfl trivial ?_
                           refine aw_icmp_ne (tgt := 204) eX12_faultOf_178 (by decide) (by omega) (by omega) (fun h297 => ?_) (fun h297 => ?_)
                           · first
                             | (exfalso; omega; done)
                             | (refine aw_blk oX12_faultOf_204 (pc' := 207) (ls' := [_, _, _, _, _, _]) (st' := [_, _]) (cs := []) rfl trivial ?_
                                refine aw_icmp_ne (tgt := 224) eX12_faultOf_207 (by decide) (by omega) (by omega) (fun h298 => ?_) (fun h298 => ?_)
                                · first
                                  | (exfalso; omega; done)
                                  | (refine aw_blk oX12_faultOf_224 (pc' := 226) (ls' := [_, _, _, _, _, _]) (st' := [_]) (cs := []) rfl trivial ?_
                                     refine aw_if_ge (tgt := 231) eX12_faultOf_226 (by decide) (by omega) (fun h299 => ?_) (fun h299 => ?_)
                                     · first
                                       | (exfalso; omega; done)
                                       | (refine aw_blk oX12_faultOf_231 (pc' := 4) (ls' := [_, _, _, _, _, _]) (st' := []) (cs := []) rfl trivial ?_
                                          exact T _ (by rw [af_5]; (repeat' split) <;> omega) (by decide) _ _ _)
                                     · first
                                       | (exfalso; omega; done)
                                       | (refine aw_blk oX12_faultOf_229 (pc' := 230) (ls' := [_, _, _, _, _, _]) (st' := [_]) (cs := []) rfl trivial ?_
                                          refine aw_iret eX12_faultOf_230 rfl (Nat.le_refl _) (Nat.le_refl _) ?_
                                          exact pe_i (F (by rw [af_5]; (repeat' split) <;> omega)).symm rfl rfl))
                                · first
                                  | (exfalso; omega; done)
                                  | (refine aw_blk oX12_faultOf_210 (pc' := 213) (ls' := [_, _, _, _, _, _]) (st' := [_, _]) (cs := []) rfl trivial ?_
                                     refine aw_icmp_ne (tgt := 220) eX12_faultOf_213 (by decide) (by omega) (by omega) (fun h300 => ?_) (fun h300 => ?_)
                                     · first
                                       | (exfalso; omega; done)
                                       | (refine aw_blk oX12_faultOf_220 (pc' := 222) (ls' := [_, _, _, _, _, _]) (st' := [_]) (cs := []) rfl trivial ?_
                                          refine aw_blk oX12_faultOf_222 (pc' := 224) (ls' := [_, _, _, _, _, _]) (st' := []) (cs := []) rfl trivial ?_
                                          refine aw_blk oX12_faultOf_224 (pc' := 226) (ls' := [_, _, _, _, _, _]) (st' := [_]) (cs := []) rfl trivial ?_
                                          refine aw_if_ge (tgt := 231) eX12_faultOf_226 (by decide) (by omega) (fun h301 => ?_) (fun h301 => ?_)
                                          · first
                                            | (exfalso; omega; done)
                                            | (refine aw_blk oX12_faultOf_231 (pc' := 4) (ls' := [_, _, _, _, _, _]) (st' := []) (cs := []) rfl trivial ?_
                                               exact T _ (by rw [af_5]; (repeat' split) <;> omega) (by decide) _ _ _)
                                          · first
                                            | (exfalso; omega; done)
                                            | (refine aw_blk oX12_faultOf_229 (pc' := 230) (ls' := [_, _, _, _, _, _]) (st' := [_]) (cs := []) rfl trivial ?_
                                               refine aw_iret eX12_faultOf_230 rfl (Nat.le_refl _) (Nat.le_refl _) ?_
                                               exact pe_i (F (by rw [af_5]; (repeat' split) <;> omega)).symm rfl rfl))
                                     · first
                                       | (exfalso; omega; done)
                                       | (refine aw_blk oX12_faultOf_216 (pc' := 222) (ls' := [_, _, _, _, _, _]) (st' := [_]) (cs := []) rfl trivial ?_
                                          refine aw_blk oX12_faultOf_222 (pc' := 224) (ls' := [_, _, _, _, _, _]) (st' := []) (cs := []) rfl trivial ?_
                                          refine aw_blk oX12_faultOf_224 (pc' := 226) (ls' := [_, _, _, _, _, _]) (st' := [_]) (cs := []) rfl trivial ?_
                                          refine aw_if_ge (tgt := 231) eX12_faultOf_226 (by decide) (by omega) (fun h302 => ?_) (fun h302 => ?_)
                                          · first
                                            | (exfalso; omega; done)
                                            | (refine aw_blk oX12_faultOf_231 (pc' := 4) (ls' := [_, _, _, _, _, _]) (st' := []) (cs := []) rfl trivial ?_
                                               exact T _ (by rw [af_5]; (repeat' split) <;> omega) (by decide) _ _ _)
                                          · first
                                            | (exfalso; omega; done)
                                            | (refine aw_blk oX12_faultOf_229 (pc' := 230) (ls' := [_, _, _, _, _, _]) (st' := [_]) (cs := []) rfl trivial ?_
                                               refine aw_iret eX12_faultOf_230 rfl (Nat.le_refl _) (Nat.le_refl _) ?_
                                               exact pe_i (F (by rw [af_5]; (repeat' split) <;> omega)).symm rfl rfl))))
                           · first
                             | (exfalso; omega; done)
                             | (refine aw_blk oX12_faultOf_181 (pc' := 186) (ls' := [_, _, _, _, _, _]) (st' := [_, _, _]) (cs := []) rfl trivial ?_
                                refine aw_ciS (rest := []) (c_X12_in (by omega) (by omega) (by omega)) kX12_in eX12_faultOf_186 lX12_faultOf_186 rfl rfl (Nat.le_of_ble_eq_true rfl) ⟨Nat.le_of_ble_eq_true rfl, Nat.le_of_ble_eq_true rfl⟩ ⟨Nat.le_refl _, Nat.le_refl _⟩ ?_
                                refine aw_if_eq (tgt := 197) eX12_faultOf_189 (by decide) bt_r (fun hh => have h303 := bt0 hh; ?_) (fun hh => have h303 := bt1 hh; ?_)
                                · first
                                  | (exfalso; omega; done)
                                  | (refine aw_blk oX12_faultOf_197 (pc' := 199) (ls' := [_, _, _, _, _, _]) (st' := [_]) (cs := []) rfl trivial ?_
                                     refine aw_blk oX12_faultOf_199 (pc' := 224) (ls' := [_, _, _, _, _, _]) (st' := []) (cs := []) rfl trivial ?_
                                     refine aw_blk oX12_faultOf_224 (pc' := 226) (ls' := [_, _, _, _, _, _]) (st' := [_]) (cs := []) rfl trivial ?_
                                     refine aw_if_ge (tgt := 231) eX12_faultOf_226 (by decide) (by omega) (fun h304 => ?_) (fun h304 => ?_)
                                     · first
                                       | (exfalso; omega; done)
                                       | (refine aw_blk oX12_faultOf_231 (pc' := 4) (ls' := [_, _, _, _, _, _]) (st' := []) (cs := []) rfl trivial ?_
                                          exact T _ (by rw [af_5]; (repeat' split) <;> omega) (by decide) _ _ _)
                                     · first
                                       | (exfalso; omega; done)
                                       | (refine aw_blk oX12_faultOf_229 (pc' := 230) (ls' := [_, _, _, _, _, _]) (st' := [_]) (cs := []) rfl trivial ?_
                                          refine aw_iret eX12_faultOf_230 rfl (Nat.le_refl _) (Nat.le_refl _) ?_
                                          exact pe_i (F (by rw [af_5]; (repeat' split) <;> omega)).symm rfl rfl))
                                · first
                                  | (exfalso; omega; done)
                                  | (refine aw_blk oX12_faultOf_192 (pc' := 199) (ls' := [_, _, _, _, _, _]) (st' := [_]) (cs := []) rfl trivial ?_
                                     refine aw_blk oX12_faultOf_199 (pc' := 224) (ls' := [_, _, _, _, _, _]) (st' := []) (cs := []) rfl trivial ?_
                                     refine aw_blk oX12_faultOf_224 (pc' := 226) (ls' := [_, _, _, _, _, _]) (st' := [_]) (cs := []) rfl trivial ?_
                                     refine aw_if_ge (tgt := 231) eX12_faultOf_226 (by decide) (by omega) (fun h305 => ?_) (fun h305 => ?_)
                                     · first
                                       | (exfalso; omega; done)
                                       | (refine aw_blk oX12_faultOf_231 (pc' := 4) (ls' := [_, _, _, _, _, _]) (st' := []) (cs := []) rfl trivial ?_
                                          exact T _ (by rw [af_5]; (repeat' split) <;> omega) (by decide) _ _ _)
                                     · first
                                       | (exfalso; omega; done)
                                       | (refine aw_blk oX12_faultOf_229 (pc' := 230) (ls' := [_, _, _, _, _, _]) (st' := [_]) (cs := []) rfl trivial ?_
                                          refine aw_iret eX12_faultOf_230 rfl (Nat.le_refl _) (Nat.le_refl _) ?_
                                          exact pe_i (F (by rw [af_5]; (repeat' split) <;> omega)).symm rfl rfl))))
                      · first
                        | (exfalso; omega; done)
                        | (refine aw_blk oX12_faultOf_157 (pc' := 160) (ls' := [_, _, _, _, _, _]) (st' := [_, _]) (cs := []) rfl trivial ?_
                           refine aw_icmp_ne (tgt := 168) eX12_faultOf_160 (by decide) (by omega) (by omega) (fun h306 => ?_) (fun h306 => ?_)
                           · first
                             | (exfalso; omega; done)
                             | (refine aw_blk oX12_faultOf_168 (pc' := 170) (ls' := [_, _, _, _, _, _]) (st' := [_]) (cs := []) rfl trivial ?_
                                refine aw_blk oX12_faultOf_170 (pc' := 224) (ls' := [_, _, _, _, _, _]) (st' := []) (cs := []) rfl trivial ?_
                                refine aw_blk oX12_faultOf_224 (pc' := 226) (ls' := [_, _, _, _, _, _]) (st' := [_]) (cs := []) rfl trivial ?_
                                refine aw_if_ge (tgt := 231) eX12_faultOf_226 (by decide) (by omega) (fun h307 => ?_) (fun h307 => ?_)
                                · first
                                  | (exfalso; omega; done)
                                  | (refine aw_blk oX12_faultOf_231 (pc' := 4) (ls' := [_, _, _, _, _, _]) (st' := []) (cs := []) rfl trivial ?_
                                     exact T _ (by rw [af_5]; (repeat' split) <;> omega) (by decide) _ _ _)
                                · first
                                  | (exfalso; omega; done)
                                  | (refine aw_blk oX12_faultOf_229 (pc' := 230) (ls' := [_, _, _, _, _, _]) (st' := [_]) (cs := []) rfl trivial ?_
                                     refine aw_iret eX12_faultOf_230 rfl (Nat.le_refl _) (Nat.le_refl _) ?_
                                     exact pe_i (F (by rw [af_5]; (repeat' split) <;> omega)).symm rfl rfl))
                           · first
                             | (exfalso; omega; done)
                             | (refine aw_blk oX12_faultOf_163 (pc' := 170) (ls' := [_, _, _, _, _, _]) (st' := [_]) (cs := []) rfl trivial ?_
                                refine aw_blk oX12_faultOf_170 (pc' := 224) (ls' := [_, _, _, _, _, _]) (st' := []) (cs := []) rfl trivial ?_
                                refine aw_blk oX12_faultOf_224 (pc' := 226) (ls' := [_, _, _, _, _, _]) (st' := [_]) (cs := []) rfl trivial ?_
                                refine aw_if_ge (tgt := 231) eX12_faultOf_226 (by decide) (by omega) (fun h308 => ?_) (fun h308 => ?_)
                                · first
                                  | (exfalso; omega; done)
                                  | (refine aw_blk oX12_faultOf_231 (pc' := 4) (ls' := [_, _, _, _, _, _]) (st' := []) (cs := []) rfl trivial ?_
                                     exact T _ (by rw [af_5]; (repeat' split) <;> omega) (by decide) _ _ _)
                                · first
                                  | (exfalso; omega; done)
                                  | (refine aw_blk oX12_faultOf_229 (pc' := 230) (ls' := [_, _, _, _, _, _]) (st' := [_]) (cs := []) rfl trivial ?_
                                     refine aw_iret eX12_faultOf_230 rfl (Nat.le_refl _) (Nat.le_refl _) ?_
                                     exact pe_i (F (by rw [af_5]; (repeat' split) <;> omega)).symm rfl rfl))))
                 · first
                   | (exfalso; omega; done)
                   | (refine aw_blk oX12_faultOf_125 (pc' := 127) (ls' := [_, _, _, _, _, _]) (st' := [_]) (cs := []) rfl trivial ?_
                      refine aw_if_eq (tgt := 148) eX12_faultOf_127 (by decide) (by omega) (fun h309 => ?_) (fun h309 => ?_)
                      · first
                        | (exfalso; omega; done)
                        | (refine aw_blk oX12_faultOf_148 (pc' := 151) (ls' := [_, _, _, _, _, _]) (st' := [_, _, _]) (cs := []) rfl trivial ?_
                           refine aw_ciS (rest := []) (c_X12_in (by omega) (by omega) (by omega)) kX12_in eX12_faultOf_151 lX12_faultOf_151 rfl rfl (Nat.le_of_ble_eq_true rfl) ⟨Nat.le_of_ble_eq_true rfl, Nat.le_of_ble_eq_true rfl⟩ ⟨Nat.le_refl _, Nat.le_refl _⟩ ?_
                           refine aw_if_eq (tgt := 175) eX12_faultOf_154 (by decide) bt_r (fun hh => have h310 := bt0 hh; ?_) (fun hh => have h310 := bt1 hh; ?_)
                           · first
                             | (exfalso; omega; done)
                             | (refine aw_blk oX12_faultOf_175 (pc' := 178) (ls' := [_, _, _, _, _, _]) (st' := [_, _]) (cs := []) rfl trivial ?_
                                refine aw_icmp_ne (tgt := 204) eX12_faultOf_178 (by decide) (by omega) (by omega) (fun h311 => ?_) (fun h311 => ?_)
                                · first
                                  | (exfalso; omega; done)
                                  | (refine aw_blk oX12_faultOf_204 (pc' := 207) (ls' := [_, _, _, _, _, _]) (st' := [_, _]) (cs := []) rfl trivial ?_
                                     refine aw_icmp_ne (tgt := 224) eX12_faultOf_207 (by decide) (by omega) (by omega) (fun h312 => ?_) (fun h312 => ?_)
                                     · first
                                       | (exfalso; omega; done)
                                       | (refine aw_blk oX12_faultOf_224 (pc' := 226) (ls' := [_, _, _, _, _, _]) (st' := [_]) (cs := []) rfl trivial ?_
                                          refine aw_if_ge (tgt := 231) eX12_faultOf_226 (by decide) (by omega) (fun h313 => ?_) (fun h313 => ?_)
                                          · first
                                            | (exfalso; omega; done)
                                            | (refine aw_blk oX12_faultOf_231 (pc' := 4) (ls' := [_, _, _, _, _, _]) (st' := []) (cs := []) rfl trivial ?_
                                               exact T _ (by rw [af_5]; (repeat' split) <;> omega) (by decide) _ _ _)
                                          · first
                                            | (exfalso; omega; done)
                                            | (refine aw_blk oX12_faultOf_229 (pc' := 230) (ls' := [_, _, _, _, _, _]) (st' := [_]) (cs := []) rfl trivial ?_
                                               refine aw_iret eX12_faultOf_230 rfl (Nat.le_refl _) (Nat.le_refl _) ?_
                                               exact pe_i (F (by rw [af_5]; (repeat' split) <;> omega)).symm rfl rfl))
                                     · first
                                       | (exfalso; omega; done)
                                       | (refine aw_blk oX12_faultOf_210 (pc' := 213) (ls' := [_, _, _, _, _, _]) (st' := [_, _]) (cs := []) rfl trivial ?_
                                          refine aw_icmp_ne (tgt := 220) eX12_faultOf_213 (by decide) (by omega) (by omega) (fun h314 => ?_) (fun h314 => ?_)
                                          · first
                                            | (exfalso; omega; done)
                                            | (refine aw_blk oX12_faultOf_220 (pc' := 222) (ls' := [_, _, _, _, _, _]) (st' := [_]) (cs := []) rfl trivial ?_
                                               refine aw_blk oX12_faultOf_222 (pc' := 224) (ls' := [_, _, _, _, _, _]) (st' := []) (cs := []) rfl trivial ?_
                                               refine aw_blk oX12_faultOf_224 (pc' := 226) (ls' := [_, _, _, _, _, _]) (st' := [_]) (cs := []) rfl trivial ?_
                                               refine aw_if_ge (tgt := 231) eX12_faultOf_226 (by decide) (by omega) (fun h315 => ?_) (fun h315 => ?_)
                                               · first
                                                 | (exfalso; omega; done)
                                                 | (refine aw_blk oX12_faultOf_231 (pc' := 4) (ls' := [_, _, _, _, _, _]) (st' := []) (cs := []) rfl trivial ?_
                                                    exact T _ (by rw [af_5]; (repeat' split) <;> omega) (by decide) _ _ _)
                                               · first
                                                 | (exfalso; omega; done)
                                                 | (refine aw_blk oX12_faultOf_229 (pc' := 230) (ls' := [_, _, _, _, _, _]) (st' := [_]) (cs := []) rfl trivial ?_
                                                    refine aw_iret eX12_faultOf_230 rfl (Nat.le_refl _) (Nat.le_refl _) ?_
                                                    exact pe_i (F (by rw [af_5]; (repeat' split) <;> omega)).symm rfl rfl))
                                          · first
                                            | (exfalso; omega; done)
                                            | (refine aw_blk oX12_faultOf_216 (pc' := 222) (ls' := [_, _, _, _, _, _]) (st' := [_]) (cs := []) rfl trivial ?_
                                               refine aw_blk oX12_faultOf_222 (pc' := 224) (ls' := [_, _, _, _, _, _]) (st' := []) (cs := []) rfl trivial ?_
                                               refine aw_blk oX12_faultOf_224 (pc' := 226) (ls' := [_, _, _, _, _, _]) (st' := [_]) (cs := []) rfl trivial ?_
                                               refine aw_if_ge (tgt := 231) eX12_faultOf_226 (by decide) (by omega) (fun h316 => ?_) (fun h316 => ?_)
                                               · first
                                                 | (exfalso; omega; done)
                                                 | (refine aw_blk oX12_faultOf_231 (pc' := 4) (ls' := [_, _, _, _, _, _]) (st' := []) (cs := []) rfl trivial ?_
                                                    exact T _ (by rw [af_5]; (repeat' split) <;> omega) (by decide) _ _ _)
                                               · first
                                                 | (exfalso; omega; done)
                                                 | (refine aw_blk oX12_faultOf_229 (pc' := 230) (ls' := [_, _, _, _, _, _]) (st' := [_]) (cs := []) rfl trivial ?_
                                                    refine aw_iret eX12_faultOf_230 rfl (Nat.le_refl _) (Nat.le_refl _) ?_
                                                    exact pe_i (F (by rw [af_5]; (repeat' split) <;> omega)).symm rfl rfl))))
                                · first
                                  | (exfalso; omega; done)
                                  | (refine aw_blk oX12_faultOf_181 (pc' := 186) (ls' := [_, _, _, _, _, _]) (st' := [_, _, _]) (cs := []) rfl trivial ?_
                                     refine aw_ciS (rest := []) (c_X12_in (by omega) (by omega) (by omega)) kX12_in eX12_faultOf_186 lX12_faultOf_186 rfl rfl (Nat.le_of_ble_eq_true rfl) ⟨Nat.le_of_ble_eq_true rfl, Nat.le_of_ble_eq_true rfl⟩ ⟨Nat.le_refl _, Nat.le_refl _⟩ ?_
                                     refine aw_if_eq (tgt := 197) eX12_faultOf_189 (by decide) bt_r (fun hh => have h317 := bt0 hh; ?_) (fun hh => have h317 := bt1 hh; ?_)
                                     · first
                                       | (exfalso; omega; done)
                                       | (refine aw_blk oX12_faultOf_197 (pc' := 199) (ls' := [_, _, _, _, _, _]) (st' := [_]) (cs := []) rfl trivial ?_
                                          refine aw_blk oX12_faultOf_199 (pc' := 224) (ls' := [_, _, _, _, _, _]) (st' := []) (cs := []) rfl trivial ?_
                                          refine aw_blk oX12_faultOf_224 (pc' := 226) (ls' := [_, _, _, _, _, _]) (st' := [_]) (cs := []) rfl trivial ?_
                                          refine aw_if_ge (tgt := 231) eX12_faultOf_226 (by decide) (by omega) (fun h318 => ?_) (fun h318 => ?_)
                                          · first
                                            | (exfalso; omega; done)
                                            | (refine aw_blk oX12_faultOf_231 (pc' := 4) (ls' := [_, _, _, _, _, _]) (st' := []) (cs := []) rfl trivial ?_
                                               exact T _ (by rw [af_5]; (repeat' split) <;> omega) (by decide) _ _ _)
                                          · first
                                            | (exfalso; omega; done)
                                            | (refine aw_blk oX12_faultOf_229 (pc' := 230) (ls' := [_, _, _, _, _, _]) (st' := [_]) (cs := []) rfl trivial ?_
                                               refine aw_iret eX12_faultOf_230 rfl (Nat.le_refl _) (Nat.le_refl _) ?_
                                               exact pe_i (F (by rw [af_5]; (repeat' split) <;> omega)).symm rfl rfl))
                                     · first
                                       | (exfalso; omega; done)
                                       | (refine aw_blk oX12_faultOf_192 (pc' := 199) (ls' := [_, _, _, _, _, _]) (st' := [_]) (cs := []) rfl trivial ?_
                                          refine aw_blk oX12_faultOf_199 (pc' := 224) (ls' := [_, _, _, _, _, _]) (st' := []) (cs := []) rfl trivial ?_
                                          refine aw_blk oX12_faultOf_224 (pc' := 226) (ls' := [_, _, _, _, _, _]) (st' := [_]) (cs := []) rfl trivial ?_
                                          refine aw_if_ge (tgt := 231) eX12_faultOf_226 (by decide) (by omega) (fun h319 => ?_) (fun h319 => ?_)
                                          · first
                                            | (exfalso; omega; done)
                                            | (refine aw_blk oX12_faultOf_231 (pc' := 4) (ls' := [_, _, _, _, _, _]) (st' := []) (cs := []) rfl trivial ?_
                                               exact T _ (by rw [af_5]; (repeat' split) <;> omega) (by decide) _ _ _)
                                          · first
                                            | (exfalso; omega; done)
                                            | (refine aw_blk oX12_faultOf_229 (pc' := 230) (ls' := [_, _, _, _, _, _]) (st' := [_]) (cs := []) rfl trivial ?_
                                               refine aw_iret eX12_faultOf_230 rfl (Nat.le_refl _) (Nat.le_refl _) ?_
                                               exact pe_i (F (by rw [af_5]; (repeat' split) <;> omega)).symm rfl rfl))))
                           · first
                             | (exfalso; omega; done)
                             | (refine aw_blk oX12_faultOf_157 (pc' := 160) (ls' := [_, _, _, _, _, _]) (st' := [_, _]) (cs := []) rfl trivial ?_
                                refine aw_icmp_ne (tgt := 168) eX12_faultOf_160 (by decide) (by omega) (by omega) (fun h320 => ?_) (fun h320 => ?_)
                                · first
                                  | (exfalso; omega; done)
                                  | (refine aw_blk oX12_faultOf_168 (pc' := 170) (ls' := [_, _, _, _, _, _]) (st' := [_]) (cs := []) rfl trivial ?_
                                     refine aw_blk oX12_faultOf_170 (pc' := 224) (ls' := [_, _, _, _, _, _]) (st' := []) (cs := []) rfl trivial ?_
                                     refine aw_blk oX12_faultOf_224 (pc' := 226) (ls' := [_, _, _, _, _, _]) (st' := [_]) (cs := []) rfl trivial ?_
                                     refine aw_if_ge (tgt := 231) eX12_faultOf_226 (by decide) (by omega) (fun h321 => ?_) (fun h321 => ?_)
                                     · first
                                       | (exfalso; omega; done)
                                       | (refine aw_blk oX12_faultOf_231 (pc' := 4) (ls' := [_, _, _, _, _, _]) (st' := []) (cs := []) rfl trivial ?_
                                          exact T _ (by rw [af_5]; (repeat' split) <;> omega) (by decide) _ _ _)
                                     · first
                                       | (exfalso; omega; done)
                                       | (refine aw_blk oX12_faultOf_229 (pc' := 230) (ls' := [_, _, _, _, _, _]) (st' := [_]) (cs := []) rfl trivial ?_
                                          refine aw_iret eX12_faultOf_230 rfl (Nat.le_refl _) (Nat.le_refl _) ?_
                                          exact pe_i (F (by rw [af_5]; (repeat' split) <;> omega)).symm rfl rfl))
                                · first
                                  | (exfalso; omega; done)
                                  | (refine aw_blk oX12_faultOf_163 (pc' := 170) (ls' := [_, _, _, _, _, _]) (st' := [_]) (cs := []) rfl trivial ?_
                                     refine aw_blk oX12_faultOf_170 (pc' := 224) (ls' := [_, _, _, _, _, _]) (st' := []) (cs := []) rfl trivial ?_
                                     refine aw_blk oX12_faultOf_224 (pc' := 226) (ls' := [_, _, _, _, _, _]) (st' := [_]) (cs := []) rfl trivial ?_
                                     refine aw_if_ge (tgt := 231) eX12_faultOf_226 (by decide) (by omega) (fun h322 => ?_) (fun h322 => ?_)
                                     · first
                                       | (exfalso; omega; done)
                                       | (refine aw_blk oX12_faultOf_231 (pc' := 4) (ls' := [_, _, _, _, _, _]) (st' := []) (cs := []) rfl trivial ?_
                                          exact T _ (by rw [af_5]; (repeat' split) <;> omega) (by decide) _ _ _)
                                     · first
                                       | (exfalso; omega; done)
                                       | (refine aw_blk oX12_faultOf_229 (pc' := 230) (ls' := [_, _, _, _, _, _]) (st' := [_]) (cs := []) rfl trivial ?_
                                          refine aw_iret eX12_faultOf_230 rfl (Nat.le_refl _) (Nat.le_refl _) ?_
                                          exact pe_i (F (by rw [af_5]; (repeat' split) <;> omega)).symm rfl rfl))))
                      · first
                        | (exfalso; omega; done)
                        | (refine aw_blk oX12_faultOf_130 (pc' := 132) (ls' := [_, _, _, _, _, _]) (st' := [_, _]) (cs := []) rfl trivial ?_
                           refine aw_icmp_ge (tgt := 141) eX12_faultOf_132 (by decide) (by omega) (by omega) (fun h323 => ?_) (fun h323 => ?_)
                           · first
                             | (exfalso; omega; done)
                             | (refine aw_blk oX12_faultOf_141 (pc' := 143) (ls' := [_, _, _, _, _, _]) (st' := [_]) (cs := []) rfl trivial ?_
                                refine aw_blk oX12_faultOf_143 (pc' := 224) (ls' := [_, _, _, _, _, _]) (st' := []) (cs := []) rfl trivial ?_
                                refine aw_blk oX12_faultOf_224 (pc' := 226) (ls' := [_, _, _, _, _, _]) (st' := [_]) (cs := []) rfl trivial ?_
                                refine aw_if_ge (tgt := 231) eX12_faultOf_226 (by decide) (by omega) (fun h324 => ?_) (fun h324 => ?_)
                                · first
                                  | (exfalso; omega; done)
                                  | (refine aw_blk oX12_faultOf_231 (pc' := 4) (ls' := [_, _, _, _, _, _]) (st' := []) (cs := []) rfl trivial ?_
                                     exact T _ (by rw [af_5]; (repeat' split) <;> omega) (by decide) _ _ _)
                                · first
                                  | (exfalso; omega; done)
                                  | (refine aw_blk oX12_faultOf_229 (pc' := 230) (ls' := [_, _, _, _, _, _]) (st' := [_]) (cs := []) rfl trivial ?_
                                     refine aw_iret eX12_faultOf_230 rfl (Nat.le_refl _) (Nat.le_refl _) ?_
                                     exact pe_i (F (by rw [af_5]; (repeat' split) <;> omega)).symm rfl rfl))
                           · first
                             | (exfalso; omega; done)
                             | (refine aw_blk oX12_faultOf_135 (pc' := 143) (ls' := [_, _, _, _, _, _]) (st' := [_]) (cs := []) rfl trivial ?_
                                refine aw_blk oX12_faultOf_143 (pc' := 224) (ls' := [_, _, _, _, _, _]) (st' := []) (cs := []) rfl trivial ?_
                                refine aw_blk oX12_faultOf_224 (pc' := 226) (ls' := [_, _, _, _, _, _]) (st' := [_]) (cs := []) rfl trivial ?_
                                refine aw_if_ge (tgt := 231) eX12_faultOf_226 (by decide) (by omega) (fun h325 => ?_) (fun h325 => ?_)
                                · first
                                  | (exfalso; omega; done)
                                  | (refine aw_blk oX12_faultOf_231 (pc' := 4) (ls' := [_, _, _, _, _, _]) (st' := []) (cs := []) rfl trivial ?_
                                     exact T _ (by rw [af_5]; (repeat' split) <;> omega) (by decide) _ _ _)
                                · first
                                  | (exfalso; omega; done)
                                  | (refine aw_blk oX12_faultOf_229 (pc' := 230) (ls' := [_, _, _, _, _, _]) (st' := [_]) (cs := []) rfl trivial ?_
                                     refine aw_iret eX12_faultOf_230 rfl (Nat.le_refl _) (Nat.le_refl _) ?_
                                     exact pe_i (F (by rw [af_5]; (repeat' split) <;> omega)).symm rfl rfl)))))
            · first
              | (exfalso; omega; done)
              | (refine aw_blk oX12_faultOf_93 (pc' := 96) (ls' := [_, _, _, _, _, _]) (st' := [_, _]) (cs := []) rfl trivial ?_
                 refine aw_icmp_eq (tgt := 105) eX12_faultOf_96 (by decide) (by omega) (by omega) (fun h326 => ?_) (fun h326 => ?_)
                 · first
                   | (exfalso; omega; done)
                   | (refine aw_blk oX12_faultOf_105 (pc' := 111) (ls' := [_, _, _, _, _, _]) (st' := [_]) (cs := []) rfl trivial ?_
                      refine aw_blk oX12_faultOf_111 (pc' := 224) (ls' := [_, _, _, _, _, _]) (st' := []) (cs := []) rfl trivial ?_
                      refine aw_blk oX12_faultOf_224 (pc' := 226) (ls' := [_, _, _, _, _, _]) (st' := [_]) (cs := []) rfl trivial ?_
                      refine aw_if_ge (tgt := 231) eX12_faultOf_226 (by decide) (by omega) (fun h327 => ?_) (fun h327 => ?_)
                      · first
                        | (exfalso; omega; done)
                        | (refine aw_blk oX12_faultOf_231 (pc' := 4) (ls' := [_, _, _, _, _, _]) (st' := []) (cs := []) rfl trivial ?_
                           exact T _ (by rw [af_5]; (repeat' split) <;> omega) (by decide) _ _ _)
                      · first
                        | (exfalso; omega; done)
                        | (refine aw_blk oX12_faultOf_229 (pc' := 230) (ls' := [_, _, _, _, _, _]) (st' := [_]) (cs := []) rfl trivial ?_
                           refine aw_iret eX12_faultOf_230 rfl (Nat.le_refl _) (Nat.le_refl _) ?_
                           exact pe_i (F (by rw [af_5]; (repeat' split) <;> omega)).symm rfl rfl))
                 · first
                   | (exfalso; omega; done)
                   | (refine aw_blk oX12_faultOf_99 (pc' := 102) (ls' := [_, _, _, _, _, _]) (st' := [_, _]) (cs := []) rfl trivial ?_
                      refine aw_icmp_ne (tgt := 109) eX12_faultOf_102 (by decide) (by omega) (by omega) (fun h328 => ?_) (fun h328 => ?_)
                      · first
                        | (exfalso; omega; done)
                        | (refine aw_blk oX12_faultOf_109 (pc' := 111) (ls' := [_, _, _, _, _, _]) (st' := [_]) (cs := []) rfl trivial ?_
                           refine aw_blk oX12_faultOf_111 (pc' := 224) (ls' := [_, _, _, _, _, _]) (st' := []) (cs := []) rfl trivial ?_
                           refine aw_blk oX12_faultOf_224 (pc' := 226) (ls' := [_, _, _, _, _, _]) (st' := [_]) (cs := []) rfl trivial ?_
                           refine aw_if_ge (tgt := 231) eX12_faultOf_226 (by decide) (by omega) (fun h329 => ?_) (fun h329 => ?_)
                           · first
                             | (exfalso; omega; done)
                             | (refine aw_blk oX12_faultOf_231 (pc' := 4) (ls' := [_, _, _, _, _, _]) (st' := []) (cs := []) rfl trivial ?_
                                exact T _ (by rw [af_5]; (repeat' split) <;> omega) (by decide) _ _ _)
                           · first
                             | (exfalso; omega; done)
                             | (refine aw_blk oX12_faultOf_229 (pc' := 230) (ls' := [_, _, _, _, _, _]) (st' := [_]) (cs := []) rfl trivial ?_
                                refine aw_iret eX12_faultOf_230 rfl (Nat.le_refl _) (Nat.le_refl _) ?_
                                exact pe_i (F (by rw [af_5]; (repeat' split) <;> omega)).symm rfl rfl))
                      · first
                        | (exfalso; omega; done)
                        | (refine aw_blk oX12_faultOf_105 (pc' := 111) (ls' := [_, _, _, _, _, _]) (st' := [_]) (cs := []) rfl trivial ?_
                           refine aw_blk oX12_faultOf_111 (pc' := 224) (ls' := [_, _, _, _, _, _]) (st' := []) (cs := []) rfl trivial ?_
                           refine aw_blk oX12_faultOf_224 (pc' := 226) (ls' := [_, _, _, _, _, _]) (st' := [_]) (cs := []) rfl trivial ?_
                           refine aw_if_ge (tgt := 231) eX12_faultOf_226 (by decide) (by omega) (fun h330 => ?_) (fun h330 => ?_)
                           · first
                             | (exfalso; omega; done)
                             | (refine aw_blk oX12_faultOf_231 (pc' := 4) (ls' := [_, _, _, _, _, _]) (st' := []) (cs := []) rfl trivial ?_
                                exact T _ (by rw [af_5]; (repeat' split) <;> omega) (by decide) _ _ _)
                           · first
                             | (exfalso; omega; done)
                             | (refine aw_blk oX12_faultOf_229 (pc' := 230) (ls' := [_, _, _, _, _, _]) (st' := [_]) (cs := []) rfl trivial ?_
                                refine aw_iret eX12_faultOf_230 rfl (Nat.le_refl _) (Nat.le_refl _) ?_
                                exact pe_i (F (by rw [af_5]; (repeat' split) <;> omega)).symm rfl rfl)))))
       · first
         | (exfalso; omega; done)
         | (refine aw_blk oX12_faultOf_37 (pc' := 40) (ls' := [_, _, _, _, _, _]) (st' := [_, _]) (cs := []) rfl trivial ?_
            refine aw_icmp_eq (tgt := 61) eX12_faultOf_40 (by decide) (by omega) (by omega) (fun h331 => ?_) (fun h331 => ?_)
            · first
              | (exfalso; omega; done)
              | (refine aw_blk oX12_faultOf_61 (pc' := 83) (ls' := [_, _, _, _, _, _]) (st' := [_]) (cs := []) rfl trivial ?_
                 refine aw_blk oX12_faultOf_83 (pc' := 224) (ls' := [_, _, _, _, _, _]) (st' := []) (cs := []) rfl trivial ?_
                 refine aw_blk oX12_faultOf_224 (pc' := 226) (ls' := [_, _, _, _, _, _]) (st' := [_]) (cs := []) rfl trivial ?_
                 refine aw_if_ge (tgt := 231) eX12_faultOf_226 (by decide) (by omega) (fun h332 => ?_) (fun h332 => ?_)
                 · first
                   | (exfalso; omega; done)
                   | (refine aw_blk oX12_faultOf_231 (pc' := 4) (ls' := [_, _, _, _, _, _]) (st' := []) (cs := []) rfl trivial ?_
                      exact T _ (by rw [af_5]; (repeat' split) <;> omega) (by decide) _ _ _)
                 · first
                   | (exfalso; omega; done)
                   | (refine aw_blk oX12_faultOf_229 (pc' := 230) (ls' := [_, _, _, _, _, _]) (st' := [_]) (cs := []) rfl trivial ?_
                      refine aw_iret eX12_faultOf_230 rfl (Nat.le_refl _) (Nat.le_refl _) ?_
                      exact pe_i (F (by rw [af_5]; (repeat' split) <;> omega)).symm rfl rfl))
            · first
              | (exfalso; omega; done)
              | (refine aw_blk oX12_faultOf_43 (pc' := 46) (ls' := [_, _, _, _, _, _]) (st' := [_, _]) (cs := []) rfl trivial ?_
                 refine aw_icmp_eq (tgt := 61) eX12_faultOf_46 (by decide) (by omega) (by omega) (fun h333 => ?_) (fun h333 => ?_)
                 · first
                   | (exfalso; omega; done)
                   | (refine aw_blk oX12_faultOf_61 (pc' := 83) (ls' := [_, _, _, _, _, _]) (st' := [_]) (cs := []) rfl trivial ?_
                      refine aw_blk oX12_faultOf_83 (pc' := 224) (ls' := [_, _, _, _, _, _]) (st' := []) (cs := []) rfl trivial ?_
                      refine aw_blk oX12_faultOf_224 (pc' := 226) (ls' := [_, _, _, _, _, _]) (st' := [_]) (cs := []) rfl trivial ?_
                      refine aw_if_ge (tgt := 231) eX12_faultOf_226 (by decide) (by omega) (fun h334 => ?_) (fun h334 => ?_)
                      · first
                        | (exfalso; omega; done)
                        | (refine aw_blk oX12_faultOf_231 (pc' := 4) (ls' := [_, _, _, _, _, _]) (st' := []) (cs := []) rfl trivial ?_
                           exact T _ (by rw [af_5]; (repeat' split) <;> omega) (by decide) _ _ _)
                      · first
                        | (exfalso; omega; done)
                        | (refine aw_blk oX12_faultOf_229 (pc' := 230) (ls' := [_, _, _, _, _, _]) (st' := [_]) (cs := []) rfl trivial ?_
                           refine aw_iret eX12_faultOf_230 rfl (Nat.le_refl _) (Nat.le_refl _) ?_
                           exact pe_i (F (by rw [af_5]; (repeat' split) <;> omega)).symm rfl rfl))
                 · first
                   | (exfalso; omega; done)
                   | (refine aw_blk oX12_faultOf_49 (pc' := 52) (ls' := [_, _, _, _, _, _]) (st' := [_, _]) (cs := []) rfl trivial ?_
                      refine aw_icmp_eq (tgt := 61) eX12_faultOf_52 (by decide) (by omega) (by omega) (fun h335 => ?_) (fun h335 => ?_)
                      · first
                        | (exfalso; omega; done)
                        | (refine aw_blk oX12_faultOf_61 (pc' := 83) (ls' := [_, _, _, _, _, _]) (st' := [_]) (cs := []) rfl trivial ?_
                           refine aw_blk oX12_faultOf_83 (pc' := 224) (ls' := [_, _, _, _, _, _]) (st' := []) (cs := []) rfl trivial ?_
                           refine aw_blk oX12_faultOf_224 (pc' := 226) (ls' := [_, _, _, _, _, _]) (st' := [_]) (cs := []) rfl trivial ?_
                           refine aw_if_ge (tgt := 231) eX12_faultOf_226 (by decide) (by omega) (fun h336 => ?_) (fun h336 => ?_)
                           · first
                             | (exfalso; omega; done)
                             | (refine aw_blk oX12_faultOf_231 (pc' := 4) (ls' := [_, _, _, _, _, _]) (st' := []) (cs := []) rfl trivial ?_
                                exact T _ (by rw [af_5]; (repeat' split) <;> omega) (by decide) _ _ _)
                           · first
                             | (exfalso; omega; done)
                             | (refine aw_blk oX12_faultOf_229 (pc' := 230) (ls' := [_, _, _, _, _, _]) (st' := [_]) (cs := []) rfl trivial ?_
                                refine aw_iret eX12_faultOf_230 rfl (Nat.le_refl _) (Nat.le_refl _) ?_
                                exact pe_i (F (by rw [af_5]; (repeat' split) <;> omega)).symm rfl rfl))
                      · first
                        | (exfalso; omega; done)
                        | (refine aw_blk oX12_faultOf_55 (pc' := 58) (ls' := [_, _, _, _, _, _]) (st' := [_, _]) (cs := []) rfl trivial ?_
                           refine aw_icmp_ne (tgt := 65) eX12_faultOf_58 (by decide) (by omega) (by omega) (fun h337 => ?_) (fun h337 => ?_)
                           · first
                             | (exfalso; omega; done)
                             | (refine aw_blk oX12_faultOf_65 (pc' := 70) (ls' := [_, _, _, _, _, _]) (st' := [_, _, _]) (cs := []) rfl trivial ?_
                                refine aw_ciS (rest := []) (c_X12_in (by omega) (by omega) (by omega)) kX12_in eX12_faultOf_70 lX12_faultOf_70 rfl rfl (Nat.le_of_ble_eq_true rfl) ⟨Nat.le_of_ble_eq_true rfl, Nat.le_of_ble_eq_true rfl⟩ ⟨Nat.le_refl _, Nat.le_refl _⟩ ?_
                                refine aw_if_eq (tgt := 81) eX12_faultOf_73 (by decide) bt_r (fun hh => have h338 := bt0 hh; ?_) (fun hh => have h338 := bt1 hh; ?_)
                                · first
                                  | (exfalso; omega; done)
                                  | (refine aw_blk oX12_faultOf_81 (pc' := 83) (ls' := [_, _, _, _, _, _]) (st' := [_]) (cs := []) rfl trivial ?_
                                     refine aw_blk oX12_faultOf_83 (pc' := 224) (ls' := [_, _, _, _, _, _]) (st' := []) (cs := []) rfl trivial ?_
                                     refine aw_blk oX12_faultOf_224 (pc' := 226) (ls' := [_, _, _, _, _, _]) (st' := [_]) (cs := []) rfl trivial ?_
                                     refine aw_if_ge (tgt := 231) eX12_faultOf_226 (by decide) (by omega) (fun h339 => ?_) (fun h339 => ?_)
                                     · first
                                       | (exfalso; omega; done)
                                       | (refine aw_blk oX12_faultOf_231 (pc' := 4) (ls' := [_, _, _, _, _, _]) (st' := []) (cs := []) rfl trivial ?_
                                          exact T _ (by rw [af_5]; (repeat' split) <;> omega) (by decide) _ _ _)
                                     · first
                                       | (exfalso; omega; done)
                                       | (refine aw_blk oX12_faultOf_229 (pc' := 230) (ls' := [_, _, _, _, _, _]) (st' := [_]) (cs := []) rfl trivial ?_
                                          refine aw_iret eX12_faultOf_230 rfl (Nat.le_refl _) (Nat.le_refl _) ?_
                                          exact pe_i (F (by rw [af_5]; (repeat' split) <;> omega)).symm rfl rfl))
                                · first
                                  | (exfalso; omega; done)
                                  | (refine aw_blk oX12_faultOf_76 (pc' := 83) (ls' := [_, _, _, _, _, _]) (st' := [_]) (cs := []) rfl trivial ?_
                                     refine aw_blk oX12_faultOf_83 (pc' := 224) (ls' := [_, _, _, _, _, _]) (st' := []) (cs := []) rfl trivial ?_
                                     refine aw_blk oX12_faultOf_224 (pc' := 226) (ls' := [_, _, _, _, _, _]) (st' := [_]) (cs := []) rfl trivial ?_
                                     refine aw_if_ge (tgt := 231) eX12_faultOf_226 (by decide) (by omega) (fun h340 => ?_) (fun h340 => ?_)
                                     · first
                                       | (exfalso; omega; done)
                                       | (refine aw_blk oX12_faultOf_231 (pc' := 4) (ls' := [_, _, _, _, _, _]) (st' := []) (cs := []) rfl trivial ?_
                                          exact T _ (by rw [af_5]; (repeat' split) <;> omega) (by decide) _ _ _)
                                     · first
                                       | (exfalso; omega; done)
                                       | (refine aw_blk oX12_faultOf_229 (pc' := 230) (ls' := [_, _, _, _, _, _]) (st' := [_]) (cs := []) rfl trivial ?_
                                          refine aw_iret eX12_faultOf_230 rfl (Nat.le_refl _) (Nat.le_refl _) ?_
                                          exact pe_i (F (by rw [af_5]; (repeat' split) <;> omega)).symm rfl rfl)))
                           · first
                             | (exfalso; omega; done)
                             | (refine aw_blk oX12_faultOf_61 (pc' := 83) (ls' := [_, _, _, _, _, _]) (st' := [_]) (cs := []) rfl trivial ?_
                                refine aw_blk oX12_faultOf_83 (pc' := 224) (ls' := [_, _, _, _, _, _]) (st' := []) (cs := []) rfl trivial ?_
                                refine aw_blk oX12_faultOf_224 (pc' := 226) (ls' := [_, _, _, _, _, _]) (st' := [_]) (cs := []) rfl trivial ?_
                                refine aw_if_ge (tgt := 231) eX12_faultOf_226 (by decide) (by omega) (fun h341 => ?_) (fun h341 => ?_)
                                · first
                                  | (exfalso; omega; done)
                                  | (refine aw_blk oX12_faultOf_231 (pc' := 4) (ls' := [_, _, _, _, _, _]) (st' := []) (cs := []) rfl trivial ?_
                                     exact T _ (by rw [af_5]; (repeat' split) <;> omega) (by decide) _ _ _)
                                · first
                                  | (exfalso; omega; done)
                                  | (refine aw_blk oX12_faultOf_229 (pc' := 230) (ls' := [_, _, _, _, _, _]) (st' := [_]) (cs := []) rfl trivial ?_
                                     refine aw_iret eX12_faultOf_230 rfl (Nat.le_refl _) (Nat.le_refl _) ?_
                                     exact pe_i (F (by rw [af_5]; (repeat' split) <;> omega)).symm rfl rfl)))))))
theorem s_faultOf_6 {κ : KX} {μ : MM} {ν : ML} {P : Int} {i : Int} {u3 u4 u5 : AV} {N z : Int} (h0 : 0 ≤ i) (h1 : i < N) (a : μ 55 8 = N ∧ 0 ≤ N ∧ N ≤ 40) (g : μ 61 i = z ∧ 0 ≤ z ∧ z ≤ 126) (T : ∀ q : Int, q = af 6 z → q ≠ 9 → ∀ u3 u4 u5 : AV, AX κ mX12_faultOf 1 (PE (some (aI P)) μ ν) 4 [aR 55, aI q, aI (i + 1), u3, u4, u5] [] μ ν) (F : af 6 z = 9 → P = i) : AX κ mX12_faultOf 1 (PE (some (aI P)) μ ν) 4 [aR 55, aI 6, aI i, u3, u4, u5] [] μ ν := by
  have hbt : (48 ≤ μ 61 i ∧ μ 61 i ≤ 57 ∧ bt (μ 61 i) 48 57 = 1) ∨ (¬ (48 ≤ μ 61 i ∧ μ 61 i ≤ 57) ∧ bt (μ 61 i) 48 57 = 0) := by
    unfold bt
    split <;> omega
  refine aw_blk oX12_faultOf_4 (pc' := 9) (ls' := [_, _, _, _, _, _]) (st' := [_, _]) (cs := []) rfl trivial ?_
  refine aw_icmp_ge (tgt := 240) eX12_faultOf_9 (by decide) (by omega) (by omega) (fun h342 => ?_) (fun h342 => ?_)
  · first
    | (exfalso; omega; done)
    | (refine aw_blk oX12_faultOf_240 (pc' := 243) (ls' := [_, _, _, _, _, _]) (st' := [_, _]) (cs := []) rfl trivial ?_
       refine aw_icmp_ne (tgt := 251) eX12_faultOf_243 (by decide) (by omega) (by omega) (fun h343 => ?_) (fun h343 => ?_)
       · first
         | (exfalso; omega; done)
         | (refine aw_blk oX12_faultOf_251 (pc' := 255) (ls' := [_, _, _, _, _, _]) (st' := [_]) (cs := []) rfl trivial ?_
            refine aw_iret eX12_faultOf_255 rfl (Nat.le_refl _) (Nat.le_refl _) ?_
            exact pe_i (F (by rw [af_6]; (repeat' split) <;> omega)).symm rfl rfl)
       · first
         | (exfalso; omega; done)
         | (refine aw_blk oX12_faultOf_246 (pc' := 255) (ls' := [_, _, _, _, _, _]) (st' := [_]) (cs := []) rfl trivial ?_
            refine aw_iret eX12_faultOf_255 rfl (Nat.le_refl _) (Nat.le_refl _) ?_
            exact pe_i (F (by rw [af_6]; (repeat' split) <;> omega)).symm rfl rfl))
  · first
    | (exfalso; omega; done)
    | (refine aw_blk oX12_faultOf_12 (pc' := 28) (ls' := [_, _, _, _, _, _]) (st' := [_, _, _]) (cs := [(_, _)]) rfl (⟨⟨by omega, by omega⟩, trivial⟩) ?_
       refine aw_ciS (rest := []) (c_X12_in (by omega) (by omega) (by omega)) kX12_in eX12_faultOf_28 lX12_faultOf_28 rfl rfl (Nat.le_of_ble_eq_true rfl) ⟨Nat.le_of_ble_eq_true rfl, Nat.le_of_ble_eq_true rfl⟩ ⟨Nat.le_refl _, Nat.le_refl _⟩ ?_
       refine aw_blk oX12_faultOf_31 (pc' := 34) (ls' := [_, _, _, _, _, _]) (st' := [_]) (cs := []) rfl trivial ?_
       refine aw_if_ne (tgt := 88) eX12_faultOf_34 (by decide) (by omega) (fun h344 => ?_) (fun h344 => ?_)
       · first
         | (exfalso; omega; done)
         | (refine aw_blk oX12_faultOf_88 (pc' := 90) (ls' := [_, _, _, _, _, _]) (st' := [_, _]) (cs := []) rfl trivial ?_
            refine aw_icmp_ne (tgt := 116) eX12_faultOf_90 (by decide) (by omega) (by omega) (fun h345 => ?_) (fun h345 => ?_)
            · first
              | (exfalso; omega; done)
              | (refine aw_blk oX12_faultOf_116 (pc' := 119) (ls' := [_, _, _, _, _, _]) (st' := [_, _, _]) (cs := []) rfl trivial ?_
                 refine aw_ciS (rest := []) (c_X12_in (by omega) (by omega) (by omega)) kX12_in eX12_faultOf_119 lX12_faultOf_119 rfl rfl (Nat.le_of_ble_eq_true rfl) ⟨Nat.le_of_ble_eq_true rfl, Nat.le_of_ble_eq_true rfl⟩ ⟨Nat.le_refl _, Nat.le_refl _⟩ ?_
                 refine aw_if_eq (tgt := 148) eX12_faultOf_122 (by decide) bt_r (fun hh => have h346 := bt0 hh; ?_) (fun hh => have h346 := bt1 hh; ?_)
                 · first
                   | (exfalso; omega; done)
                   | (refine aw_blk oX12_faultOf_148 (pc' := 151) (ls' := [_, _, _, _, _, _]) (st' := [_, _, _]) (cs := []) rfl trivial ?_
                      refine aw_ciS (rest := []) (c_X12_in (by omega) (by omega) (by omega)) kX12_in eX12_faultOf_151 lX12_faultOf_151 rfl rfl (Nat.le_of_ble_eq_true rfl) ⟨Nat.le_of_ble_eq_true rfl, Nat.le_of_ble_eq_true rfl⟩ ⟨Nat.le_refl _, Nat.le_refl _⟩ ?_
                      refine aw_if_eq (tgt := 175) eX12_faultOf_154 (by decide) bt_r (fun hh => have h347 := bt0 hh; ?_) (fun hh => have h347 := bt1 hh; ?_)
                      · first
                        | (exfalso; omega; done)
                        | (refine aw_blk oX12_faultOf_175 (pc' := 178) (ls' := [_, _, _, _, _, _]) (st' := [_, _]) (cs := []) rfl trivial ?_
                           refine aw_icmp_ne (tgt := 204) eX12_faultOf_178 (by decide) (by omega) (by omega) (fun h348 => ?_) (fun h348 => ?_)
                           · first
                             | (exfalso; omega; done)
                             | (refine aw_blk oX12_faultOf_204 (pc' := 207) (ls' := [_, _, _, _, _, _]) (st' := [_, _]) (cs := []) rfl trivial ?_
                                refine aw_icmp_ne (tgt := 224) eX12_faultOf_207 (by decide) (by omega) (by omega) (fun h349 => ?_) (fun h349 => ?_)
                                · first
                                  | (exfalso; omega; done)
                                  | (refine aw_blk oX12_faultOf_224 (pc' := 226) (ls' := [_, _, _, _, _, _]) (st' := [_]) (cs := []) rfl trivial ?_
                                     refine aw_if_ge (tgt := 231) eX12_faultOf_226 (by decide) (by omega) (fun h350 => ?_) (fun h350 => ?_)
                                     · first
                                       | (exfalso; omega; done)
                                       | (refine aw_blk oX12_faultOf_231 (pc' := 4) (ls' := [_, _, _, _, _, _]) (st' := []) (cs := []) rfl trivial ?_
                                          exact T _ (by rw [af_6]; (repeat' split) <;> omega) (by decide) _ _ _)
                                     · first
                                       | (exfalso; omega; done)
                                       | (refine aw_blk oX12_faultOf_229 (pc' := 230) (ls' := [_, _, _, _, _, _]) (st' := [_]) (cs := []) rfl trivial ?_
                                          refine aw_iret eX12_faultOf_230 rfl (Nat.le_refl _) (Nat.le_refl _) ?_
                                          exact pe_i (F (by rw [af_6]; (repeat' split) <;> omega)).symm rfl rfl))
                                · first
                                  | (exfalso; omega; done)
                                  | (refine aw_blk oX12_faultOf_210 (pc' := 213) (ls' := [_, _, _, _, _, _]) (st' := [_, _]) (cs := []) rfl trivial ?_
                                     refine aw_icmp_ne (tgt := 220) eX12_faultOf_213 (by decide) (by omega) (by omega) (fun h351 => ?_) (fun h351 => ?_)
                                     · first
                                       | (exfalso; omega; done)
                                       | (refine aw_blk oX12_faultOf_220 (pc' := 222) (ls' := [_, _, _, _, _, _]) (st' := [_]) (cs := []) rfl trivial ?_
                                          refine aw_blk oX12_faultOf_222 (pc' := 224) (ls' := [_, _, _, _, _, _]) (st' := []) (cs := []) rfl trivial ?_
                                          refine aw_blk oX12_faultOf_224 (pc' := 226) (ls' := [_, _, _, _, _, _]) (st' := [_]) (cs := []) rfl trivial ?_
                                          refine aw_if_ge (tgt := 231) eX12_faultOf_226 (by decide) (by omega) (fun h352 => ?_) (fun h352 => ?_)
                                          · first
                                            | (exfalso; omega; done)
                                            | (refine aw_blk oX12_faultOf_231 (pc' := 4) (ls' := [_, _, _, _, _, _]) (st' := []) (cs := []) rfl trivial ?_
                                               exact T _ (by rw [af_6]; (repeat' split) <;> omega) (by decide) _ _ _)
                                          · first
                                            | (exfalso; omega; done)
                                            | (refine aw_blk oX12_faultOf_229 (pc' := 230) (ls' := [_, _, _, _, _, _]) (st' := [_]) (cs := []) rfl trivial ?_
                                               refine aw_iret eX12_faultOf_230 rfl (Nat.le_refl _) (Nat.le_refl _) ?_
                                               exact pe_i (F (by rw [af_6]; (repeat' split) <;> omega)).symm rfl rfl))
                                     · first
                                       | (exfalso; omega; done)
                                       | (refine aw_blk oX12_faultOf_216 (pc' := 222) (ls' := [_, _, _, _, _, _]) (st' := [_]) (cs := []) rfl trivial ?_
                                          refine aw_blk oX12_faultOf_222 (pc' := 224) (ls' := [_, _, _, _, _, _]) (st' := []) (cs := []) rfl trivial ?_
                                          refine aw_blk oX12_faultOf_224 (pc' := 226) (ls' := [_, _, _, _, _, _]) (st' := [_]) (cs := []) rfl trivial ?_
                                          refine aw_if_ge (tgt := 231) eX12_faultOf_226 (by decide) (by omega) (fun h353 => ?_) (fun h353 => ?_)
                                          · first
                                            | (exfalso; omega; done)
                                            | (refine aw_blk oX12_faultOf_231 (pc' := 4) (ls' := [_, _, _, _, _, _]) (st' := []) (cs := []) rfl trivial ?_
                                               exact T _ (by rw [af_6]; (repeat' split) <;> omega) (by decide) _ _ _)
                                          · first
                                            | (exfalso; omega; done)
                                            | (refine aw_blk oX12_faultOf_229 (pc' := 230) (ls' := [_, _, _, _, _, _]) (st' := [_]) (cs := []) rfl trivial ?_
                                               refine aw_iret eX12_faultOf_230 rfl (Nat.le_refl _) (Nat.le_refl _) ?_
                                               exact pe_i (F (by rw [af_6]; (repeat' split) <;> omega)).symm rfl rfl))))
                           · first
                             | (exfalso; omega; done)
                             | (refine aw_blk oX12_faultOf_181 (pc' := 186) (ls' := [_, _, _, _, _, _]) (st' := [_, _, _]) (cs := []) rfl trivial ?_
                                refine aw_ciS (rest := []) (c_X12_in (by omega) (by omega) (by omega)) kX12_in eX12_faultOf_186 lX12_faultOf_186 rfl rfl (Nat.le_of_ble_eq_true rfl) ⟨Nat.le_of_ble_eq_true rfl, Nat.le_of_ble_eq_true rfl⟩ ⟨Nat.le_refl _, Nat.le_refl _⟩ ?_
                                refine aw_if_eq (tgt := 197) eX12_faultOf_189 (by decide) bt_r (fun hh => have h354 := bt0 hh; ?_) (fun hh => have h354 := bt1 hh; ?_)
                                · first
                                  | (exfalso; omega; done)
                                  | (refine aw_blk oX12_faultOf_197 (pc' := 199) (ls' := [_, _, _, _, _, _]) (st' := [_]) (cs := []) rfl trivial ?_
                                     refine aw_blk oX12_faultOf_199 (pc' := 224) (ls' := [_, _, _, _, _, _]) (st' := []) (cs := []) rfl trivial ?_
                                     refine aw_blk oX12_faultOf_224 (pc' := 226) (ls' := [_, _, _, _, _, _]) (st' := [_]) (cs := []) rfl trivial ?_
                                     refine aw_if_ge (tgt := 231) eX12_faultOf_226 (by decide) (by omega) (fun h355 => ?_) (fun h355 => ?_)
                                     · first
                                       | (exfalso; omega; done)
                                       | (refine aw_blk oX12_faultOf_231 (pc' := 4) (ls' := [_, _, _, _, _, _]) (st' := []) (cs := []) rfl trivial ?_
                                          exact T _ (by rw [af_6]; (repeat' split) <;> omega) (by decide) _ _ _)
                                     · first
                                       | (exfalso; omega; done)
                                       | (refine aw_blk oX12_faultOf_229 (pc' := 230) (ls' := [_, _, _, _, _, _]) (st' := [_]) (cs := []) rfl trivial ?_
                                          refine aw_iret eX12_faultOf_230 rfl (Nat.le_refl _) (Nat.le_refl _) ?_
                                          exact pe_i (F (by rw [af_6]; (repeat' split) <;> omega)).symm rfl rfl))
                                · first
                                  | (exfalso; omega; done)
                                  | (refine aw_blk oX12_faultOf_192 (pc' := 199) (ls' := [_, _, _, _, _, _]) (st' := [_]) (cs := []) rfl trivial ?_
                                     refine aw_blk oX12_faultOf_199 (pc' := 224) (ls' := [_, _, _, _, _, _]) (st' := []) (cs := []) rfl trivial ?_
                                     refine aw_blk oX12_faultOf_224 (pc' := 226) (ls' := [_, _, _, _, _, _]) (st' := [_]) (cs := []) rfl trivial ?_
                                     refine aw_if_ge (tgt := 231) eX12_faultOf_226 (by decide) (by omega) (fun h356 => ?_) (fun h356 => ?_)
                                     · first
                                       | (exfalso; omega; done)
                                       | (refine aw_blk oX12_faultOf_231 (pc' := 4) (ls' := [_, _, _, _, _, _]) (st' := []) (cs := []) rfl trivial ?_
                                          exact T _ (by rw [af_6]; (repeat' split) <;> omega) (by decide) _ _ _)
                                     · first
                                       | (exfalso; omega; done)
                                       | (refine aw_blk oX12_faultOf_229 (pc' := 230) (ls' := [_, _, _, _, _, _]) (st' := [_]) (cs := []) rfl trivial ?_
                                          refine aw_iret eX12_faultOf_230 rfl (Nat.le_refl _) (Nat.le_refl _) ?_
                                          exact pe_i (F (by rw [af_6]; (repeat' split) <;> omega)).symm rfl rfl))))
                      · first
                        | (exfalso; omega; done)
                        | (refine aw_blk oX12_faultOf_157 (pc' := 160) (ls' := [_, _, _, _, _, _]) (st' := [_, _]) (cs := []) rfl trivial ?_
                           refine aw_icmp_ne (tgt := 168) eX12_faultOf_160 (by decide) (by omega) (by omega) (fun h357 => ?_) (fun h357 => ?_)
                           · first
                             | (exfalso; omega; done)
                             | (refine aw_blk oX12_faultOf_168 (pc' := 170) (ls' := [_, _, _, _, _, _]) (st' := [_]) (cs := []) rfl trivial ?_
                                refine aw_blk oX12_faultOf_170 (pc' := 224) (ls' := [_, _, _, _, _, _]) (st' := []) (cs := []) rfl trivial ?_
                                refine aw_blk oX12_faultOf_224 (pc' := 226) (ls' := [_, _, _, _, _, _]) (st' := [_]) (cs := []) rfl trivial ?_
                                refine aw_if_ge (tgt := 231) eX12_faultOf_226 (by decide) (by omega) (fun h358 => ?_) (fun h358 => ?_)
                                · first
                                  | (exfalso; omega; done)
                                  | (refine aw_blk oX12_faultOf_231 (pc' := 4) (ls' := [_, _, _, _, _, _]) (st' := []) (cs := []) rfl trivial ?_
                                     exact T _ (by rw [af_6]; (repeat' split) <;> omega) (by decide) _ _ _)
                                · first
                                  | (exfalso; omega; done)
                                  | (refine aw_blk oX12_faultOf_229 (pc' := 230) (ls' := [_, _, _, _, _, _]) (st' := [_]) (cs := []) rfl trivial ?_
                                     refine aw_iret eX12_faultOf_230 rfl (Nat.le_refl _) (Nat.le_refl _) ?_
                                     exact pe_i (F (by rw [af_6]; (repeat' split) <;> omega)).symm rfl rfl))
                           · first
                             | (exfalso; omega; done)
                             | (refine aw_blk oX12_faultOf_163 (pc' := 170) (ls' := [_, _, _, _, _, _]) (st' := [_]) (cs := []) rfl trivial ?_
                                refine aw_blk oX12_faultOf_170 (pc' := 224) (ls' := [_, _, _, _, _, _]) (st' := []) (cs := []) rfl trivial ?_
                                refine aw_blk oX12_faultOf_224 (pc' := 226) (ls' := [_, _, _, _, _, _]) (st' := [_]) (cs := []) rfl trivial ?_
                                refine aw_if_ge (tgt := 231) eX12_faultOf_226 (by decide) (by omega) (fun h359 => ?_) (fun h359 => ?_)
                                · first
                                  | (exfalso; omega; done)
                                  | (refine aw_blk oX12_faultOf_231 (pc' := 4) (ls' := [_, _, _, _, _, _]) (st' := []) (cs := []) rfl trivial ?_
                                     exact T _ (by rw [af_6]; (repeat' split) <;> omega) (by decide) _ _ _)
                                · first
                                  | (exfalso; omega; done)
                                  | (refine aw_blk oX12_faultOf_229 (pc' := 230) (ls' := [_, _, _, _, _, _]) (st' := [_]) (cs := []) rfl trivial ?_
                                     refine aw_iret eX12_faultOf_230 rfl (Nat.le_refl _) (Nat.le_refl _) ?_
                                     exact pe_i (F (by rw [af_6]; (repeat' split) <;> omega)).symm rfl rfl))))
                 · first
                   | (exfalso; omega; done)
                   | (refine aw_blk oX12_faultOf_125 (pc' := 127) (ls' := [_, _, _, _, _, _]) (st' := [_]) (cs := []) rfl trivial ?_
                      refine aw_if_eq (tgt := 148) eX12_faultOf_127 (by decide) (by omega) (fun h360 => ?_) (fun h360 => ?_)
                      · first
                        | (exfalso; omega; done)
                        | (refine aw_blk oX12_faultOf_148 (pc' := 151) (ls' := [_, _, _, _, _, _]) (st' := [_, _, _]) (cs := []) rfl trivial ?_
                           refine aw_ciS (rest := []) (c_X12_in (by omega) (by omega) (by omega)) kX12_in eX12_faultOf_151 lX12_faultOf_151 rfl rfl (Nat.le_of_ble_eq_true rfl) ⟨Nat.le_of_ble_eq_true rfl, Nat.le_of_ble_eq_true rfl⟩ ⟨Nat.le_refl _, Nat.le_refl _⟩ ?_
                           refine aw_if_eq (tgt := 175) eX12_faultOf_154 (by decide) bt_r (fun hh => have h361 := bt0 hh; ?_) (fun hh => have h361 := bt1 hh; ?_)
                           · first
                             | (exfalso; omega; done)
                             | (refine aw_blk oX12_faultOf_175 (pc' := 178) (ls' := [_, _, _, _, _, _]) (st' := [_, _]) (cs := []) rfl trivial ?_
                                refine aw_icmp_ne (tgt := 204) eX12_faultOf_178 (by decide) (by omega) (by omega) (fun h362 => ?_) (fun h362 => ?_)
                                · first
                                  | (exfalso; omega; done)
                                  | (refine aw_blk oX12_faultOf_204 (pc' := 207) (ls' := [_, _, _, _, _, _]) (st' := [_, _]) (cs := []) rfl trivial ?_
                                     refine aw_icmp_ne (tgt := 224) eX12_faultOf_207 (by decide) (by omega) (by omega) (fun h363 => ?_) (fun h363 => ?_)
                                     · first
                                       | (exfalso; omega; done)
                                       | (refine aw_blk oX12_faultOf_224 (pc' := 226) (ls' := [_, _, _, _, _, _]) (st' := [_]) (cs := []) rfl trivial ?_
                                          refine aw_if_ge (tgt := 231) eX12_faultOf_226 (by decide) (by omega) (fun h364 => ?_) (fun h364 => ?_)
                                          · first
                                            | (exfalso; omega; done)
                                            | (refine aw_blk oX12_faultOf_231 (pc' := 4) (ls' := [_, _, _, _, _, _]) (st' := []) (cs := []) rfl trivial ?_
                                               exact T _ (by rw [af_6]; (repeat' split) <;> omega) (by decide) _ _ _)
                                          · first
                                            | (exfalso; omega; done)
                                            | (refine aw_blk oX12_faultOf_229 (pc' := 230) (ls' := [_, _, _, _, _, _]) (st' := [_]) (cs := []) rfl trivial ?_
                                               refine aw_iret eX12_faultOf_230 rfl (Nat.le_refl _) (Nat.le_refl _) ?_
                                               exact pe_i (F (by rw [af_6]; (repeat' split) <;> omega)).symm rfl rfl))
                                     · first
                                       | (exfalso; omega; done)
                                       | (refine aw_blk oX12_faultOf_210 (pc' := 213) (ls' := [_, _, _, _, _, _]) (st' := [_, _]) (cs := []) rfl trivial ?_
                                          refine aw_icmp_ne (tgt := 220) eX12_faultOf_213 (by decide) (by omega) (by omega) (fun h365 => ?_) (fun h365 => ?_)
                                          · first
                                            | (exfalso; omega; done)
                                            | (refine aw_blk oX12_faultOf_220 (pc' := 222) (ls' := [_, _, _, _, _, _]) (st' := [_]) (cs := []) rfl trivial ?_
                                               refine aw_blk oX12_faultOf_222 (pc' := 224) (ls' := [_, _, _, _, _, _]) (st' := []) (cs := []) rfl trivial ?_
                                               refine aw_blk oX12_faultOf_224 (pc' := 226) (ls' := [_, _, _, _, _, _]) (st' := [_]) (cs := []) rfl trivial ?_
                                               refine aw_if_ge (tgt := 231) eX12_faultOf_226 (by decide) (by omega) (fun h366 => ?_) (fun h366 => ?_)
                                               · first
                                                 | (exfalso; omega; done)
                                                 | (refine aw_blk oX12_faultOf_231 (pc' := 4) (ls' := [_, _, _, _, _, _]) (st' := []) (cs := []) rfl trivial ?_
                                                    exact T _ (by rw [af_6]; (repeat' split) <;> omega) (by decide) _ _ _)
                                               · first
                                                 | (exfalso; omega; done)
                                                 | (refine aw_blk oX12_faultOf_229 (pc' := 230) (ls' := [_, _, _, _, _, _]) (st' := [_]) (cs := []) rfl trivial ?_
                                                    refine aw_iret eX12_faultOf_230 rfl (Nat.le_refl _) (Nat.le_refl _) ?_
                                                    exact pe_i (F (by rw [af_6]; (repeat' split) <;> omega)).symm rfl rfl))
                                          · first
                                            | (exfalso; omega; done)
                                            | (refine aw_blk oX12_faultOf_216 (pc' := 222) (ls' := [_, _, _, _, _, _]) (st' := [_]) (cs := []) rfl trivial ?_
                                               refine aw_blk oX12_faultOf_222 (pc' := 224) (ls' := [_, _, _, _, _, _]) (st' := []) (cs := []) rfl trivial ?_
                                               refine aw_blk oX12_faultOf_224 (pc' := 226) (ls' := [_, _, _, _, _, _]) (st' := [_]) (cs := []) rfl trivial ?_
                                               refine aw_if_ge (tgt := 231) eX12_faultOf_226 (by decide) (by omega) (fun h367 => ?_) (fun h367 => ?_)
                                               · first
                                                 | (exfalso; omega; done)
                                                 | (refine aw_blk oX12_faultOf_231 (pc' := 4) (ls' := [_, _, _, _, _, _]) (st' := []) (cs := []) rfl trivial ?_
                                                    exact T _ (by rw [af_6]; (repeat' split) <;> omega) (by decide) _ _ _)
                                               · first
                                                 | (exfalso; omega; done)
                                                 | (refine aw_blk oX12_faultOf_229 (pc' := 230) (ls' := [_, _, _, _, _, _]) (st' := [_]) (cs := []) rfl trivial ?_
                                                    refine aw_iret eX12_faultOf_230 rfl (Nat.le_refl _) (Nat.le_refl _) ?_
                                                    exact pe_i (F (by rw [af_6]; (repeat' split) <;> omega)).symm rfl rfl))))
                                · first
                                  | (exfalso; omega; done)
                                  | (refine aw_blk oX12_faultOf_181 (pc' := 186) (ls' := [_, _, _, _, _, _]) (st' := [_, _, _]) (cs := []) rfl trivial ?_
                                     refine aw_ciS (rest := []) (c_X12_in (by omega) (by omega) (by omega)) kX12_in eX12_faultOf_186 lX12_faultOf_186 rfl rfl (Nat.le_of_ble_eq_true rfl) ⟨Nat.le_of_ble_eq_true rfl, Nat.le_of_ble_eq_true rfl⟩ ⟨Nat.le_refl _, Nat.le_refl _⟩ ?_
                                     refine aw_if_eq (tgt := 197) eX12_faultOf_189 (by decide) bt_r (fun hh => have h368 := bt0 hh; ?_) (fun hh => have h368 := bt1 hh; ?_)
                                     · first
                                       | (exfalso; omega; done)
                                       | (refine aw_blk oX12_faultOf_197 (pc' := 199) (ls' := [_, _, _, _, _, _]) (st' := [_]) (cs := []) rfl trivial ?_
                                          refine aw_blk oX12_faultOf_199 (pc' := 224) (ls' := [_, _, _, _, _, _]) (st' := []) (cs := []) rfl trivial ?_
                                          refine aw_blk oX12_faultOf_224 (pc' := 226) (ls' := [_, _, _, _, _, _]) (st' := [_]) (cs := []) rfl trivial ?_
                                          refine aw_if_ge (tgt := 231) eX12_faultOf_226 (by decide) (by omega) (fun h369 => ?_) (fun h369 => ?_)
                                          · first
                                            | (exfalso; omega; done)
                                            | (refine aw_blk oX12_faultOf_231 (pc' := 4) (ls' := [_, _, _, _, _, _]) (st' := []) (cs := []) rfl trivial ?_
                                               exact T _ (by rw [af_6]; (repeat' split) <;> omega) (by decide) _ _ _)
                                          · first
                                            | (exfalso; omega; done)
                                            | (refine aw_blk oX12_faultOf_229 (pc' := 230) (ls' := [_, _, _, _, _, _]) (st' := [_]) (cs := []) rfl trivial ?_
                                               refine aw_iret eX12_faultOf_230 rfl (Nat.le_refl _) (Nat.le_refl _) ?_
                                               exact pe_i (F (by rw [af_6]; (repeat' split) <;> omega)).symm rfl rfl))
                                     · first
                                       | (exfalso; omega; done)
                                       | (refine aw_blk oX12_faultOf_192 (pc' := 199) (ls' := [_, _, _, _, _, _]) (st' := [_]) (cs := []) rfl trivial ?_
                                          refine aw_blk oX12_faultOf_199 (pc' := 224) (ls' := [_, _, _, _, _, _]) (st' := []) (cs := []) rfl trivial ?_
                                          refine aw_blk oX12_faultOf_224 (pc' := 226) (ls' := [_, _, _, _, _, _]) (st' := [_]) (cs := []) rfl trivial ?_
                                          refine aw_if_ge (tgt := 231) eX12_faultOf_226 (by decide) (by omega) (fun h370 => ?_) (fun h370 => ?_)
                                          · first
                                            | (exfalso; omega; done)
                                            | (refine aw_blk oX12_faultOf_231 (pc' := 4) (ls' := [_, _, _, _, _, _]) (st' := []) (cs := []) rfl trivial ?_
                                               exact T _ (by rw [af_6]; (repeat' split) <;> omega) (by decide) _ _ _)
                                          · first
                                            | (exfalso; omega; done)
                                            | (refine aw_blk oX12_faultOf_229 (pc' := 230) (ls' := [_, _, _, _, _, _]) (st' := [_]) (cs := []) rfl trivial ?_
                                               refine aw_iret eX12_faultOf_230 rfl (Nat.le_refl _) (Nat.le_refl _) ?_
                                               exact pe_i (F (by rw [af_6]; (repeat' split) <;> omega)).symm rfl rfl))))
                           · first
                             | (exfalso; omega; done)
                             | (refine aw_blk oX12_faultOf_157 (pc' := 160) (ls' := [_, _, _, _, _, _]) (st' := [_, _]) (cs := []) rfl trivial ?_
                                refine aw_icmp_ne (tgt := 168) eX12_faultOf_160 (by decide) (by omega) (by omega) (fun h371 => ?_) (fun h371 => ?_)
                                · first
                                  | (exfalso; omega; done)
                                  | (refine aw_blk oX12_faultOf_168 (pc' := 170) (ls' := [_, _, _, _, _, _]) (st' := [_]) (cs := []) rfl trivial ?_
                                     refine aw_blk oX12_faultOf_170 (pc' := 224) (ls' := [_, _, _, _, _, _]) (st' := []) (cs := []) rfl trivial ?_
                                     refine aw_blk oX12_faultOf_224 (pc' := 226) (ls' := [_, _, _, _, _, _]) (st' := [_]) (cs := []) rfl trivial ?_
                                     refine aw_if_ge (tgt := 231) eX12_faultOf_226 (by decide) (by omega) (fun h372 => ?_) (fun h372 => ?_)
                                     · first
                                       | (exfalso; omega; done)
                                       | (refine aw_blk oX12_faultOf_231 (pc' := 4) (ls' := [_, _, _, _, _, _]) (st' := []) (cs := []) rfl trivial ?_
                                          exact T _ (by rw [af_6]; (repeat' split) <;> omega) (by decide) _ _ _)
                                     · first
                                       | (exfalso; omega; done)
                                       | (refine aw_blk oX12_faultOf_229 (pc' := 230) (ls' := [_, _, _, _, _, _]) (st' := [_]) (cs := []) rfl trivial ?_
                                          refine aw_iret eX12_faultOf_230 rfl (Nat.le_refl _) (Nat.le_refl _) ?_
                                          exact pe_i (F (by rw [af_6]; (repeat' split) <;> omega)).symm rfl rfl))
                                · first
                                  | (exfalso; omega; done)
                                  | (refine aw_blk oX12_faultOf_163 (pc' := 170) (ls' := [_, _, _, _, _, _]) (st' := [_]) (cs := []) rfl trivial ?_
                                     refine aw_blk oX12_faultOf_170 (pc' := 224) (ls' := [_, _, _, _, _, _]) (st' := []) (cs := []) rfl trivial ?_
                                     refine aw_blk oX12_faultOf_224 (pc' := 226) (ls' := [_, _, _, _, _, _]) (st' := [_]) (cs := []) rfl trivial ?_
                                     refine aw_if_ge (tgt := 231) eX12_faultOf_226 (by decide) (by omega) (fun h373 => ?_) (fun h373 => ?_)
                                     · first
                                       | (exfalso; omega; done)
                                       | (refine aw_blk oX12_faultOf_231 (pc' := 4) (ls' := [_, _, _, _, _, _]) (st' := []) (cs := []) rfl trivial ?_
                                          exact T _ (by rw [af_6]; (repeat' split) <;> omega) (by decide) _ _ _)
                                     · first
                                       | (exfalso; omega; done)
                                       | (refine aw_blk oX12_faultOf_229 (pc' := 230) (ls' := [_, _, _, _, _, _]) (st' := [_]) (cs := []) rfl trivial ?_
                                          refine aw_iret eX12_faultOf_230 rfl (Nat.le_refl _) (Nat.le_refl _) ?_
                                          exact pe_i (F (by rw [af_6]; (repeat' split) <;> omega)).symm rfl rfl))))
                      · first
                        | (exfalso; omega; done)
                        | (refine aw_blk oX12_faultOf_130 (pc' := 132) (ls' := [_, _, _, _, _, _]) (st' := [_, _]) (cs := []) rfl trivial ?_
                           refine aw_icmp_ge (tgt := 141) eX12_faultOf_132 (by decide) (by omega) (by omega) (fun h374 => ?_) (fun h374 => ?_)
                           · first
                             | (exfalso; omega; done)
                             | (refine aw_blk oX12_faultOf_141 (pc' := 143) (ls' := [_, _, _, _, _, _]) (st' := [_]) (cs := []) rfl trivial ?_
                                refine aw_blk oX12_faultOf_143 (pc' := 224) (ls' := [_, _, _, _, _, _]) (st' := []) (cs := []) rfl trivial ?_
                                refine aw_blk oX12_faultOf_224 (pc' := 226) (ls' := [_, _, _, _, _, _]) (st' := [_]) (cs := []) rfl trivial ?_
                                refine aw_if_ge (tgt := 231) eX12_faultOf_226 (by decide) (by omega) (fun h375 => ?_) (fun h375 => ?_)
                                · first
                                  | (exfalso; omega; done)
                                  | (refine aw_blk oX12_faultOf_231 (pc' := 4) (ls' := [_, _, _, _, _, _]) (st' := []) (cs := []) rfl trivial ?_
                                     exact T _ (by rw [af_6]; (repeat' split) <;> omega) (by decide) _ _ _)
                                · first
                                  | (exfalso; omega; done)
                                  | (refine aw_blk oX12_faultOf_229 (pc' := 230) (ls' := [_, _, _, _, _, _]) (st' := [_]) (cs := []) rfl trivial ?_
                                     refine aw_iret eX12_faultOf_230 rfl (Nat.le_refl _) (Nat.le_refl _) ?_
                                     exact pe_i (F (by rw [af_6]; (repeat' split) <;> omega)).symm rfl rfl))
                           · first
                             | (exfalso; omega; done)
                             | (refine aw_blk oX12_faultOf_135 (pc' := 143) (ls' := [_, _, _, _, _, _]) (st' := [_]) (cs := []) rfl trivial ?_
                                refine aw_blk oX12_faultOf_143 (pc' := 224) (ls' := [_, _, _, _, _, _]) (st' := []) (cs := []) rfl trivial ?_
                                refine aw_blk oX12_faultOf_224 (pc' := 226) (ls' := [_, _, _, _, _, _]) (st' := [_]) (cs := []) rfl trivial ?_
                                refine aw_if_ge (tgt := 231) eX12_faultOf_226 (by decide) (by omega) (fun h376 => ?_) (fun h376 => ?_)
                                · first
                                  | (exfalso; omega; done)
                                  | (refine aw_blk oX12_faultOf_231 (pc' := 4) (ls' := [_, _, _, _, _, _]) (st' := []) (cs := []) rfl trivial ?_
                                     exact T _ (by rw [af_6]; (repeat' split) <;> omega) (by decide) _ _ _)
                                · first
                                  | (exfalso; omega; done)
                                  | (refine aw_blk oX12_faultOf_229 (pc' := 230) (ls' := [_, _, _, _, _, _]) (st' := [_]) (cs := []) rfl trivial ?_
                                     refine aw_iret eX12_faultOf_230 rfl (Nat.le_refl _) (Nat.le_refl _) ?_
                                     exact pe_i (F (by rw [af_6]; (repeat' split) <;> omega)).symm rfl rfl)))))
            · first
              | (exfalso; omega; done)
              | (refine aw_blk oX12_faultOf_93 (pc' := 96) (ls' := [_, _, _, _, _, _]) (st' := [_, _]) (cs := []) rfl trivial ?_
                 refine aw_icmp_eq (tgt := 105) eX12_faultOf_96 (by decide) (by omega) (by omega) (fun h377 => ?_) (fun h377 => ?_)
                 · first
                   | (exfalso; omega; done)
                   | (refine aw_blk oX12_faultOf_105 (pc' := 111) (ls' := [_, _, _, _, _, _]) (st' := [_]) (cs := []) rfl trivial ?_
                      refine aw_blk oX12_faultOf_111 (pc' := 224) (ls' := [_, _, _, _, _, _]) (st' := []) (cs := []) rfl trivial ?_
                      refine aw_blk oX12_faultOf_224 (pc' := 226) (ls' := [_, _, _, _, _, _]) (st' := [_]) (cs := []) rfl trivial ?_
                      refine aw_if_ge (tgt := 231) eX12_faultOf_226 (by decide) (by omega) (fun h378 => ?_) (fun h378 => ?_)
                      · first
                        | (exfalso; omega; done)
                        | (refine aw_blk oX12_faultOf_231 (pc' := 4) (ls' := [_, _, _, _, _, _]) (st' := []) (cs := []) rfl trivial ?_
                           exact T _ (by rw [af_6]; (repeat' split) <;> omega) (by decide) _ _ _)
                      · first
                        | (exfalso; omega; done)
                        | (refine aw_blk oX12_faultOf_229 (pc' := 230) (ls' := [_, _, _, _, _, _]) (st' := [_]) (cs := []) rfl trivial ?_
                           refine aw_iret eX12_faultOf_230 rfl (Nat.le_refl _) (Nat.le_refl _) ?_
                           exact pe_i (F (by rw [af_6]; (repeat' split) <;> omega)).symm rfl rfl))
                 · first
                   | (exfalso; omega; done)
                   | (refine aw_blk oX12_faultOf_99 (pc' := 102) (ls' := [_, _, _, _, _, _]) (st' := [_, _]) (cs := []) rfl trivial ?_
                      refine aw_icmp_ne (tgt := 109) eX12_faultOf_102 (by decide) (by omega) (by omega) (fun h379 => ?_) (fun h379 => ?_)
                      · first
                        | (exfalso; omega; done)
                        | (refine aw_blk oX12_faultOf_109 (pc' := 111) (ls' := [_, _, _, _, _, _]) (st' := [_]) (cs := []) rfl trivial ?_
                           refine aw_blk oX12_faultOf_111 (pc' := 224) (ls' := [_, _, _, _, _, _]) (st' := []) (cs := []) rfl trivial ?_
                           refine aw_blk oX12_faultOf_224 (pc' := 226) (ls' := [_, _, _, _, _, _]) (st' := [_]) (cs := []) rfl trivial ?_
                           refine aw_if_ge (tgt := 231) eX12_faultOf_226 (by decide) (by omega) (fun h380 => ?_) (fun h380 => ?_)
                           · first
                             | (exfalso; omega; done)
                             | (refine aw_blk oX12_faultOf_231 (pc' := 4) (ls' := [_, _, _, _, _, _]) (st' := []) (cs := []) rfl trivial ?_
                                exact T _ (by rw [af_6]; (repeat' split) <;> omega) (by decide) _ _ _)
                           · first
                             | (exfalso; omega; done)
                             | (refine aw_blk oX12_faultOf_229 (pc' := 230) (ls' := [_, _, _, _, _, _]) (st' := [_]) (cs := []) rfl trivial ?_
                                refine aw_iret eX12_faultOf_230 rfl (Nat.le_refl _) (Nat.le_refl _) ?_
                                exact pe_i (F (by rw [af_6]; (repeat' split) <;> omega)).symm rfl rfl))
                      · first
                        | (exfalso; omega; done)
                        | (refine aw_blk oX12_faultOf_105 (pc' := 111) (ls' := [_, _, _, _, _, _]) (st' := [_]) (cs := []) rfl trivial ?_
                           refine aw_blk oX12_faultOf_111 (pc' := 224) (ls' := [_, _, _, _, _, _]) (st' := []) (cs := []) rfl trivial ?_
                           refine aw_blk oX12_faultOf_224 (pc' := 226) (ls' := [_, _, _, _, _, _]) (st' := [_]) (cs := []) rfl trivial ?_
                           refine aw_if_ge (tgt := 231) eX12_faultOf_226 (by decide) (by omega) (fun h381 => ?_) (fun h381 => ?_)
                           · first
                             | (exfalso; omega; done)
                             | (refine aw_blk oX12_faultOf_231 (pc' := 4) (ls' := [_, _, _, _, _, _]) (st' := []) (cs := []) rfl trivial ?_
                                exact T _ (by rw [af_6]; (repeat' split) <;> omega) (by decide) _ _ _)
                           · first
                             | (exfalso; omega; done)
                             | (refine aw_blk oX12_faultOf_229 (pc' := 230) (ls' := [_, _, _, _, _, _]) (st' := [_]) (cs := []) rfl trivial ?_
                                refine aw_iret eX12_faultOf_230 rfl (Nat.le_refl _) (Nat.le_refl _) ?_
                                exact pe_i (F (by rw [af_6]; (repeat' split) <;> omega)).symm rfl rfl)))))
       · first
         | (exfalso; omega; done)
         | (refine aw_blk oX12_faultOf_37 (pc' := 40) (ls' := [_, _, _, _, _, _]) (st' := [_, _]) (cs := []) rfl trivial ?_
            refine aw_icmp_eq (tgt := 61) eX12_faultOf_40 (by decide) (by omega) (by omega) (fun h382 => ?_) (fun h382 => ?_)
            · first
              | (exfalso; omega; done)
              | (refine aw_blk oX12_faultOf_61 (pc' := 83) (ls' := [_, _, _, _, _, _]) (st' := [_]) (cs := []) rfl trivial ?_
                 refine aw_blk oX12_faultOf_83 (pc' := 224) (ls' := [_, _, _, _, _, _]) (st' := []) (cs := []) rfl trivial ?_
                 refine aw_blk oX12_faultOf_224 (pc' := 226) (ls' := [_, _, _, _, _, _]) (st' := [_]) (cs := []) rfl trivial ?_
                 refine aw_if_ge (tgt := 231) eX12_faultOf_226 (by decide) (by omega) (fun h383 => ?_) (fun h383 => ?_)
                 · first
                   | (exfalso; omega; done)
                   | (refine aw_blk oX12_faultOf_231 (pc' := 4) (ls' := [_, _, _, _, _, _]) (st' := []) (cs := []) rfl trivial ?_
                      exact T _ (by rw [af_6]; (repeat' split) <;> omega) (by decide) _ _ _)
                 · first
                   | (exfalso; omega; done)
                   | (refine aw_blk oX12_faultOf_229 (pc' := 230) (ls' := [_, _, _, _, _, _]) (st' := [_]) (cs := []) rfl trivial ?_
                      refine aw_iret eX12_faultOf_230 rfl (Nat.le_refl _) (Nat.le_refl _) ?_
                      exact pe_i (F (by rw [af_6]; (repeat' split) <;> omega)).symm rfl rfl))
            · first
              | (exfalso; omega; done)
              | (refine aw_blk oX12_faultOf_43 (pc' := 46) (ls' := [_, _, _, _, _, _]) (st' := [_, _]) (cs := []) rfl trivial ?_
                 refine aw_icmp_eq (tgt := 61) eX12_faultOf_46 (by decide) (by omega) (by omega) (fun h384 => ?_) (fun h384 => ?_)
                 · first
                   | (exfalso; omega; done)
                   | (refine aw_blk oX12_faultOf_61 (pc' := 83) (ls' := [_, _, _, _, _, _]) (st' := [_]) (cs := []) rfl trivial ?_
                      refine aw_blk oX12_faultOf_83 (pc' := 224) (ls' := [_, _, _, _, _, _]) (st' := []) (cs := []) rfl trivial ?_
                      refine aw_blk oX12_faultOf_224 (pc' := 226) (ls' := [_, _, _, _, _, _]) (st' := [_]) (cs := []) rfl trivial ?_
                      refine aw_if_ge (tgt := 231) eX12_faultOf_226 (by decide) (by omega) (fun h385 => ?_) (fun h385 => ?_)
                      · first
                        | (exfalso; omega; done)
                        | (refine aw_blk oX12_faultOf_231 (pc' := 4) (ls' := [_, _, _, _, _, _]) (st' := []) (cs := []) rfl trivial ?_
                           exact T _ (by rw [af_6]; (repeat' split) <;> omega) (by decide) _ _ _)
                      · first
                        | (exfalso; omega; done)
                        | (refine aw_blk oX12_faultOf_229 (pc' := 230) (ls' := [_, _, _, _, _, _]) (st' := [_]) (cs := []) rfl trivial ?_
                           refine aw_iret eX12_faultOf_230 rfl (Nat.le_refl _) (Nat.le_refl _) ?_
                           exact pe_i (F (by rw [af_6]; (repeat' split) <;> omega)).symm rfl rfl))
                 · first
                   | (exfalso; omega; done)
                   | (refine aw_blk oX12_faultOf_49 (pc' := 52) (ls' := [_, _, _, _, _, _]) (st' := [_, _]) (cs := []) rfl trivial ?_
                      refine aw_icmp_eq (tgt := 61) eX12_faultOf_52 (by decide) (by omega) (by omega) (fun h386 => ?_) (fun h386 => ?_)
                      · first
                        | (exfalso; omega; done)
                        | (refine aw_blk oX12_faultOf_61 (pc' := 83) (ls' := [_, _, _, _, _, _]) (st' := [_]) (cs := []) rfl trivial ?_
                           refine aw_blk oX12_faultOf_83 (pc' := 224) (ls' := [_, _, _, _, _, _]) (st' := []) (cs := []) rfl trivial ?_
                           refine aw_blk oX12_faultOf_224 (pc' := 226) (ls' := [_, _, _, _, _, _]) (st' := [_]) (cs := []) rfl trivial ?_
                           refine aw_if_ge (tgt := 231) eX12_faultOf_226 (by decide) (by omega) (fun h387 => ?_) (fun h387 => ?_)
                           · first
                             | (exfalso; omega; done)
                             | (refine aw_blk oX12_faultOf_231 (pc' := 4) (ls' := [_, _, _, _, _, _]) (st' := []) (cs := []) rfl trivial ?_
                                exact T _ (by rw [af_6]; (repeat' split) <;> omega) (by decide) _ _ _)
                           · first
                             | (exfalso; omega; done)
                             | (refine aw_blk oX12_faultOf_229 (pc' := 230) (ls' := [_, _, _, _, _, _]) (st' := [_]) (cs := []) rfl trivial ?_
                                refine aw_iret eX12_faultOf_230 rfl (Nat.le_refl _) (Nat.le_refl _) ?_
                                exact pe_i (F (by rw [af_6]; (repeat' split) <;> omega)).symm rfl rfl))
                      · first
                        | (exfalso; omega; done)
                        | (refine aw_blk oX12_faultOf_55 (pc' := 58) (ls' := [_, _, _, _, _, _]) (st' := [_, _]) (cs := []) rfl trivial ?_
                           refine aw_icmp_ne (tgt := 65) eX12_faultOf_58 (by decide) (by omega) (by omega) (fun h388 => ?_) (fun h388 => ?_)
                           · first
                             | (exfalso; omega; done)
                             | (refine aw_blk oX12_faultOf_65 (pc' := 70) (ls' := [_, _, _, _, _, _]) (st' := [_, _, _]) (cs := []) rfl trivial ?_
                                refine aw_ciS (rest := []) (c_X12_in (by omega) (by omega) (by omega)) kX12_in eX12_faultOf_70 lX12_faultOf_70 rfl rfl (Nat.le_of_ble_eq_true rfl) ⟨Nat.le_of_ble_eq_true rfl, Nat.le_of_ble_eq_true rfl⟩ ⟨Nat.le_refl _, Nat.le_refl _⟩ ?_
                                refine aw_if_eq (tgt := 81) eX12_faultOf_73 (by decide) bt_r (fun hh => have h389 := bt0 hh; ?_) (fun hh => have h389 := bt1 hh; ?_)
                                · first
                                  | (exfalso; omega; done)
                                  | (refine aw_blk oX12_faultOf_81 (pc' := 83) (ls' := [_, _, _, _, _, _]) (st' := [_]) (cs := []) rfl trivial ?_
                                     refine aw_blk oX12_faultOf_83 (pc' := 224) (ls' := [_, _, _, _, _, _]) (st' := []) (cs := []) rfl trivial ?_
                                     refine aw_blk oX12_faultOf_224 (pc' := 226) (ls' := [_, _, _, _, _, _]) (st' := [_]) (cs := []) rfl trivial ?_
                                     refine aw_if_ge (tgt := 231) eX12_faultOf_226 (by decide) (by omega) (fun h390 => ?_) (fun h390 => ?_)
                                     · first
                                       | (exfalso; omega; done)
                                       | (refine aw_blk oX12_faultOf_231 (pc' := 4) (ls' := [_, _, _, _, _, _]) (st' := []) (cs := []) rfl trivial ?_
                                          exact T _ (by rw [af_6]; (repeat' split) <;> omega) (by decide) _ _ _)
                                     · first
                                       | (exfalso; omega; done)
                                       | (refine aw_blk oX12_faultOf_229 (pc' := 230) (ls' := [_, _, _, _, _, _]) (st' := [_]) (cs := []) rfl trivial ?_
                                          refine aw_iret eX12_faultOf_230 rfl (Nat.le_refl _) (Nat.le_refl _) ?_
                                          exact pe_i (F (by rw [af_6]; (repeat' split) <;> omega)).symm rfl rfl))
                                · first
                                  | (exfalso; omega; done)
                                  | (refine aw_blk oX12_faultOf_76 (pc' := 83) (ls' := [_, _, _, _, _, _]) (st' := [_]) (cs := []) rfl trivial ?_
                                     refine aw_blk oX12_faultOf_83 (pc' := 224) (ls' := [_, _, _, _, _, _]) (st' := []) (cs := []) rfl trivial ?_
                                     refine aw_blk oX12_faultOf_224 (pc' := 226) (ls' := [_, _, _, _, _, _]) (st' := [_]) (cs := []) rfl trivial ?_
                                     refine aw_if_ge (tgt := 231) eX12_faultOf_226 (by decide) (by omega) (fun h391 => ?_) (fun h391 => ?_)
                                     · first
                                       | (exfalso; omega; done)
                                       | (refine aw_blk oX12_faultOf_231 (pc' := 4) (ls' := [_, _, _, _, _, _]) (st' := []) (cs := []) rfl trivial ?_
                                          exact T _ (by rw [af_6]; (repeat' split) <;> omega) (by decide) _ _ _)
                                     · first
                                       | (exfalso; omega; done)
                                       | (refine aw_blk oX12_faultOf_229 (pc' := 230) (ls' := [_, _, _, _, _, _]) (st' := [_]) (cs := []) rfl trivial ?_
                                          refine aw_iret eX12_faultOf_230 rfl (Nat.le_refl _) (Nat.le_refl _) ?_
                                          exact pe_i (F (by rw [af_6]; (repeat' split) <;> omega)).symm rfl rfl)))
                           · first
                             | (exfalso; omega; done)
                             | (refine aw_blk oX12_faultOf_61 (pc' := 83) (ls' := [_, _, _, _, _, _]) (st' := [_]) (cs := []) rfl trivial ?_
                                refine aw_blk oX12_faultOf_83 (pc' := 224) (ls' := [_, _, _, _, _, _]) (st' := []) (cs := []) rfl trivial ?_
                                refine aw_blk oX12_faultOf_224 (pc' := 226) (ls' := [_, _, _, _, _, _]) (st' := [_]) (cs := []) rfl trivial ?_
                                refine aw_if_ge (tgt := 231) eX12_faultOf_226 (by decide) (by omega) (fun h392 => ?_) (fun h392 => ?_)
                                · first
                                  | (exfalso; omega; done)
                                  | (refine aw_blk oX12_faultOf_231 (pc' := 4) (ls' := [_, _, _, _, _, _]) (st' := []) (cs := []) rfl trivial ?_
                                     exact T _ (by rw [af_6]; (repeat' split) <;> omega) (by decide) _ _ _)
                                · first
                                  | (exfalso; omega; done)
                                  | (refine aw_blk oX12_faultOf_229 (pc' := 230) (ls' := [_, _, _, _, _, _]) (st' := [_]) (cs := []) rfl trivial ?_
                                     refine aw_iret eX12_faultOf_230 rfl (Nat.le_refl _) (Nat.le_refl _) ?_
                                     exact pe_i (F (by rw [af_6]; (repeat' split) <;> omega)).symm rfl rfl)))))))
theorem s_faultOf_7 {κ : KX} {μ : MM} {ν : ML} {P : Int} {i : Int} {u3 u4 u5 : AV} {N z : Int} (h0 : 0 ≤ i) (h1 : i < N) (a : μ 55 8 = N ∧ 0 ≤ N ∧ N ≤ 40) (g : μ 61 i = z ∧ 0 ≤ z ∧ z ≤ 126) (T : ∀ q : Int, q = af 7 z → q ≠ 9 → ∀ u3 u4 u5 : AV, AX κ mX12_faultOf 1 (PE (some (aI P)) μ ν) 4 [aR 55, aI q, aI (i + 1), u3, u4, u5] [] μ ν) (F : af 7 z = 9 → P = i) : AX κ mX12_faultOf 1 (PE (some (aI P)) μ ν) 4 [aR 55, aI 7, aI i, u3, u4, u5] [] μ ν := by
  have hbt : (48 ≤ μ 61 i ∧ μ 61 i ≤ 57 ∧ bt (μ 61 i) 48 57 = 1) ∨ (¬ (48 ≤ μ 61 i ∧ μ 61 i ≤ 57) ∧ bt (μ 61 i) 48 57 = 0) := by
    unfold bt
    split <;> omega
  refine aw_blk oX12_faultOf_4 (pc' := 9) (ls' := [_, _, _, _, _, _]) (st' := [_, _]) (cs := []) rfl trivial ?_
  refine aw_icmp_ge (tgt := 240) eX12_faultOf_9 (by decide) (by omega) (by omega) (fun h393 => ?_) (fun h393 => ?_)
  · first
    | (exfalso; omega; done)
    | (refine aw_blk oX12_faultOf_240 (pc' := 243) (ls' := [_, _, _, _, _, _]) (st' := [_, _]) (cs := []) rfl trivial ?_
       refine aw_icmp_ne (tgt := 251) eX12_faultOf_243 (by decide) (by omega) (by omega) (fun h394 => ?_) (fun h394 => ?_)
       · first
         | (exfalso; omega; done)
         | (refine aw_blk oX12_faultOf_251 (pc' := 255) (ls' := [_, _, _, _, _, _]) (st' := [_]) (cs := []) rfl trivial ?_
            refine aw_iret eX12_faultOf_255 rfl (Nat.le_refl _) (Nat.le_refl _) ?_
            exact pe_i (F (by rw [af_7]; (repeat' split) <;> omega)).symm rfl rfl)
       · first
         | (exfalso; omega; done)
         | (refine aw_blk oX12_faultOf_246 (pc' := 255) (ls' := [_, _, _, _, _, _]) (st' := [_]) (cs := []) rfl trivial ?_
            refine aw_iret eX12_faultOf_255 rfl (Nat.le_refl _) (Nat.le_refl _) ?_
            exact pe_i (F (by rw [af_7]; (repeat' split) <;> omega)).symm rfl rfl))
  · first
    | (exfalso; omega; done)
    | (refine aw_blk oX12_faultOf_12 (pc' := 28) (ls' := [_, _, _, _, _, _]) (st' := [_, _, _]) (cs := [(_, _)]) rfl (⟨⟨by omega, by omega⟩, trivial⟩) ?_
       refine aw_ciS (rest := []) (c_X12_in (by omega) (by omega) (by omega)) kX12_in eX12_faultOf_28 lX12_faultOf_28 rfl rfl (Nat.le_of_ble_eq_true rfl) ⟨Nat.le_of_ble_eq_true rfl, Nat.le_of_ble_eq_true rfl⟩ ⟨Nat.le_refl _, Nat.le_refl _⟩ ?_
       refine aw_blk oX12_faultOf_31 (pc' := 34) (ls' := [_, _, _, _, _, _]) (st' := [_]) (cs := []) rfl trivial ?_
       refine aw_if_ne (tgt := 88) eX12_faultOf_34 (by decide) (by omega) (fun h395 => ?_) (fun h395 => ?_)
       · first
         | (exfalso; omega; done)
         | (refine aw_blk oX12_faultOf_88 (pc' := 90) (ls' := [_, _, _, _, _, _]) (st' := [_, _]) (cs := []) rfl trivial ?_
            refine aw_icmp_ne (tgt := 116) eX12_faultOf_90 (by decide) (by omega) (by omega) (fun h396 => ?_) (fun h396 => ?_)
            · first
              | (exfalso; omega; done)
              | (refine aw_blk oX12_faultOf_116 (pc' := 119) (ls' := [_, _, _, _, _, _]) (st' := [_, _, _]) (cs := []) rfl trivial ?_
                 refine aw_ciS (rest := []) (c_X12_in (by omega) (by omega) (by omega)) kX12_in eX12_faultOf_119 lX12_faultOf_119 rfl rfl (Nat.le_of_ble_eq_true rfl) ⟨Nat.le_of_ble_eq_true rfl, Nat.le_of_ble_eq_true rfl⟩ ⟨Nat.le_refl _, Nat.le_refl _⟩ ?_
                 refine aw_if_eq (tgt := 148) eX12_faultOf_122 (by decide) bt_r (fun hh => have h397 := bt0 hh; ?_) (fun hh => have h397 := bt1 hh; ?_)
                 · first
                   | (exfalso; omega; done)
                   | (refine aw_blk oX12_faultOf_148 (pc' := 151) (ls' := [_, _, _, _, _, _]) (st' := [_, _, _]) (cs := []) rfl trivial ?_
                      refine aw_ciS (rest := []) (c_X12_in (by omega) (by omega) (by omega)) kX12_in eX12_faultOf_151 lX12_faultOf_151 rfl rfl (Nat.le_of_ble_eq_true rfl) ⟨Nat.le_of_ble_eq_true rfl, Nat.le_of_ble_eq_true rfl⟩ ⟨Nat.le_refl _, Nat.le_refl _⟩ ?_
                      refine aw_if_eq (tgt := 175) eX12_faultOf_154 (by decide) bt_r (fun hh => have h398 := bt0 hh; ?_) (fun hh => have h398 := bt1 hh; ?_)
                      · first
                        | (exfalso; omega; done)
                        | (refine aw_blk oX12_faultOf_175 (pc' := 178) (ls' := [_, _, _, _, _, _]) (st' := [_, _]) (cs := []) rfl trivial ?_
                           refine aw_icmp_ne (tgt := 204) eX12_faultOf_178 (by decide) (by omega) (by omega) (fun h399 => ?_) (fun h399 => ?_)
                           · first
                             | (exfalso; omega; done)
                             | (refine aw_blk oX12_faultOf_204 (pc' := 207) (ls' := [_, _, _, _, _, _]) (st' := [_, _]) (cs := []) rfl trivial ?_
                                refine aw_icmp_ne (tgt := 224) eX12_faultOf_207 (by decide) (by omega) (by omega) (fun h400 => ?_) (fun h400 => ?_)
                                · first
                                  | (exfalso; omega; done)
                                  | (refine aw_blk oX12_faultOf_224 (pc' := 226) (ls' := [_, _, _, _, _, _]) (st' := [_]) (cs := []) rfl trivial ?_
                                     refine aw_if_ge (tgt := 231) eX12_faultOf_226 (by decide) (by omega) (fun h401 => ?_) (fun h401 => ?_)
                                     · first
                                       | (exfalso; omega; done)
                                       | (refine aw_blk oX12_faultOf_231 (pc' := 4) (ls' := [_, _, _, _, _, _]) (st' := []) (cs := []) rfl trivial ?_
                                          exact T _ (by rw [af_7]; (repeat' split) <;> omega) (by decide) _ _ _)
                                     · first
                                       | (exfalso; omega; done)
                                       | (refine aw_blk oX12_faultOf_229 (pc' := 230) (ls' := [_, _, _, _, _, _]) (st' := [_]) (cs := []) rfl trivial ?_
                                          refine aw_iret eX12_faultOf_230 rfl (Nat.le_refl _) (Nat.le_refl _) ?_
                                          exact pe_i (F (by rw [af_7]; (repeat' split) <;> omega)).symm rfl rfl))
                                · first
                                  | (exfalso; omega; done)
                                  | (refine aw_blk oX12_faultOf_210 (pc' := 213) (ls' := [_, _, _, _, _, _]) (st' := [_, _]) (cs := []) rfl trivial ?_
                                     refine aw_icmp_ne (tgt := 220) eX12_faultOf_213 (by decide) (by omega) (by omega) (fun h402 => ?_) (fun h402 => ?_)
                                     · first
                                       | (exfalso; omega; done)
                                       | (refine aw_blk oX12_faultOf_220 (pc' := 222) (ls' := [_, _, _, _, _, _]) (st' := [_]) (cs := []) rfl trivial ?_
                                          refine aw_blk oX12_faultOf_222 (pc' := 224) (ls' := [_, _, _, _, _, _]) (st' := []) (cs := []) rfl trivial ?_
                                          refine aw_blk oX12_faultOf_224 (pc' := 226) (ls' := [_, _, _, _, _, _]) (st' := [_]) (cs := []) rfl trivial ?_
                                          refine aw_if_ge (tgt := 231) eX12_faultOf_226 (by decide) (by omega) (fun h403 => ?_) (fun h403 => ?_)
                                          · first
                                            | (exfalso; omega; done)
                                            | (refine aw_blk oX12_faultOf_231 (pc' := 4) (ls' := [_, _, _, _, _, _]) (st' := []) (cs := []) rfl trivial ?_
                                               exact T _ (by rw [af_7]; (repeat' split) <;> omega) (by decide) _ _ _)
                                          · first
                                            | (exfalso; omega; done)
                                            | (refine aw_blk oX12_faultOf_229 (pc' := 230) (ls' := [_, _, _, _, _, _]) (st' := [_]) (cs := []) rfl trivial ?_
                                               refine aw_iret eX12_faultOf_230 rfl (Nat.le_refl _) (Nat.le_refl _) ?_
                                               exact pe_i (F (by rw [af_7]; (repeat' split) <;> omega)).symm rfl rfl))
                                     · first
                                       | (exfalso; omega; done)
                                       | (refine aw_blk oX12_faultOf_216 (pc' := 222) (ls' := [_, _, _, _, _, _]) (st' := [_]) (cs := []) rfl trivial ?_
                                          refine aw_blk oX12_faultOf_222 (pc' := 224) (ls' := [_, _, _, _, _, _]) (st' := []) (cs := []) rfl trivial ?_
                                          refine aw_blk oX12_faultOf_224 (pc' := 226) (ls' := [_, _, _, _, _, _]) (st' := [_]) (cs := []) rfl trivial ?_
                                          refine aw_if_ge (tgt := 231) eX12_faultOf_226 (by decide) (by omega) (fun h404 => ?_) (fun h404 => ?_)
                                          · first
                                            | (exfalso; omega; done)
                                            | (refine aw_blk oX12_faultOf_231 (pc' := 4) (ls' := [_, _, _, _, _, _]) (st' := []) (cs := []) rfl trivial ?_
                                               exact T _ (by rw [af_7]; (repeat' split) <;> omega) (by decide) _ _ _)
                                          · first
                                            | (exfalso; omega; done)
                                            | (refine aw_blk oX12_faultOf_229 (pc' := 230) (ls' := [_, _, _, _, _, _]) (st' := [_]) (cs := []) rfl trivial ?_
                                               refine aw_iret eX12_faultOf_230 rfl (Nat.le_refl _) (Nat.le_refl _) ?_
                                               exact pe_i (F (by rw [af_7]; (repeat' split) <;> omega)).symm rfl rfl))))
                           · first
                             | (exfalso; omega; done)
                             | (refine aw_blk oX12_faultOf_181 (pc' := 186) (ls' := [_, _, _, _, _, _]) (st' := [_, _, _]) (cs := []) rfl trivial ?_
                                refine aw_ciS (rest := []) (c_X12_in (by omega) (by omega) (by omega)) kX12_in eX12_faultOf_186 lX12_faultOf_186 rfl rfl (Nat.le_of_ble_eq_true rfl) ⟨Nat.le_of_ble_eq_true rfl, Nat.le_of_ble_eq_true rfl⟩ ⟨Nat.le_refl _, Nat.le_refl _⟩ ?_
                                refine aw_if_eq (tgt := 197) eX12_faultOf_189 (by decide) bt_r (fun hh => have h405 := bt0 hh; ?_) (fun hh => have h405 := bt1 hh; ?_)
                                · first
                                  | (exfalso; omega; done)
                                  | (refine aw_blk oX12_faultOf_197 (pc' := 199) (ls' := [_, _, _, _, _, _]) (st' := [_]) (cs := []) rfl trivial ?_
                                     refine aw_blk oX12_faultOf_199 (pc' := 224) (ls' := [_, _, _, _, _, _]) (st' := []) (cs := []) rfl trivial ?_
                                     refine aw_blk oX12_faultOf_224 (pc' := 226) (ls' := [_, _, _, _, _, _]) (st' := [_]) (cs := []) rfl trivial ?_
                                     refine aw_if_ge (tgt := 231) eX12_faultOf_226 (by decide) (by omega) (fun h406 => ?_) (fun h406 => ?_)
                                     · first
                                       | (exfalso; omega; done)
                                       | (refine aw_blk oX12_faultOf_231 (pc' := 4) (ls' := [_, _, _, _, _, _]) (st' := []) (cs := []) rfl trivial ?_
                                          exact T _ (by rw [af_7]; (repeat' split) <;> omega) (by decide) _ _ _)
                                     · first
                                       | (exfalso; omega; done)
                                       | (refine aw_blk oX12_faultOf_229 (pc' := 230) (ls' := [_, _, _, _, _, _]) (st' := [_]) (cs := []) rfl trivial ?_
                                          refine aw_iret eX12_faultOf_230 rfl (Nat.le_refl _) (Nat.le_refl _) ?_
                                          exact pe_i (F (by rw [af_7]; (repeat' split) <;> omega)).symm rfl rfl))
                                · first
                                  | (exfalso; omega; done)
                                  | (refine aw_blk oX12_faultOf_192 (pc' := 199) (ls' := [_, _, _, _, _, _]) (st' := [_]) (cs := []) rfl trivial ?_
                                     refine aw_blk oX12_faultOf_199 (pc' := 224) (ls' := [_, _, _, _, _, _]) (st' := []) (cs := []) rfl trivial ?_
                                     refine aw_blk oX12_faultOf_224 (pc' := 226) (ls' := [_, _, _, _, _, _]) (st' := [_]) (cs := []) rfl trivial ?_
                                     refine aw_if_ge (tgt := 231) eX12_faultOf_226 (by decide) (by omega) (fun h407 => ?_) (fun h407 => ?_)
                                     · first
                                       | (exfalso; omega; done)
                                       | (refine aw_blk oX12_faultOf_231 (pc' := 4) (ls' := [_, _, _, _, _, _]) (st' := []) (cs := []) rfl trivial ?_
                                          exact T _ (by rw [af_7]; (repeat' split) <;> omega) (by decide) _ _ _)
                                     · first
                                       | (exfalso; omega; done)
                                       | (refine aw_blk oX12_faultOf_229 (pc' := 230) (ls' := [_, _, _, _, _, _]) (st' := [_]) (cs := []) rfl trivial ?_
                                          refine aw_iret eX12_faultOf_230 rfl (Nat.le_refl _) (Nat.le_refl _) ?_
                                          exact pe_i (F (by rw [af_7]; (repeat' split) <;> omega)).symm rfl rfl))))
                      · first
                        | (exfalso; omega; done)
                        | (refine aw_blk oX12_faultOf_157 (pc' := 160) (ls' := [_, _, _, _, _, _]) (st' := [_, _]) (cs := []) rfl trivial ?_
                           refine aw_icmp_ne (tgt := 168) eX12_faultOf_160 (by decide) (by omega) (by omega) (fun h408 => ?_) (fun h408 => ?_)
                           · first
                             | (exfalso; omega; done)
                             | (refine aw_blk oX12_faultOf_168 (pc' := 170) (ls' := [_, _, _, _, _, _]) (st' := [_]) (cs := []) rfl trivial ?_
                                refine aw_blk oX12_faultOf_170 (pc' := 224) (ls' := [_, _, _, _, _, _]) (st' := []) (cs := []) rfl trivial ?_
                                refine aw_blk oX12_faultOf_224 (pc' := 226) (ls' := [_, _, _, _, _, _]) (st' := [_]) (cs := []) rfl trivial ?_
                                refine aw_if_ge (tgt := 231) eX12_faultOf_226 (by decide) (by omega) (fun h409 => ?_) (fun h409 => ?_)
                                · first
                                  | (exfalso; omega; done)
                                  | (refine aw_blk oX12_faultOf_231 (pc' := 4) (ls' := [_, _, _, _, _, _]) (st' := []) (cs := []) rfl trivial ?_
                                     exact T _ (by rw [af_7]; (repeat' split) <;> omega) (by decide) _ _ _)
                                · first
                                  | (exfalso; omega; done)
                                  | (refine aw_blk oX12_faultOf_229 (pc' := 230) (ls' := [_, _, _, _, _, _]) (st' := [_]) (cs := []) rfl trivial ?_
                                     refine aw_iret eX12_faultOf_230 rfl (Nat.le_refl _) (Nat.le_refl _) ?_
                                     exact pe_i (F (by rw [af_7]; (repeat' split) <;> omega)).symm rfl rfl))
                           · first
                             | (exfalso; omega; done)
                             | (refine aw_blk oX12_faultOf_163 (pc' := 170) (ls' := [_, _, _, _, _, _]) (st' := [_]) (cs := []) rfl trivial ?_
                                refine aw_blk oX12_faultOf_170 (pc' := 224) (ls' := [_, _, _, _, _, _]) (st' := []) (cs := []) rfl trivial ?_
                                refine aw_blk oX12_faultOf_224 (pc' := 226) (ls' := [_, _, _, _, _, _]) (st' := [_]) (cs := []) rfl trivial ?_
                                refine aw_if_ge (tgt := 231) eX12_faultOf_226 (by decide) (by omega) (fun h410 => ?_) (fun h410 => ?_)
                                · first
                                  | (exfalso; omega; done)
                                  | (refine aw_blk oX12_faultOf_231 (pc' := 4) (ls' := [_, _, _, _, _, _]) (st' := []) (cs := []) rfl trivial ?_
                                     exact T _ (by rw [af_7]; (repeat' split) <;> omega) (by decide) _ _ _)
                                · first
                                  | (exfalso; omega; done)
                                  | (refine aw_blk oX12_faultOf_229 (pc' := 230) (ls' := [_, _, _, _, _, _]) (st' := [_]) (cs := []) rfl trivial ?_
                                     refine aw_iret eX12_faultOf_230 rfl (Nat.le_refl _) (Nat.le_refl _) ?_
                                     exact pe_i (F (by rw [af_7]; (repeat' split) <;> omega)).symm rfl rfl))))
                 · first
                   | (exfalso; omega; done)
                   | (refine aw_blk oX12_faultOf_125 (pc' := 127) (ls' := [_, _, _, _, _, _]) (st' := [_]) (cs := []) rfl trivial ?_
                      refine aw_if_eq (tgt := 148) eX12_faultOf_127 (by decide) (by omega) (fun h411 => ?_) (fun h411 => ?_)
                      · first
                        | (exfalso; omega; done)
                        | (refine aw_blk oX12_faultOf_148 (pc' := 151) (ls' := [_, _, _, _, _, _]) (st' := [_, _, _]) (cs := []) rfl trivial ?_
                           refine aw_ciS (rest := []) (c_X12_in (by omega) (by omega) (by omega)) kX12_in eX12_faultOf_151 lX12_faultOf_151 rfl rfl (Nat.le_of_ble_eq_true rfl) ⟨Nat.le_of_ble_eq_true rfl, Nat.le_of_ble_eq_true rfl⟩ ⟨Nat.le_refl _, Nat.le_refl _⟩ ?_
                           refine aw_if_eq (tgt := 175) eX12_faultOf_154 (by decide) bt_r (fun hh => have h412 := bt0 hh; ?_) (fun hh => have h412 := bt1 hh; ?_)
                           · first
                             | (exfalso; omega; done)
                             | (refine aw_blk oX12_faultOf_175 (pc' := 178) (ls' := [_, _, _, _, _, _]) (st' := [_, _]) (cs := []) rfl trivial ?_
                                refine aw_icmp_ne (tgt := 204) eX12_faultOf_178 (by decide) (by omega) (by omega) (fun h413 => ?_) (fun h413 => ?_)
                                · first
                                  | (exfalso; omega; done)
                                  | (refine aw_blk oX12_faultOf_204 (pc' := 207) (ls' := [_, _, _, _, _, _]) (st' := [_, _]) (cs := []) rfl trivial ?_
                                     refine aw_icmp_ne (tgt := 224) eX12_faultOf_207 (by decide) (by omega) (by omega) (fun h414 => ?_) (fun h414 => ?_)
                                     · first
                                       | (exfalso; omega; done)
                                       | (refine aw_blk oX12_faultOf_224 (pc' := 226) (ls' := [_, _, _, _, _, _]) (st' := [_]) (cs := []) rfl trivial ?_
                                          refine aw_if_ge (tgt := 231) eX12_faultOf_226 (by decide) (by omega) (fun h415 => ?_) (fun h415 => ?_)
                                          · first
                                            | (exfalso; omega; done)
                                            | (refine aw_blk oX12_faultOf_231 (pc' := 4) (ls' := [_, _, _, _, _, _]) (st' := []) (cs := []) rfl trivial ?_
                                               exact T _ (by rw [af_7]; (repeat' split) <;> omega) (by decide) _ _ _)
                                          · first
                                            | (exfalso; omega; done)
                                            | (refine aw_blk oX12_faultOf_229 (pc' := 230) (ls' := [_, _, _, _, _, _]) (st' := [_]) (cs := []) rfl trivial ?_
                                               refine aw_iret eX12_faultOf_230 rfl (Nat.le_refl _) (Nat.le_refl _) ?_
                                               exact pe_i (F (by rw [af_7]; (repeat' split) <;> omega)).symm rfl rfl))
                                     · first
                                       | (exfalso; omega; done)
                                       | (refine aw_blk oX12_faultOf_210 (pc' := 213) (ls' := [_, _, _, _, _, _]) (st' := [_, _]) (cs := []) rfl trivial ?_
                                          refine aw_icmp_ne (tgt := 220) eX12_faultOf_213 (by decide) (by omega) (by omega) (fun h416 => ?_) (fun h416 => ?_)
                                          · first
                                            | (exfalso; omega; done)
                                            | (refine aw_blk oX12_faultOf_220 (pc' := 222) (ls' := [_, _, _, _, _, _]) (st' := [_]) (cs := []) rfl trivial ?_
                                               refine aw_blk oX12_faultOf_222 (pc' := 224) (ls' := [_, _, _, _, _, _]) (st' := []) (cs := []) rfl trivial ?_
                                               refine aw_blk oX12_faultOf_224 (pc' := 226) (ls' := [_, _, _, _, _, _]) (st' := [_]) (cs := []) rfl trivial ?_
                                               refine aw_if_ge (tgt := 231) eX12_faultOf_226 (by decide) (by omega) (fun h417 => ?_) (fun h417 => ?_)
                                               · first
                                                 | (exfalso; omega; done)
                                                 | (refine aw_blk oX12_faultOf_231 (pc' := 4) (ls' := [_, _, _, _, _, _]) (st' := []) (cs := []) rfl trivial ?_
                                                    exact T _ (by rw [af_7]; (repeat' split) <;> omega) (by decide) _ _ _)
                                               · first
                                                 | (exfalso; omega; done)
                                                 | (refine aw_blk oX12_faultOf_229 (pc' := 230) (ls' := [_, _, _, _, _, _]) (st' := [_]) (cs := []) rfl trivial ?_
                                                    refine aw_iret eX12_faultOf_230 rfl (Nat.le_refl _) (Nat.le_refl _) ?_
                                                    exact pe_i (F (by rw [af_7]; (repeat' split) <;> omega)).symm rfl rfl))
                                          · first
                                            | (exfalso; omega; done)
                                            | (refine aw_blk oX12_faultOf_216 (pc' := 222) (ls' := [_, _, _, _, _, _]) (st' := [_]) (cs := []) rfl trivial ?_
                                               refine aw_blk oX12_faultOf_222 (pc' := 224) (ls' := [_, _, _, _, _, _]) (st' := []) (cs := []) rfl trivial ?_
                                               refine aw_blk oX12_faultOf_224 (pc' := 226) (ls' := [_, _, _, _, _, _]) (st' := [_]) (cs := []) rfl trivial ?_
                                               refine aw_if_ge (tgt := 231) eX12_faultOf_226 (by decide) (by omega) (fun h418 => ?_) (fun h418 => ?_)
                                               · first
                                                 | (exfalso; omega; done)
                                                 | (refine aw_blk oX12_faultOf_231 (pc' := 4) (ls' := [_, _, _, _, _, _]) (st' := []) (cs := []) rfl trivial ?_
                                                    exact T _ (by rw [af_7]; (repeat' split) <;> omega) (by decide) _ _ _)
                                               · first
                                                 | (exfalso; omega; done)
                                                 | (refine aw_blk oX12_faultOf_229 (pc' := 230) (ls' := [_, _, _, _, _, _]) (st' := [_]) (cs := []) rfl trivial ?_
                                                    refine aw_iret eX12_faultOf_230 rfl (Nat.le_refl _) (Nat.le_refl _) ?_
                                                    exact pe_i (F (by rw [af_7]; (repeat' split) <;> omega)).symm rfl rfl))))
                                · first
                                  | (exfalso; omega; done)
                                  | (refine aw_blk oX12_faultOf_181 (pc' := 186) (ls' := [_, _, _, _, _, _]) (st' := [_, _, _]) (cs := []) rfl trivial ?_
                                     refine aw_ciS (rest := []) (c_X12_in (by omega) (by omega) (by omega)) kX12_in eX12_faultOf_186 lX12_faultOf_186 rfl rfl (Nat.le_of_ble_eq_true rfl) ⟨Nat.le_of_ble_eq_true rfl, Nat.le_of_ble_eq_true rfl⟩ ⟨Nat.le_refl _, Nat.le_refl _⟩ ?_
                                     refine aw_if_eq (tgt := 197) eX12_faultOf_189 (by decide) bt_r (fun hh => have h419 := bt0 hh; ?_) (fun hh => have h419 := bt1 hh; ?_)
                                     · first
                                       | (exfalso; omega; done)
                                       | (refine aw_blk oX12_faultOf_197 (pc' := 199) (ls' := [_, _, _, _, _, _]) (st' := [_]) (cs := []) rfl trivial ?_
                                          refine aw_blk oX12_faultOf_199 (pc' := 224) (ls' := [_, _, _, _, _, _]) (st' := []) (cs := []) rfl trivial ?_
                                          refine aw_blk oX12_faultOf_224 (pc' := 226) (ls' := [_, _, _, _, _, _]) (st' := [_]) (cs := []) rfl trivial ?_
                                          refine aw_if_ge (tgt := 231) eX12_faultOf_226 (by decide) (by omega) (fun h420 => ?_) (fun h420 => ?_)
                                          · first
                                            | (exfalso; omega; done)
                                            | (refine aw_blk oX12_faultOf_231 (pc' := 4) (ls' := [_, _, _, _, _, _]) (st' := []) (cs := []) rfl trivial ?_
                                               exact T _ (by rw [af_7]; (repeat' split) <;> omega) (by decide) _ _ _)
                                          · first
                                            | (exfalso; omega; done)
                                            | (refine aw_blk oX12_faultOf_229 (pc' := 230) (ls' := [_, _, _, _, _, _]) (st' := [_]) (cs := []) rfl trivial ?_
                                               refine aw_iret eX12_faultOf_230 rfl (Nat.le_refl _) (Nat.le_refl _) ?_
                                               exact pe_i (F (by rw [af_7]; (repeat' split) <;> omega)).symm rfl rfl))
                                     · first
                                       | (exfalso; omega; done)
                                       | (refine aw_blk oX12_faultOf_192 (pc' := 199) (ls' := [_, _, _, _, _, _]) (st' := [_]) (cs := []) rfl trivial ?_
                                          refine aw_blk oX12_faultOf_199 (pc' := 224) (ls' := [_, _, _, _, _, _]) (st' := []) (cs := []) rfl trivial ?_
                                          refine aw_blk oX12_faultOf_224 (pc' := 226) (ls' := [_, _, _, _, _, _]) (st' := [_]) (cs := []) rfl trivial ?_
                                          refine aw_if_ge (tgt := 231) eX12_faultOf_226 (by decide) (by omega) (fun h421 => ?_) (fun h421 => ?_)
                                          · first
                                            | (exfalso; omega; done)
                                            | (refine aw_blk oX12_faultOf_231 (pc' := 4) (ls' := [_, _, _, _, _, _]) (st' := []) (cs := []) rfl trivial ?_
                                               exact T _ (by rw [af_7]; (repeat' split) <;> omega) (by decide) _ _ _)
                                          · first
                                            | (exfalso; omega; done)
                                            | (refine aw_blk oX12_faultOf_229 (pc' := 230) (ls' := [_, _, _, _, _, _]) (st' := [_]) (cs := []) rfl trivial ?_
                                               refine aw_iret eX12_faultOf_230 rfl (Nat.le_refl _) (Nat.le_refl _) ?_
                                               exact pe_i (F (by rw [af_7]; (repeat' split) <;> omega)).symm rfl rfl))))
                           · first
                             | (exfalso; omega; done)
                             | (refine aw_blk oX12_faultOf_157 (pc' := 160) (ls' := [_, _, _, _, _, _]) (st' := [_, _]) (cs := []) rfl trivial ?_
                                refine aw_icmp_ne (tgt := 168) eX12_faultOf_160 (by decide) (by omega) (by omega) (fun h422 => ?_) (fun h422 => ?_)
                                · first
                                  | (exfalso; omega; done)
                                  | (refine aw_blk oX12_faultOf_168 (pc' := 170) (ls' := [_, _, _, _, _, _]) (st' := [_]) (cs := []) rfl trivial ?_
                                     refine aw_blk oX12_faultOf_170 (pc' := 224) (ls' := [_, _, _, _, _, _]) (st' := []) (cs := []) rfl trivial ?_
                                     refine aw_blk oX12_faultOf_224 (pc' := 226) (ls' := [_, _, _, _, _, _]) (st' := [_]) (cs := []) rfl trivial ?_
                                     refine aw_if_ge (tgt := 231) eX12_faultOf_226 (by decide) (by omega) (fun h423 => ?_) (fun h423 => ?_)
                                     · first
                                       | (exfalso; omega; done)
                                       | (refine aw_blk oX12_faultOf_231 (pc' := 4) (ls' := [_, _, _, _, _, _]) (st' := []) (cs := []) rfl trivial ?_
                                          exact T _ (by rw [af_7]; (repeat' split) <;> omega) (by decide) _ _ _)
                                     · first
                                       | (exfalso; omega; done)
                                       | (refine aw_blk oX12_faultOf_229 (pc' := 230) (ls' := [_, _, _, _, _, _]) (st' := [_]) (cs := []) rfl trivial ?_
                                          refine aw_iret eX12_faultOf_230 rfl (Nat.le_refl _) (Nat.le_refl _) ?_
                                          exact pe_i (F (by rw [af_7]; (repeat' split) <;> omega)).symm rfl rfl))
                                · first
                                  | (exfalso; omega; done)
                                  | (refine aw_blk oX12_faultOf_163 (pc' := 170) (ls' := [_, _, _, _, _, _]) (st' := [_]) (cs := []) rfl trivial ?_
                                     refine aw_blk oX12_faultOf_170 (pc' := 224) (ls' := [_, _, _, _, _, _]) (st' := []) (cs := []) rfl trivial ?_
                                     refine aw_blk oX12_faultOf_224 (pc' := 226) (ls' := [_, _, _, _, _, _]) (st' := [_]) (cs := []) rfl trivial ?_
                                     refine aw_if_ge (tgt := 231) eX12_faultOf_226 (by decide) (by omega) (fun h424 => ?_) (fun h424 => ?_)
                                     · first
                                       | (exfalso; omega; done)
                                       | (refine aw_blk oX12_faultOf_231 (pc' := 4) (ls' := [_, _, _, _, _, _]) (st' := []) (cs := []) rfl trivial ?_
                                          exact T _ (by rw [af_7]; (repeat' split) <;> omega) (by decide) _ _ _)
                                     · first
                                       | (exfalso; omega; done)
                                       | (refine aw_blk oX12_faultOf_229 (pc' := 230) (ls' := [_, _, _, _, _, _]) (st' := [_]) (cs := []) rfl trivial ?_
                                          refine aw_iret eX12_faultOf_230 rfl (Nat.le_refl _) (Nat.le_refl _) ?_
                                          exact pe_i (F (by rw [af_7]; (repeat' split) <;> omega)).symm rfl rfl))))
                      · first
                        | (exfalso; omega; done)
                        | (refine aw_blk oX12_faultOf_130 (pc' := 132) (ls' := [_, _, _, _, _, _]) (st' := [_, _]) (cs := []) rfl trivial ?_
                           refine aw_icmp_ge (tgt := 141) eX12_faultOf_132 (by decide) (by omega) (by omega) (fun h425 => ?_) (fun h425 => ?_)
                           · first
                             | (exfalso; omega; done)
                             | (refine aw_blk oX12_faultOf_141 (pc' := 143) (ls' := [_, _, _, _, _, _]) (st' := [_]) (cs := []) rfl trivial ?_
                                refine aw_blk oX12_faultOf_143 (pc' := 224) (ls' := [_, _, _, _, _, _]) (st' := []) (cs := []) rfl trivial ?_
                                refine aw_blk oX12_faultOf_224 (pc' := 226) (ls' := [_, _, _, _, _, _]) (st' := [_]) (cs := []) rfl trivial ?_
                                refine aw_if_ge (tgt := 231) eX12_faultOf_226 (by decide) (by omega) (fun h426 => ?_) (fun h426 => ?_)
                                · first
                                  | (exfalso; omega; done)
                                  | (refine aw_blk oX12_faultOf_231 (pc' := 4) (ls' := [_, _, _, _, _, _]) (st' := []) (cs := []) rfl trivial ?_
                                     exact T _ (by rw [af_7]; (repeat' split) <;> omega) (by decide) _ _ _)
                                · first
                                  | (exfalso; omega; done)
                                  | (refine aw_blk oX12_faultOf_229 (pc' := 230) (ls' := [_, _, _, _, _, _]) (st' := [_]) (cs := []) rfl trivial ?_
                                     refine aw_iret eX12_faultOf_230 rfl (Nat.le_refl _) (Nat.le_refl _) ?_
                                     exact pe_i (F (by rw [af_7]; (repeat' split) <;> omega)).symm rfl rfl))
                           · first
                             | (exfalso; omega; done)
                             | (refine aw_blk oX12_faultOf_135 (pc' := 143) (ls' := [_, _, _, _, _, _]) (st' := [_]) (cs := []) rfl trivial ?_
                                refine aw_blk oX12_faultOf_143 (pc' := 224) (ls' := [_, _, _, _, _, _]) (st' := []) (cs := []) rfl trivial ?_
                                refine aw_blk oX12_faultOf_224 (pc' := 226) (ls' := [_, _, _, _, _, _]) (st' := [_]) (cs := []) rfl trivial ?_
                                refine aw_if_ge (tgt := 231) eX12_faultOf_226 (by decide) (by omega) (fun h427 => ?_) (fun h427 => ?_)
                                · first
                                  | (exfalso; omega; done)
                                  | (refine aw_blk oX12_faultOf_231 (pc' := 4) (ls' := [_, _, _, _, _, _]) (st' := []) (cs := []) rfl trivial ?_
                                     exact T _ (by rw [af_7]; (repeat' split) <;> omega) (by decide) _ _ _)
                                · first
                                  | (exfalso; omega; done)
                                  | (refine aw_blk oX12_faultOf_229 (pc' := 230) (ls' := [_, _, _, _, _, _]) (st' := [_]) (cs := []) rfl trivial ?_
                                     refine aw_iret eX12_faultOf_230 rfl (Nat.le_refl _) (Nat.le_refl _) ?_
                                     exact pe_i (F (by rw [af_7]; (repeat' split) <;> omega)).symm rfl rfl)))))
            · first
              | (exfalso; omega; done)
              | (refine aw_blk oX12_faultOf_93 (pc' := 96) (ls' := [_, _, _, _, _, _]) (st' := [_, _]) (cs := []) rfl trivial ?_
                 refine aw_icmp_eq (tgt := 105) eX12_faultOf_96 (by decide) (by omega) (by omega) (fun h428 => ?_) (fun h428 => ?_)
                 · first
                   | (exfalso; omega; done)
                   | (refine aw_blk oX12_faultOf_105 (pc' := 111) (ls' := [_, _, _, _, _, _]) (st' := [_]) (cs := []) rfl trivial ?_
                      refine aw_blk oX12_faultOf_111 (pc' := 224) (ls' := [_, _, _, _, _, _]) (st' := []) (cs := []) rfl trivial ?_
                      refine aw_blk oX12_faultOf_224 (pc' := 226) (ls' := [_, _, _, _, _, _]) (st' := [_]) (cs := []) rfl trivial ?_
                      refine aw_if_ge (tgt := 231) eX12_faultOf_226 (by decide) (by omega) (fun h429 => ?_) (fun h429 => ?_)
                      · first
                        | (exfalso; omega; done)
                        | (refine aw_blk oX12_faultOf_231 (pc' := 4) (ls' := [_, _, _, _, _, _]) (st' := []) (cs := []) rfl trivial ?_
                           exact T _ (by rw [af_7]; (repeat' split) <;> omega) (by decide) _ _ _)
                      · first
                        | (exfalso; omega; done)
                        | (refine aw_blk oX12_faultOf_229 (pc' := 230) (ls' := [_, _, _, _, _, _]) (st' := [_]) (cs := []) rfl trivial ?_
                           refine aw_iret eX12_faultOf_230 rfl (Nat.le_refl _) (Nat.le_refl _) ?_
                           exact pe_i (F (by rw [af_7]; (repeat' split) <;> omega)).symm rfl rfl))
                 · first
                   | (exfalso; omega; done)
                   | (refine aw_blk oX12_faultOf_99 (pc' := 102) (ls' := [_, _, _, _, _, _]) (st' := [_, _]) (cs := []) rfl trivial ?_
                      refine aw_icmp_ne (tgt := 109) eX12_faultOf_102 (by decide) (by omega) (by omega) (fun h430 => ?_) (fun h430 => ?_)
                      · first
                        | (exfalso; omega; done)
                        | (refine aw_blk oX12_faultOf_109 (pc' := 111) (ls' := [_, _, _, _, _, _]) (st' := [_]) (cs := []) rfl trivial ?_
                           refine aw_blk oX12_faultOf_111 (pc' := 224) (ls' := [_, _, _, _, _, _]) (st' := []) (cs := []) rfl trivial ?_
                           refine aw_blk oX12_faultOf_224 (pc' := 226) (ls' := [_, _, _, _, _, _]) (st' := [_]) (cs := []) rfl trivial ?_
                           refine aw_if_ge (tgt := 231) eX12_faultOf_226 (by decide) (by omega) (fun h431 => ?_) (fun h431 => ?_)
                           · first
                             | (exfalso; omega; done)
                             | (refine aw_blk oX12_faultOf_231 (pc' := 4) (ls' := [_, _, _, _, _, _]) (st' := []) (cs := []) rfl trivial ?_
                                exact T _ (by rw [af_7]; (repeat' split) <;> omega) (by decide) _ _ _)
                           · first
                             | (exfalso; omega; done)
                             | (refine aw_blk oX12_faultOf_229 (pc' := 230) (ls' := [_, _, _, _, _, _]) (st' := [_]) (cs := []) rfl trivial ?_
                                refine aw_iret eX12_faultOf_230 rfl (Nat.le_refl _) (Nat.le_refl _) ?_
                                exact pe_i (F (by rw [af_7]; (repeat' split) <;> omega)).symm rfl rfl))
                      · first
                        | (exfalso; omega; done)
                        | (refine aw_blk oX12_faultOf_105 (pc' := 111) (ls' := [_, _, _, _, _, _]) (st' := [_]) (cs := []) rfl trivial ?_
                           refine aw_blk oX12_faultOf_111 (pc' := 224) (ls' := [_, _, _, _, _, _]) (st' := []) (cs := []) rfl trivial ?_
                           refine aw_blk oX12_faultOf_224 (pc' := 226) (ls' := [_, _, _, _, _, _]) (st' := [_]) (cs := []) rfl trivial ?_
                           refine aw_if_ge (tgt := 231) eX12_faultOf_226 (by decide) (by omega) (fun h432 => ?_) (fun h432 => ?_)
                           · first
                             | (exfalso; omega; done)
                             | (refine aw_blk oX12_faultOf_231 (pc' := 4) (ls' := [_, _, _, _, _, _]) (st' := []) (cs := []) rfl trivial ?_
                                exact T _ (by rw [af_7]; (repeat' split) <;> omega) (by decide) _ _ _)
                           · first
                             | (exfalso; omega; done)
                             | (refine aw_blk oX12_faultOf_229 (pc' := 230) (ls' := [_, _, _, _, _, _]) (st' := [_]) (cs := []) rfl trivial ?_
                                refine aw_iret eX12_faultOf_230 rfl (Nat.le_refl _) (Nat.le_refl _) ?_
                                exact pe_i (F (by rw [af_7]; (repeat' split) <;> omega)).symm rfl rfl)))))
       · first
         | (exfalso; omega; done)
         | (refine aw_blk oX12_faultOf_37 (pc' := 40) (ls' := [_, _, _, _, _, _]) (st' := [_, _]) (cs := []) rfl trivial ?_
            refine aw_icmp_eq (tgt := 61) eX12_faultOf_40 (by decide) (by omega) (by omega) (fun h433 => ?_) (fun h433 => ?_)
            · first
              | (exfalso; omega; done)
              | (refine aw_blk oX12_faultOf_61 (pc' := 83) (ls' := [_, _, _, _, _, _]) (st' := [_]) (cs := []) rfl trivial ?_
                 refine aw_blk oX12_faultOf_83 (pc' := 224) (ls' := [_, _, _, _, _, _]) (st' := []) (cs := []) rfl trivial ?_
                 refine aw_blk oX12_faultOf_224 (pc' := 226) (ls' := [_, _, _, _, _, _]) (st' := [_]) (cs := []) rfl trivial ?_
                 refine aw_if_ge (tgt := 231) eX12_faultOf_226 (by decide) (by omega) (fun h434 => ?_) (fun h434 => ?_)
                 · first
                   | (exfalso; omega; done)
                   | (refine aw_blk oX12_faultOf_231 (pc' := 4) (ls' := [_, _, _, _, _, _]) (st' := []) (cs := []) rfl trivial ?_
                      exact T _ (by rw [af_7]; (repeat' split) <;> omega) (by decide) _ _ _)
                 · first
                   | (exfalso; omega; done)
                   | (refine aw_blk oX12_faultOf_229 (pc' := 230) (ls' := [_, _, _, _, _, _]) (st' := [_]) (cs := []) rfl trivial ?_
                      refine aw_iret eX12_faultOf_230 rfl (Nat.le_refl _) (Nat.le_refl _) ?_
                      exact pe_i (F (by rw [af_7]; (repeat' split) <;> omega)).symm rfl rfl))
            · first
              | (exfalso; omega; done)
              | (refine aw_blk oX12_faultOf_43 (pc' := 46) (ls' := [_, _, _, _, _, _]) (st' := [_, _]) (cs := []) rfl trivial ?_
                 refine aw_icmp_eq (tgt := 61) eX12_faultOf_46 (by decide) (by omega) (by omega) (fun h435 => ?_) (fun h435 => ?_)
                 · first
                   | (exfalso; omega; done)
                   | (refine aw_blk oX12_faultOf_61 (pc' := 83) (ls' := [_, _, _, _, _, _]) (st' := [_]) (cs := []) rfl trivial ?_
                      refine aw_blk oX12_faultOf_83 (pc' := 224) (ls' := [_, _, _, _, _, _]) (st' := []) (cs := []) rfl trivial ?_
                      refine aw_blk oX12_faultOf_224 (pc' := 226) (ls' := [_, _, _, _, _, _]) (st' := [_]) (cs := []) rfl trivial ?_
                      refine aw_if_ge (tgt := 231) eX12_faultOf_226 (by decide) (by omega) (fun h436 => ?_) (fun h436 => ?_)
                      · first
                        | (exfalso; omega; done)
                        | (refine aw_blk oX12_faultOf_231 (pc' := 4) (ls' := [_, _, _, _, _, _]) (st' := []) (cs := []) rfl trivial ?_
                           exact T _ (by rw [af_7]; (repeat' split) <;> omega) (by decide) _ _ _)
                      · first
                        | (exfalso; omega; done)
                        | (refine aw_blk oX12_faultOf_229 (pc' := 230) (ls' := [_, _, _, _, _, _]) (st' := [_]) (cs := []) rfl trivial ?_
                           refine aw_iret eX12_faultOf_230 rfl (Nat.le_refl _) (Nat.le_refl _) ?_
                           exact pe_i (F (by rw [af_7]; (repeat' split) <;> omega)).symm rfl rfl))
                 · first
                   | (exfalso; omega; done)
                   | (refine aw_blk oX12_faultOf_49 (pc' := 52) (ls' := [_, _, _, _, _, _]) (st' := [_, _]) (cs := []) rfl trivial ?_
                      refine aw_icmp_eq (tgt := 61) eX12_faultOf_52 (by decide) (by omega) (by omega) (fun h437 => ?_) (fun h437 => ?_)
                      · first
                        | (exfalso; omega; done)
                        | (refine aw_blk oX12_faultOf_61 (pc' := 83) (ls' := [_, _, _, _, _, _]) (st' := [_]) (cs := []) rfl trivial ?_
                           refine aw_blk oX12_faultOf_83 (pc' := 224) (ls' := [_, _, _, _, _, _]) (st' := []) (cs := []) rfl trivial ?_
                           refine aw_blk oX12_faultOf_224 (pc' := 226) (ls' := [_, _, _, _, _, _]) (st' := [_]) (cs := []) rfl trivial ?_
                           refine aw_if_ge (tgt := 231) eX12_faultOf_226 (by decide) (by omega) (fun h438 => ?_) (fun h438 => ?_)
                           · first
                             | (exfalso; omega; done)
                             | (refine aw_blk oX12_faultOf_231 (pc' := 4) (ls' := [_, _, _, _, _, _]) (st' := []) (cs := []) rfl trivial ?_
                                exact T _ (by rw [af_7]; (repeat' split) <;> omega) (by decide) _ _ _)
                           · first
                             | (exfalso; omega; done)
                             | (refine aw_blk oX12_faultOf_229 (pc' := 230) (ls' := [_, _, _, _, _, _]) (st' := [_]) (cs := []) rfl trivial ?_
                                refine aw_iret eX12_faultOf_230 rfl (Nat.le_refl _) (Nat.le_refl _) ?_
                                exact pe_i (F (by rw [af_7]; (repeat' split) <;> omega)).symm rfl rfl))
                      · first
                        | (exfalso; omega; done)
                        | (refine aw_blk oX12_faultOf_55 (pc' := 58) (ls' := [_, _, _, _, _, _]) (st' := [_, _]) (cs := []) rfl trivial ?_
                           refine aw_icmp_ne (tgt := 65) eX12_faultOf_58 (by decide) (by omega) (by omega) (fun h439 => ?_) (fun h439 => ?_)
                           · first
                             | (exfalso; omega; done)
                             | (refine aw_blk oX12_faultOf_65 (pc' := 70) (ls' := [_, _, _, _, _, _]) (st' := [_, _, _]) (cs := []) rfl trivial ?_
                                refine aw_ciS (rest := []) (c_X12_in (by omega) (by omega) (by omega)) kX12_in eX12_faultOf_70 lX12_faultOf_70 rfl rfl (Nat.le_of_ble_eq_true rfl) ⟨Nat.le_of_ble_eq_true rfl, Nat.le_of_ble_eq_true rfl⟩ ⟨Nat.le_refl _, Nat.le_refl _⟩ ?_
                                refine aw_if_eq (tgt := 81) eX12_faultOf_73 (by decide) bt_r (fun hh => have h440 := bt0 hh; ?_) (fun hh => have h440 := bt1 hh; ?_)
                                · first
                                  | (exfalso; omega; done)
                                  | (refine aw_blk oX12_faultOf_81 (pc' := 83) (ls' := [_, _, _, _, _, _]) (st' := [_]) (cs := []) rfl trivial ?_
                                     refine aw_blk oX12_faultOf_83 (pc' := 224) (ls' := [_, _, _, _, _, _]) (st' := []) (cs := []) rfl trivial ?_
                                     refine aw_blk oX12_faultOf_224 (pc' := 226) (ls' := [_, _, _, _, _, _]) (st' := [_]) (cs := []) rfl trivial ?_
                                     refine aw_if_ge (tgt := 231) eX12_faultOf_226 (by decide) (by omega) (fun h441 => ?_) (fun h441 => ?_)
                                     · first
                                       | (exfalso; omega; done)
                                       | (refine aw_blk oX12_faultOf_231 (pc' := 4) (ls' := [_, _, _, _, _, _]) (st' := []) (cs := []) rfl trivial ?_
                                          exact T _ (by rw [af_7]; (repeat' split) <;> omega) (by decide) _ _ _)
                                     · first
                                       | (exfalso; omega; done)
                                       | (refine aw_blk oX12_faultOf_229 (pc' := 230) (ls' := [_, _, _, _, _, _]) (st' := [_]) (cs := []) rfl trivial ?_
                                          refine aw_iret eX12_faultOf_230 rfl (Nat.le_refl _) (Nat.le_refl _) ?_
                                          exact pe_i (F (by rw [af_7]; (repeat' split) <;> omega)).symm rfl rfl))
                                · first
                                  | (exfalso; omega; done)
                                  | (refine aw_blk oX12_faultOf_76 (pc' := 83) (ls' := [_, _, _, _, _, _]) (st' := [_]) (cs := []) rfl trivial ?_
                                     refine aw_blk oX12_faultOf_83 (pc' := 224) (ls' := [_, _, _, _, _, _]) (st' := []) (cs := []) rfl trivial ?_
                                     refine aw_blk oX12_faultOf_224 (pc' := 226) (ls' := [_, _, _, _, _, _]) (st' := [_]) (cs := []) rfl trivial ?_
                                     refine aw_if_ge (tgt := 231) eX12_faultOf_226 (by decide) (by omega) (fun h442 => ?_) (fun h442 => ?_)
                                     · first
                                       | (exfalso; omega; done)
                                       | (refine aw_blk oX12_faultOf_231 (pc' := 4) (ls' := [_, _, _, _, _, _]) (st' := []) (cs := []) rfl trivial ?_
                                          exact T _ (by rw [af_7]; (repeat' split) <;> omega) (by decide) _ _ _)
                                     · first
                                       | (exfalso; omega; done)
                                       | (refine aw_blk oX12_faultOf_229 (pc' := 230) (ls' := [_, _, _, _, _, _]) (st' := [_]) (cs := []) rfl trivial ?_
                                          refine aw_iret eX12_faultOf_230 rfl (Nat.le_refl _) (Nat.le_refl _) ?_
                                          exact pe_i (F (by rw [af_7]; (repeat' split) <;> omega)).symm rfl rfl)))
                           · first
                             | (exfalso; omega; done)
                             | (refine aw_blk oX12_faultOf_61 (pc' := 83) (ls' := [_, _, _, _, _, _]) (st' := [_]) (cs := []) rfl trivial ?_
                                refine aw_blk oX12_faultOf_83 (pc' := 224) (ls' := [_, _, _, _, _, _]) (st' := []) (cs := []) rfl trivial ?_
                                refine aw_blk oX12_faultOf_224 (pc' := 226) (ls' := [_, _, _, _, _, _]) (st' := [_]) (cs := []) rfl trivial ?_
                                refine aw_if_ge (tgt := 231) eX12_faultOf_226 (by decide) (by omega) (fun h443 => ?_) (fun h443 => ?_)
                                · first
                                  | (exfalso; omega; done)
                                  | (refine aw_blk oX12_faultOf_231 (pc' := 4) (ls' := [_, _, _, _, _, _]) (st' := []) (cs := []) rfl trivial ?_
                                     exact T _ (by rw [af_7]; (repeat' split) <;> omega) (by decide) _ _ _)
                                · first
                                  | (exfalso; omega; done)
                                  | (refine aw_blk oX12_faultOf_229 (pc' := 230) (ls' := [_, _, _, _, _, _]) (st' := [_]) (cs := []) rfl trivial ?_
                                     refine aw_iret eX12_faultOf_230 rfl (Nat.le_refl _) (Nat.le_refl _) ?_
                                     exact pe_i (F (by rw [af_7]; (repeat' split) <;> omega)).symm rfl rfl)))))))
theorem s_faultOf_8 {κ : KX} {μ : MM} {ν : ML} {P : Int} {i : Int} {u3 u4 u5 : AV} {N z : Int} (h0 : 0 ≤ i) (h1 : i < N) (a : μ 55 8 = N ∧ 0 ≤ N ∧ N ≤ 40) (g : μ 61 i = z ∧ 0 ≤ z ∧ z ≤ 126) (T : ∀ q : Int, q = af 8 z → q ≠ 9 → ∀ u3 u4 u5 : AV, AX κ mX12_faultOf 1 (PE (some (aI P)) μ ν) 4 [aR 55, aI q, aI (i + 1), u3, u4, u5] [] μ ν) (F : af 8 z = 9 → P = i) : AX κ mX12_faultOf 1 (PE (some (aI P)) μ ν) 4 [aR 55, aI 8, aI i, u3, u4, u5] [] μ ν := by
  have hbt : (48 ≤ μ 61 i ∧ μ 61 i ≤ 57 ∧ bt (μ 61 i) 48 57 = 1) ∨ (¬ (48 ≤ μ 61 i ∧ μ 61 i ≤ 57) ∧ bt (μ 61 i) 48 57 = 0) := by
    unfold bt
    split <;> omega
  refine aw_blk oX12_faultOf_4 (pc' := 9) (ls' := [_, _, _, _, _, _]) (st' := [_, _]) (cs := []) rfl trivial ?_
  refine aw_icmp_ge (tgt := 240) eX12_faultOf_9 (by decide) (by omega) (by omega) (fun h444 => ?_) (fun h444 => ?_)
  · first
    | (exfalso; omega; done)
    | (refine aw_blk oX12_faultOf_240 (pc' := 243) (ls' := [_, _, _, _, _, _]) (st' := [_, _]) (cs := []) rfl trivial ?_
       refine aw_icmp_ne (tgt := 251) eX12_faultOf_243 (by decide) (by omega) (by omega) (fun h445 => ?_) (fun h445 => ?_)
       · first
         | (exfalso; omega; done)
         | (refine aw_blk oX12_faultOf_251 (pc' := 255) (ls' := [_, _, _, _, _, _]) (st' := [_]) (cs := []) rfl trivial ?_
            refine aw_iret eX12_faultOf_255 rfl (Nat.le_refl _) (Nat.le_refl _) ?_
            exact pe_i (F (by rw [af_8])).symm rfl rfl)
       · first
         | (exfalso; omega; done)
         | (refine aw_blk oX12_faultOf_246 (pc' := 255) (ls' := [_, _, _, _, _, _]) (st' := [_]) (cs := []) rfl trivial ?_
            refine aw_iret eX12_faultOf_255 rfl (Nat.le_refl _) (Nat.le_refl _) ?_
            exact pe_i (F (by rw [af_8])).symm rfl rfl))
  · first
    | (exfalso; omega; done)
    | (refine aw_blk oX12_faultOf_12 (pc' := 28) (ls' := [_, _, _, _, _, _]) (st' := [_, _, _]) (cs := [(_, _)]) rfl (⟨⟨by omega, by omega⟩, trivial⟩) ?_
       refine aw_ciS (rest := []) (c_X12_in (by omega) (by omega) (by omega)) kX12_in eX12_faultOf_28 lX12_faultOf_28 rfl rfl (Nat.le_of_ble_eq_true rfl) ⟨Nat.le_of_ble_eq_true rfl, Nat.le_of_ble_eq_true rfl⟩ ⟨Nat.le_refl _, Nat.le_refl _⟩ ?_
       refine aw_blk oX12_faultOf_31 (pc' := 34) (ls' := [_, _, _, _, _, _]) (st' := [_]) (cs := []) rfl trivial ?_
       refine aw_if_ne (tgt := 88) eX12_faultOf_34 (by decide) (by omega) (fun h446 => ?_) (fun h446 => ?_)
       · first
         | (exfalso; omega; done)
         | (refine aw_blk oX12_faultOf_88 (pc' := 90) (ls' := [_, _, _, _, _, _]) (st' := [_, _]) (cs := []) rfl trivial ?_
            refine aw_icmp_ne (tgt := 116) eX12_faultOf_90 (by decide) (by omega) (by omega) (fun h447 => ?_) (fun h447 => ?_)
            · first
              | (exfalso; omega; done)
              | (refine aw_blk oX12_faultOf_116 (pc' := 119) (ls' := [_, _, _, _, _, _]) (st' := [_, _, _]) (cs := []) rfl trivial ?_
                 refine aw_ciS (rest := []) (c_X12_in (by omega) (by omega) (by omega)) kX12_in eX12_faultOf_119 lX12_faultOf_119 rfl rfl (Nat.le_of_ble_eq_true rfl) ⟨Nat.le_of_ble_eq_true rfl, Nat.le_of_ble_eq_true rfl⟩ ⟨Nat.le_refl _, Nat.le_refl _⟩ ?_
                 refine aw_if_eq (tgt := 148) eX12_faultOf_122 (by decide) bt_r (fun hh => have h448 := bt0 hh; ?_) (fun hh => have h448 := bt1 hh; ?_)
                 · first
                   | (exfalso; omega; done)
                   | (refine aw_blk oX12_faultOf_148 (pc' := 151) (ls' := [_, _, _, _, _, _]) (st' := [_, _, _]) (cs := []) rfl trivial ?_
                      refine aw_ciS (rest := []) (c_X12_in (by omega) (by omega) (by omega)) kX12_in eX12_faultOf_151 lX12_faultOf_151 rfl rfl (Nat.le_of_ble_eq_true rfl) ⟨Nat.le_of_ble_eq_true rfl, Nat.le_of_ble_eq_true rfl⟩ ⟨Nat.le_refl _, Nat.le_refl _⟩ ?_
                      refine aw_if_eq (tgt := 175) eX12_faultOf_154 (by decide) bt_r (fun hh => have h449 := bt0 hh; ?_) (fun hh => have h449 := bt1 hh; ?_)
                      · first
                        | (exfalso; omega; done)
                        | (refine aw_blk oX12_faultOf_175 (pc' := 178) (ls' := [_, _, _, _, _, _]) (st' := [_, _]) (cs := []) rfl trivial ?_
                           refine aw_icmp_ne (tgt := 204) eX12_faultOf_178 (by decide) (by omega) (by omega) (fun h450 => ?_) (fun h450 => ?_)
                           · first
                             | (exfalso; omega; done)
                             | (refine aw_blk oX12_faultOf_204 (pc' := 207) (ls' := [_, _, _, _, _, _]) (st' := [_, _]) (cs := []) rfl trivial ?_
                                refine aw_icmp_ne (tgt := 224) eX12_faultOf_207 (by decide) (by omega) (by omega) (fun h451 => ?_) (fun h451 => ?_)
                                · first
                                  | (exfalso; omega; done)
                                  | (refine aw_blk oX12_faultOf_224 (pc' := 226) (ls' := [_, _, _, _, _, _]) (st' := [_]) (cs := []) rfl trivial ?_
                                     refine aw_if_ge (tgt := 231) eX12_faultOf_226 (by decide) (by omega) (fun h452 => ?_) (fun h452 => ?_)
                                     · first
                                       | (exfalso; omega; done)
                                       | (refine aw_blk oX12_faultOf_231 (pc' := 4) (ls' := [_, _, _, _, _, _]) (st' := []) (cs := []) rfl trivial ?_
                                          exact T _ (by rw [af_8]) (by decide) _ _ _)
                                     · first
                                       | (exfalso; omega; done)
                                       | (refine aw_blk oX12_faultOf_229 (pc' := 230) (ls' := [_, _, _, _, _, _]) (st' := [_]) (cs := []) rfl trivial ?_
                                          refine aw_iret eX12_faultOf_230 rfl (Nat.le_refl _) (Nat.le_refl _) ?_
                                          exact pe_i (F (by rw [af_8])).symm rfl rfl))
                                · first
                                  | (exfalso; omega; done)
                                  | (refine aw_blk oX12_faultOf_210 (pc' := 213) (ls' := [_, _, _, _, _, _]) (st' := [_, _]) (cs := []) rfl trivial ?_
                                     refine aw_icmp_ne (tgt := 220) eX12_faultOf_213 (by decide) (by omega) (by omega) (fun h453 => ?_) (fun h453 => ?_)
                                     · first
                                       | (exfalso; omega; done)
                                       | (refine aw_blk oX12_faultOf_220 (pc' := 222) (ls' := [_, _, _, _, _, _]) (st' := [_]) (cs := []) rfl trivial ?_
                                          refine aw_blk oX12_faultOf_222 (pc' := 224) (ls' := [_, _, _, _, _, _]) (st' := []) (cs := []) rfl trivial ?_
                                          refine aw_blk oX12_faultOf_224 (pc' := 226) (ls' := [_, _, _, _, _, _]) (st' := [_]) (cs := []) rfl trivial ?_
                                          refine aw_if_ge (tgt := 231) eX12_faultOf_226 (by decide) (by omega) (fun h454 => ?_) (fun h454 => ?_)
                                          · first
                                            | (exfalso; omega; done)
                                            | (refine aw_blk oX12_faultOf_231 (pc' := 4) (ls' := [_, _, _, _, _, _]) (st' := []) (cs := []) rfl trivial ?_
                                               exact T _ (by rw [af_8]) (by decide) _ _ _)
                                          · first
                                            | (exfalso; omega; done)
                                            | (refine aw_blk oX12_faultOf_229 (pc' := 230) (ls' := [_, _, _, _, _, _]) (st' := [_]) (cs := []) rfl trivial ?_
                                               refine aw_iret eX12_faultOf_230 rfl (Nat.le_refl _) (Nat.le_refl _) ?_
                                               exact pe_i (F (by rw [af_8])).symm rfl rfl))
                                     · first
                                       | (exfalso; omega; done)
                                       | (refine aw_blk oX12_faultOf_216 (pc' := 222) (ls' := [_, _, _, _, _, _]) (st' := [_]) (cs := []) rfl trivial ?_
                                          refine aw_blk oX12_faultOf_222 (pc' := 224) (ls' := [_, _, _, _, _, _]) (st' := []) (cs := []) rfl trivial ?_
                                          refine aw_blk oX12_faultOf_224 (pc' := 226) (ls' := [_, _, _, _, _, _]) (st' := [_]) (cs := []) rfl trivial ?_
                                          refine aw_if_ge (tgt := 231) eX12_faultOf_226 (by decide) (by omega) (fun h455 => ?_) (fun h455 => ?_)
                                          · first
                                            | (exfalso; omega; done)
                                            | (refine aw_blk oX12_faultOf_231 (pc' := 4) (ls' := [_, _, _, _, _, _]) (st' := []) (cs := []) rfl trivial ?_
                                               exact T _ (by rw [af_8]) (by decide) _ _ _)
                                          · first
                                            | (exfalso; omega; done)
                                            | (refine aw_blk oX12_faultOf_229 (pc' := 230) (ls' := [_, _, _, _, _, _]) (st' := [_]) (cs := []) rfl trivial ?_
                                               refine aw_iret eX12_faultOf_230 rfl (Nat.le_refl _) (Nat.le_refl _) ?_
                                               exact pe_i (F (by rw [af_8])).symm rfl rfl))))
                           · first
                             | (exfalso; omega; done)
                             | (refine aw_blk oX12_faultOf_181 (pc' := 186) (ls' := [_, _, _, _, _, _]) (st' := [_, _, _]) (cs := []) rfl trivial ?_
                                refine aw_ciS (rest := []) (c_X12_in (by omega) (by omega) (by omega)) kX12_in eX12_faultOf_186 lX12_faultOf_186 rfl rfl (Nat.le_of_ble_eq_true rfl) ⟨Nat.le_of_ble_eq_true rfl, Nat.le_of_ble_eq_true rfl⟩ ⟨Nat.le_refl _, Nat.le_refl _⟩ ?_
                                refine aw_if_eq (tgt := 197) eX12_faultOf_189 (by decide) bt_r (fun hh => have h456 := bt0 hh; ?_) (fun hh => have h456 := bt1 hh; ?_)
                                · first
                                  | (exfalso; omega; done)
                                  | (refine aw_blk oX12_faultOf_197 (pc' := 199) (ls' := [_, _, _, _, _, _]) (st' := [_]) (cs := []) rfl trivial ?_
                                     refine aw_blk oX12_faultOf_199 (pc' := 224) (ls' := [_, _, _, _, _, _]) (st' := []) (cs := []) rfl trivial ?_
                                     refine aw_blk oX12_faultOf_224 (pc' := 226) (ls' := [_, _, _, _, _, _]) (st' := [_]) (cs := []) rfl trivial ?_
                                     refine aw_if_ge (tgt := 231) eX12_faultOf_226 (by decide) (by omega) (fun h457 => ?_) (fun h457 => ?_)
                                     · first
                                       | (exfalso; omega; done)
                                       | (refine aw_blk oX12_faultOf_231 (pc' := 4) (ls' := [_, _, _, _, _, _]) (st' := []) (cs := []) rfl trivial ?_
                                          exact T _ (by rw [af_8]) (by decide) _ _ _)
                                     · first
                                       | (exfalso; omega; done)
                                       | (refine aw_blk oX12_faultOf_229 (pc' := 230) (ls' := [_, _, _, _, _, _]) (st' := [_]) (cs := []) rfl trivial ?_
                                          refine aw_iret eX12_faultOf_230 rfl (Nat.le_refl _) (Nat.le_refl _) ?_
                                          exact pe_i (F (by rw [af_8])).symm rfl rfl))
                                · first
                                  | (exfalso; omega; done)
                                  | (refine aw_blk oX12_faultOf_192 (pc' := 199) (ls' := [_, _, _, _, _, _]) (st' := [_]) (cs := []) rfl trivial ?_
                                     refine aw_blk oX12_faultOf_199 (pc' := 224) (ls' := [_, _, _, _, _, _]) (st' := []) (cs := []) rfl trivial ?_
                                     refine aw_blk oX12_faultOf_224 (pc' := 226) (ls' := [_, _, _, _, _, _]) (st' := [_]) (cs := []) rfl trivial ?_
                                     refine aw_if_ge (tgt := 231) eX12_faultOf_226 (by decide) (by omega) (fun h458 => ?_) (fun h458 => ?_)
                                     · first
                                       | (exfalso; omega; done)
                                       | (refine aw_blk oX12_faultOf_231 (pc' := 4) (ls' := [_, _, _, _, _, _]) (st' := []) (cs := []) rfl trivial ?_
                                          exact T _ (by rw [af_8]) (by decide) _ _ _)
                                     · first
                                       | (exfalso; omega; done)
                                       | (refine aw_blk oX12_faultOf_229 (pc' := 230) (ls' := [_, _, _, _, _, _]) (st' := [_]) (cs := []) rfl trivial ?_
                                          refine aw_iret eX12_faultOf_230 rfl (Nat.le_refl _) (Nat.le_refl _) ?_
                                          exact pe_i (F (by rw [af_8])).symm rfl rfl))))
                      · first
                        | (exfalso; omega; done)
                        | (refine aw_blk oX12_faultOf_157 (pc' := 160) (ls' := [_, _, _, _, _, _]) (st' := [_, _]) (cs := []) rfl trivial ?_
                           refine aw_icmp_ne (tgt := 168) eX12_faultOf_160 (by decide) (by omega) (by omega) (fun h459 => ?_) (fun h459 => ?_)
                           · first
                             | (exfalso; omega; done)
                             | (refine aw_blk oX12_faultOf_168 (pc' := 170) (ls' := [_, _, _, _, _, _]) (st' := [_]) (cs := []) rfl trivial ?_
                                refine aw_blk oX12_faultOf_170 (pc' := 224) (ls' := [_, _, _, _, _, _]) (st' := []) (cs := []) rfl trivial ?_
                                refine aw_blk oX12_faultOf_224 (pc' := 226) (ls' := [_, _, _, _, _, _]) (st' := [_]) (cs := []) rfl trivial ?_
                                refine aw_if_ge (tgt := 231) eX12_faultOf_226 (by decide) (by omega) (fun h460 => ?_) (fun h460 => ?_)
                                · first
                                  | (exfalso; omega; done)
                                  | (refine aw_blk oX12_faultOf_231 (pc' := 4) (ls' := [_, _, _, _, _, _]) (st' := []) (cs := []) rfl trivial ?_
                                     exact T _ (by rw [af_8]) (by decide) _ _ _)
                                · first
                                  | (exfalso; omega; done)
                                  | (refine aw_blk oX12_faultOf_229 (pc' := 230) (ls' := [_, _, _, _, _, _]) (st' := [_]) (cs := []) rfl trivial ?_
                                     refine aw_iret eX12_faultOf_230 rfl (Nat.le_refl _) (Nat.le_refl _) ?_
                                     exact pe_i (F (by rw [af_8])).symm rfl rfl))
                           · first
                             | (exfalso; omega; done)
                             | (refine aw_blk oX12_faultOf_163 (pc' := 170) (ls' := [_, _, _, _, _, _]) (st' := [_]) (cs := []) rfl trivial ?_
                                refine aw_blk oX12_faultOf_170 (pc' := 224) (ls' := [_, _, _, _, _, _]) (st' := []) (cs := []) rfl trivial ?_
                                refine aw_blk oX12_faultOf_224 (pc' := 226) (ls' := [_, _, _, _, _, _]) (st' := [_]) (cs := []) rfl trivial ?_
                                refine aw_if_ge (tgt := 231) eX12_faultOf_226 (by decide) (by omega) (fun h461 => ?_) (fun h461 => ?_)
                                · first
                                  | (exfalso; omega; done)
                                  | (refine aw_blk oX12_faultOf_231 (pc' := 4) (ls' := [_, _, _, _, _, _]) (st' := []) (cs := []) rfl trivial ?_
                                     exact T _ (by rw [af_8]) (by decide) _ _ _)
                                · first
                                  | (exfalso; omega; done)
                                  | (refine aw_blk oX12_faultOf_229 (pc' := 230) (ls' := [_, _, _, _, _, _]) (st' := [_]) (cs := []) rfl trivial ?_
                                     refine aw_iret eX12_faultOf_230 rfl (Nat.le_refl _) (Nat.le_refl _) ?_
                                     exact pe_i (F (by rw [af_8])).symm rfl rfl))))
                 · first
                   | (exfalso; omega; done)
                   | (refine aw_blk oX12_faultOf_125 (pc' := 127) (ls' := [_, _, _, _, _, _]) (st' := [_]) (cs := []) rfl trivial ?_
                      refine aw_if_eq (tgt := 148) eX12_faultOf_127 (by decide) (by omega) (fun h462 => ?_) (fun h462 => ?_)
                      · first
                        | (exfalso; omega; done)
                        | (refine aw_blk oX12_faultOf_148 (pc' := 151) (ls' := [_, _, _, _, _, _]) (st' := [_, _, _]) (cs := []) rfl trivial ?_
                           refine aw_ciS (rest := []) (c_X12_in (by omega) (by omega) (by omega)) kX12_in eX12_faultOf_151 lX12_faultOf_151 rfl rfl (Nat.le_of_ble_eq_true rfl) ⟨Nat.le_of_ble_eq_true rfl, Nat.le_of_ble_eq_true rfl⟩ ⟨Nat.le_refl _, Nat.le_refl _⟩ ?_
                           refine aw_if_eq (tgt := 175) eX12_faultOf_154 (by decide) bt_r (fun hh => have h463 := bt0 hh; ?_) (fun hh => have h463 := bt1 hh; ?_)
                           · first
                             | (exfalso; omega; done)
                             | (refine aw_blk oX12_faultOf_175 (pc' := 178) (ls' := [_, _, _, _, _, _]) (st' := [_, _]) (cs := []) rfl trivial ?_
                                refine aw_icmp_ne (tgt := 204) eX12_faultOf_178 (by decide) (by omega) (by omega) (fun h464 => ?_) (fun h464 => ?_)
                                · first
                                  | (exfalso; omega; done)
                                  | (refine aw_blk oX12_faultOf_204 (pc' := 207) (ls' := [_, _, _, _, _, _]) (st' := [_, _]) (cs := []) rfl trivial ?_
                                     refine aw_icmp_ne (tgt := 224) eX12_faultOf_207 (by decide) (by omega) (by omega) (fun h465 => ?_) (fun h465 => ?_)
                                     · first
                                       | (exfalso; omega; done)
                                       | (refine aw_blk oX12_faultOf_224 (pc' := 226) (ls' := [_, _, _, _, _, _]) (st' := [_]) (cs := []) rfl trivial ?_
                                          refine aw_if_ge (tgt := 231) eX12_faultOf_226 (by decide) (by omega) (fun h466 => ?_) (fun h466 => ?_)
                                          · first
                                            | (exfalso; omega; done)
                                            | (refine aw_blk oX12_faultOf_231 (pc' := 4) (ls' := [_, _, _, _, _, _]) (st' := []) (cs := []) rfl trivial ?_
                                               exact T _ (by rw [af_8]) (by decide) _ _ _)
                                          · first
                                            | (exfalso; omega; done)
                                            | (refine aw_blk oX12_faultOf_229 (pc' := 230) (ls' := [_, _, _, _, _, _]) (st' := [_]) (cs := []) rfl trivial ?_
                                               refine aw_iret eX12_faultOf_230 rfl (Nat.le_refl _) (Nat.le_refl _) ?_
                                               exact pe_i (F (by rw [af_8])).symm rfl rfl))
                                     · first
                                       | (exfalso; omega; done)
                                       | (refine aw_blk oX12_faultOf_210 (pc' := 213) (ls' := [_, _, _, _, _, _]) (st' := [_, _]) (cs := []) rfl trivial ?_
                                          refine aw_icmp_ne (tgt := 220) eX12_faultOf_213 (by decide) (by omega) (by omega) (fun h467 => ?_) (fun h467 => ?_)
                                          · first
                                            | (exfalso; omega; done)
                                            | (refine aw_blk oX12_faultOf_220 (pc' := 222) (ls' := [_, _, _, _, _, _]) (st' := [_]) (cs := []) rfl trivial ?_
                                               refine aw_blk oX12_faultOf_222 (pc' := 224) (ls' := [_, _, _, _, _, _]) (st' := []) (cs := []) rfl trivial ?_
                                               refine aw_blk oX12_faultOf_224 (pc' := 226) (ls' := [_, _, _, _, _, _]) (st' := [_]) (cs := []) rfl trivial ?_
                                               refine aw_if_ge (tgt := 231) eX12_faultOf_226 (by decide) (by omega) (fun h468 => ?_) (fun h468 => ?_)
                                               · first
                                                 | (exfalso; omega; done)
                                                 | (refine aw_blk oX12_faultOf_231 (pc' := 4) (ls' := [_, _, _, _, _, _]) (st' := []) (cs := []) rfl trivial ?_
                                                    exact T _ (by rw [af_8]) (by decide) _ _ _)
                                               · first
                                                 | (exfalso; omega; done)
                                                 | (refine aw_blk oX12_faultOf_229 (pc' := 230) (ls' := [_, _, _, _, _, _]) (st' := [_]) (cs := []) rfl trivial ?_
                                                    refine aw_iret eX12_faultOf_230 rfl (Nat.le_refl _) (Nat.le_refl _) ?_
                                                    exact pe_i (F (by rw [af_8])).symm rfl rfl))
                                          · first
                                            | (exfalso; omega; done)
                                            | (refine aw_blk oX12_faultOf_216 (pc' := 222) (ls' := [_, _, _, _, _, _]) (st' := [_]) (cs := []) rfl trivial ?_
                                               refine aw_blk oX12_faultOf_222 (pc' := 224) (ls' := [_, _, _, _, _, _]) (st' := []) (cs := []) rfl trivial ?_
                                               refine aw_blk oX12_faultOf_224 (pc' := 226) (ls' := [_, _, _, _, _, _]) (st' := [_]) (cs := []) rfl trivial ?_
                                               refine aw_if_ge (tgt := 231) eX12_faultOf_226 (by decide) (by omega) (fun h469 => ?_) (fun h469 => ?_)
                                               · first
                                                 | (exfalso; omega; done)
                                                 | (refine aw_blk oX12_faultOf_231 (pc' := 4) (ls' := [_, _, _, _, _, _]) (st' := []) (cs := []) rfl trivial ?_
                                                    exact T _ (by rw [af_8]) (by decide) _ _ _)
                                               · first
                                                 | (exfalso; omega; done)
                                                 | (refine aw_blk oX12_faultOf_229 (pc' := 230) (ls' := [_, _, _, _, _, _]) (st' := [_]) (cs := []) rfl trivial ?_
                                                    refine aw_iret eX12_faultOf_230 rfl (Nat.le_refl _) (Nat.le_refl _) ?_
                                                    exact pe_i (F (by rw [af_8])).symm rfl rfl))))
                                · first
                                  | (exfalso; omega; done)
                                  | (refine aw_blk oX12_faultOf_181 (pc' := 186) (ls' := [_, _, _, _, _, _]) (st' := [_, _, _]) (cs := []) rfl trivial ?_
                                     refine aw_ciS (rest := []) (c_X12_in (by omega) (by omega) (by omega)) kX12_in eX12_faultOf_186 lX12_faultOf_186 rfl rfl (Nat.le_of_ble_eq_true rfl) ⟨Nat.le_of_ble_eq_true rfl, Nat.le_of_ble_eq_true rfl⟩ ⟨Nat.le_refl _, Nat.le_refl _⟩ ?_
                                     refine aw_if_eq (tgt := 197) eX12_faultOf_189 (by decide) bt_r (fun hh => have h470 := bt0 hh; ?_) (fun hh => have h470 := bt1 hh; ?_)
                                     · first
                                       | (exfalso; omega; done)
                                       | (refine aw_blk oX12_faultOf_197 (pc' := 199) (ls' := [_, _, _, _, _, _]) (st' := [_]) (cs := []) rfl trivial ?_
                                          refine aw_blk oX12_faultOf_199 (pc' := 224) (ls' := [_, _, _, _, _, _]) (st' := []) (cs := []) rfl trivial ?_
                                          refine aw_blk oX12_faultOf_224 (pc' := 226) (ls' := [_, _, _, _, _, _]) (st' := [_]) (cs := []) rfl trivial ?_
                                          refine aw_if_ge (tgt := 231) eX12_faultOf_226 (by decide) (by omega) (fun h471 => ?_) (fun h471 => ?_)
                                          · first
                                            | (exfalso; omega; done)
                                            | (refine aw_blk oX12_faultOf_231 (pc' := 4) (ls' := [_, _, _, _, _, _]) (st' := []) (cs := []) rfl trivial ?_
                                               exact T _ (by rw [af_8]) (by decide) _ _ _)
                                          · first
                                            | (exfalso; omega; done)
                                            | (refine aw_blk oX12_faultOf_229 (pc' := 230) (ls' := [_, _, _, _, _, _]) (st' := [_]) (cs := []) rfl trivial ?_
                                               refine aw_iret eX12_faultOf_230 rfl (Nat.le_refl _) (Nat.le_refl _) ?_
                                               exact pe_i (F (by rw [af_8])).symm rfl rfl))
                                     · first
                                       | (exfalso; omega; done)
                                       | (refine aw_blk oX12_faultOf_192 (pc' := 199) (ls' := [_, _, _, _, _, _]) (st' := [_]) (cs := []) rfl trivial ?_
                                          refine aw_blk oX12_faultOf_199 (pc' := 224) (ls' := [_, _, _, _, _, _]) (st' := []) (cs := []) rfl trivial ?_
                                          refine aw_blk oX12_faultOf_224 (pc' := 226) (ls' := [_, _, _, _, _, _]) (st' := [_]) (cs := []) rfl trivial ?_
                                          refine aw_if_ge (tgt := 231) eX12_faultOf_226 (by decide) (by omega) (fun h472 => ?_) (fun h472 => ?_)
                                          · first
                                            | (exfalso; omega; done)
                                            | (refine aw_blk oX12_faultOf_231 (pc' := 4) (ls' := [_, _, _, _, _, _]) (st' := []) (cs := []) rfl trivial ?_
                                               exact T _ (by rw [af_8]) (by decide) _ _ _)
                                          · first
                                            | (exfalso; omega; done)
                                            | (refine aw_blk oX12_faultOf_229 (pc' := 230) (ls' := [_, _, _, _, _, _]) (st' := [_]) (cs := []) rfl trivial ?_
                                               refine aw_iret eX12_faultOf_230 rfl (Nat.le_refl _) (Nat.le_refl _) ?_
                                               exact pe_i (F (by rw [af_8])).symm rfl rfl))))
                           · first
                             | (exfalso; omega; done)
                             | (refine aw_blk oX12_faultOf_157 (pc' := 160) (ls' := [_, _, _, _, _, _]) (st' := [_, _]) (cs := []) rfl trivial ?_
                                refine aw_icmp_ne (tgt := 168) eX12_faultOf_160 (by decide) (by omega) (by omega) (fun h473 => ?_) (fun h473 => ?_)
                                · first
                                  | (exfalso; omega; done)
                                  | (refine aw_blk oX12_faultOf_168 (pc' := 170) (ls' := [_, _, _, _, _, _]) (st' := [_]) (cs := []) rfl trivial ?_
                                     refine aw_blk oX12_faultOf_170 (pc' := 224) (ls' := [_, _, _, _, _, _]) (st' := []) (cs := []) rfl trivial ?_
                                     refine aw_blk oX12_faultOf_224 (pc' := 226) (ls' := [_, _, _, _, _, _]) (st' := [_]) (cs := []) rfl trivial ?_
                                     refine aw_if_ge (tgt := 231) eX12_faultOf_226 (by decide) (by omega) (fun h474 => ?_) (fun h474 => ?_)
                                     · first
                                       | (exfalso; omega; done)
                                       | (refine aw_blk oX12_faultOf_231 (pc' := 4) (ls' := [_, _, _, _, _, _]) (st' := []) (cs := []) rfl trivial ?_
                                          exact T _ (by rw [af_8]) (by decide) _ _ _)
                                     · first
                                       | (exfalso; omega; done)
                                       | (refine aw_blk oX12_faultOf_229 (pc' := 230) (ls' := [_, _, _, _, _, _]) (st' := [_]) (cs := []) rfl trivial ?_
                                          refine aw_iret eX12_faultOf_230 rfl (Nat.le_refl _) (Nat.le_refl _) ?_
                                          exact pe_i (F (by rw [af_8])).symm rfl rfl))
                                · first
                                  | (exfalso; omega; done)
                                  | (refine aw_blk oX12_faultOf_163 (pc' := 170) (ls' := [_, _, _, _, _, _]) (st' := [_]) (cs := []) rfl trivial ?_
                                     refine aw_blk oX12_faultOf_170 (pc' := 224) (ls' := [_, _, _, _, _, _]) (st' := []) (cs := []) rfl trivial ?_
                                     refine aw_blk oX12_faultOf_224 (pc' := 226) (ls' := [_, _, _, _, _, _]) (st' := [_]) (cs := []) rfl trivial ?_
                                     refine aw_if_ge (tgt := 231) eX12_faultOf_226 (by decide) (by omega) (fun h475 => ?_) (fun h475 => ?_)
                                     · first
                                       | (exfalso; omega; done)
                                       | (refine aw_blk oX12_faultOf_231 (pc' := 4) (ls' := [_, _, _, _, _, _]) (st' := []) (cs := []) rfl trivial ?_
                                          exact T _ (by rw [af_8]) (by decide) _ _ _)
                                     · first
                                       | (exfalso; omega; done)
                                       | (refine aw_blk oX12_faultOf_229 (pc' := 230) (ls' := [_, _, _, _, _, _]) (st' := [_]) (cs := []) rfl trivial ?_
                                          refine aw_iret eX12_faultOf_230 rfl (Nat.le_refl _) (Nat.le_refl _) ?_
                                          exact pe_i (F (by rw [af_8])).symm rfl rfl))))
                      · first
                        | (exfalso; omega; done)
                        | (refine aw_blk oX12_faultOf_130 (pc' := 132) (ls' := [_, _, _, _, _, _]) (st' := [_, _]) (cs := []) rfl trivial ?_
                           refine aw_icmp_ge (tgt := 141) eX12_faultOf_132 (by decide) (by omega) (by omega) (fun h476 => ?_) (fun h476 => ?_)
                           · first
                             | (exfalso; omega; done)
                             | (refine aw_blk oX12_faultOf_141 (pc' := 143) (ls' := [_, _, _, _, _, _]) (st' := [_]) (cs := []) rfl trivial ?_
                                refine aw_blk oX12_faultOf_143 (pc' := 224) (ls' := [_, _, _, _, _, _]) (st' := []) (cs := []) rfl trivial ?_
                                refine aw_blk oX12_faultOf_224 (pc' := 226) (ls' := [_, _, _, _, _, _]) (st' := [_]) (cs := []) rfl trivial ?_
                                refine aw_if_ge (tgt := 231) eX12_faultOf_226 (by decide) (by omega) (fun h477 => ?_) (fun h477 => ?_)
                                · first
                                  | (exfalso; omega; done)
                                  | (refine aw_blk oX12_faultOf_231 (pc' := 4) (ls' := [_, _, _, _, _, _]) (st' := []) (cs := []) rfl trivial ?_
                                     exact T _ (by rw [af_8]) (by decide) _ _ _)
                                · first
                                  | (exfalso; omega; done)
                                  | (refine aw_blk oX12_faultOf_229 (pc' := 230) (ls' := [_, _, _, _, _, _]) (st' := [_]) (cs := []) rfl trivial ?_
                                     refine aw_iret eX12_faultOf_230 rfl (Nat.le_refl _) (Nat.le_refl _) ?_
                                     exact pe_i (F (by rw [af_8])).symm rfl rfl))
                           · first
                             | (exfalso; omega; done)
                             | (refine aw_blk oX12_faultOf_135 (pc' := 143) (ls' := [_, _, _, _, _, _]) (st' := [_]) (cs := []) rfl trivial ?_
                                refine aw_blk oX12_faultOf_143 (pc' := 224) (ls' := [_, _, _, _, _, _]) (st' := []) (cs := []) rfl trivial ?_
                                refine aw_blk oX12_faultOf_224 (pc' := 226) (ls' := [_, _, _, _, _, _]) (st' := [_]) (cs := []) rfl trivial ?_
                                refine aw_if_ge (tgt := 231) eX12_faultOf_226 (by decide) (by omega) (fun h478 => ?_) (fun h478 => ?_)
                                · first
                                  | (exfalso; omega; done)
                                  | (refine aw_blk oX12_faultOf_231 (pc' := 4) (ls' := [_, _, _, _, _, _]) (st' := []) (cs := []) rfl trivial ?_
                                     exact T _ (by rw [af_8]) (by decide) _ _ _)
                                · first
                                  | (exfalso; omega; done)
                                  | (refine aw_blk oX12_faultOf_229 (pc' := 230) (ls' := [_, _, _, _, _, _]) (st' := [_]) (cs := []) rfl trivial ?_
                                     refine aw_iret eX12_faultOf_230 rfl (Nat.le_refl _) (Nat.le_refl _) ?_
                                     exact pe_i (F (by rw [af_8])).symm rfl rfl)))))
            · first
              | (exfalso; omega; done)
              | (refine aw_blk oX12_faultOf_93 (pc' := 96) (ls' := [_, _, _, _, _, _]) (st' := [_, _]) (cs := []) rfl trivial ?_
                 refine aw_icmp_eq (tgt := 105) eX12_faultOf_96 (by decide) (by omega) (by omega) (fun h479 => ?_) (fun h479 => ?_)
                 · first
                   | (exfalso; omega; done)
                   | (refine aw_blk oX12_faultOf_105 (pc' := 111) (ls' := [_, _, _, _, _, _]) (st' := [_]) (cs := []) rfl trivial ?_
                      refine aw_blk oX12_faultOf_111 (pc' := 224) (ls' := [_, _, _, _, _, _]) (st' := []) (cs := []) rfl trivial ?_
                      refine aw_blk oX12_faultOf_224 (pc' := 226) (ls' := [_, _, _, _, _, _]) (st' := [_]) (cs := []) rfl trivial ?_
                      refine aw_if_ge (tgt := 231) eX12_faultOf_226 (by decide) (by omega) (fun h480 => ?_) (fun h480 => ?_)
                      · first
                        | (exfalso; omega; done)
                        | (refine aw_blk oX12_faultOf_231 (pc' := 4) (ls' := [_, _, _, _, _, _]) (st' := []) (cs := []) rfl trivial ?_
                           exact T _ (by rw [af_8]) (by decide) _ _ _)
                      · first
                        | (exfalso; omega; done)
                        | (refine aw_blk oX12_faultOf_229 (pc' := 230) (ls' := [_, _, _, _, _, _]) (st' := [_]) (cs := []) rfl trivial ?_
                           refine aw_iret eX12_faultOf_230 rfl (Nat.le_refl _) (Nat.le_refl _) ?_
                           exact pe_i (F (by rw [af_8])).symm rfl rfl))
                 · first
                   | (exfalso; omega; done)
                   | (refine aw_blk oX12_faultOf_99 (pc' := 102) (ls' := [_, _, _, _, _, _]) (st' := [_, _]) (cs := []) rfl trivial ?_
                      refine aw_icmp_ne (tgt := 109) eX12_faultOf_102 (by decide) (by omega) (by omega) (fun h481 => ?_) (fun h481 => ?_)
                      · first
                        | (exfalso; omega; done)
                        | (refine aw_blk oX12_faultOf_109 (pc' := 111) (ls' := [_, _, _, _, _, _]) (st' := [_]) (cs := []) rfl trivial ?_
                           refine aw_blk oX12_faultOf_111 (pc' := 224) (ls' := [_, _, _, _, _, _]) (st' := []) (cs := []) rfl trivial ?_
                           refine aw_blk oX12_faultOf_224 (pc' := 226) (ls' := [_, _, _, _, _, _]) (st' := [_]) (cs := []) rfl trivial ?_
                           refine aw_if_ge (tgt := 231) eX12_faultOf_226 (by decide) (by omega) (fun h482 => ?_) (fun h482 => ?_)
                           · first
                             | (exfalso; omega; done)
                             | (refine aw_blk oX12_faultOf_231 (pc' := 4) (ls' := [_, _, _, _, _, _]) (st' := []) (cs := []) rfl trivial ?_
                                exact T _ (by rw [af_8]) (by decide) _ _ _)
                           · first
                             | (exfalso; omega; done)
                             | (refine aw_blk oX12_faultOf_229 (pc' := 230) (ls' := [_, _, _, _, _, _]) (st' := [_]) (cs := []) rfl trivial ?_
                                refine aw_iret eX12_faultOf_230 rfl (Nat.le_refl _) (Nat.le_refl _) ?_
                                exact pe_i (F (by rw [af_8])).symm rfl rfl))
                      · first
                        | (exfalso; omega; done)
                        | (refine aw_blk oX12_faultOf_105 (pc' := 111) (ls' := [_, _, _, _, _, _]) (st' := [_]) (cs := []) rfl trivial ?_
                           refine aw_blk oX12_faultOf_111 (pc' := 224) (ls' := [_, _, _, _, _, _]) (st' := []) (cs := []) rfl trivial ?_
                           refine aw_blk oX12_faultOf_224 (pc' := 226) (ls' := [_, _, _, _, _, _]) (st' := [_]) (cs := []) rfl trivial ?_
                           refine aw_if_ge (tgt := 231) eX12_faultOf_226 (by decide) (by omega) (fun h483 => ?_) (fun h483 => ?_)
                           · first
                             | (exfalso; omega; done)
                             | (refine aw_blk oX12_faultOf_231 (pc' := 4) (ls' := [_, _, _, _, _, _]) (st' := []) (cs := []) rfl trivial ?_
                                exact T _ (by rw [af_8]) (by decide) _ _ _)
                           · first
                             | (exfalso; omega; done)
                             | (refine aw_blk oX12_faultOf_229 (pc' := 230) (ls' := [_, _, _, _, _, _]) (st' := [_]) (cs := []) rfl trivial ?_
                                refine aw_iret eX12_faultOf_230 rfl (Nat.le_refl _) (Nat.le_refl _) ?_
                                exact pe_i (F (by rw [af_8])).symm rfl rfl)))))
       · first
         | (exfalso; omega; done)
         | (refine aw_blk oX12_faultOf_37 (pc' := 40) (ls' := [_, _, _, _, _, _]) (st' := [_, _]) (cs := []) rfl trivial ?_
            refine aw_icmp_eq (tgt := 61) eX12_faultOf_40 (by decide) (by omega) (by omega) (fun h484 => ?_) (fun h484 => ?_)
            · first
              | (exfalso; omega; done)
              | (refine aw_blk oX12_faultOf_61 (pc' := 83) (ls' := [_, _, _, _, _, _]) (st' := [_]) (cs := []) rfl trivial ?_
                 refine aw_blk oX12_faultOf_83 (pc' := 224) (ls' := [_, _, _, _, _, _]) (st' := []) (cs := []) rfl trivial ?_
                 refine aw_blk oX12_faultOf_224 (pc' := 226) (ls' := [_, _, _, _, _, _]) (st' := [_]) (cs := []) rfl trivial ?_
                 refine aw_if_ge (tgt := 231) eX12_faultOf_226 (by decide) (by omega) (fun h485 => ?_) (fun h485 => ?_)
                 · first
                   | (exfalso; omega; done)
                   | (refine aw_blk oX12_faultOf_231 (pc' := 4) (ls' := [_, _, _, _, _, _]) (st' := []) (cs := []) rfl trivial ?_
                      exact T _ (by rw [af_8]) (by decide) _ _ _)
                 · first
                   | (exfalso; omega; done)
                   | (refine aw_blk oX12_faultOf_229 (pc' := 230) (ls' := [_, _, _, _, _, _]) (st' := [_]) (cs := []) rfl trivial ?_
                      refine aw_iret eX12_faultOf_230 rfl (Nat.le_refl _) (Nat.le_refl _) ?_
                      exact pe_i (F (by rw [af_8])).symm rfl rfl))
            · first
              | (exfalso; omega; done)
              | (refine aw_blk oX12_faultOf_43 (pc' := 46) (ls' := [_, _, _, _, _, _]) (st' := [_, _]) (cs := []) rfl trivial ?_
                 refine aw_icmp_eq (tgt := 61) eX12_faultOf_46 (by decide) (by omega) (by omega) (fun h486 => ?_) (fun h486 => ?_)
                 · first
                   | (exfalso; omega; done)
                   | (refine aw_blk oX12_faultOf_61 (pc' := 83) (ls' := [_, _, _, _, _, _]) (st' := [_]) (cs := []) rfl trivial ?_
                      refine aw_blk oX12_faultOf_83 (pc' := 224) (ls' := [_, _, _, _, _, _]) (st' := []) (cs := []) rfl trivial ?_
                      refine aw_blk oX12_faultOf_224 (pc' := 226) (ls' := [_, _, _, _, _, _]) (st' := [_]) (cs := []) rfl trivial ?_
                      refine aw_if_ge (tgt := 231) eX12_faultOf_226 (by decide) (by omega) (fun h487 => ?_) (fun h487 => ?_)
                      · first
                        | (exfalso; omega; done)
                        | (refine aw_blk oX12_faultOf_231 (pc' := 4) (ls' := [_, _, _, _, _, _]) (st' := []) (cs := []) rfl trivial ?_
                           exact T _ (by rw [af_8]) (by decide) _ _ _)
                      · first
                        | (exfalso; omega; done)
                        | (refine aw_blk oX12_faultOf_229 (pc' := 230) (ls' := [_, _, _, _, _, _]) (st' := [_]) (cs := []) rfl trivial ?_
                           refine aw_iret eX12_faultOf_230 rfl (Nat.le_refl _) (Nat.le_refl _) ?_
                           exact pe_i (F (by rw [af_8])).symm rfl rfl))
                 · first
                   | (exfalso; omega; done)
                   | (refine aw_blk oX12_faultOf_49 (pc' := 52) (ls' := [_, _, _, _, _, _]) (st' := [_, _]) (cs := []) rfl trivial ?_
                      refine aw_icmp_eq (tgt := 61) eX12_faultOf_52 (by decide) (by omega) (by omega) (fun h488 => ?_) (fun h488 => ?_)
                      · first
                        | (exfalso; omega; done)
                        | (refine aw_blk oX12_faultOf_61 (pc' := 83) (ls' := [_, _, _, _, _, _]) (st' := [_]) (cs := []) rfl trivial ?_
                           refine aw_blk oX12_faultOf_83 (pc' := 224) (ls' := [_, _, _, _, _, _]) (st' := []) (cs := []) rfl trivial ?_
                           refine aw_blk oX12_faultOf_224 (pc' := 226) (ls' := [_, _, _, _, _, _]) (st' := [_]) (cs := []) rfl trivial ?_
                           refine aw_if_ge (tgt := 231) eX12_faultOf_226 (by decide) (by omega) (fun h489 => ?_) (fun h489 => ?_)
                           · first
                             | (exfalso; omega; done)
                             | (refine aw_blk oX12_faultOf_231 (pc' := 4) (ls' := [_, _, _, _, _, _]) (st' := []) (cs := []) rfl trivial ?_
                                exact T _ (by rw [af_8]) (by decide) _ _ _)
                           · first
                             | (exfalso; omega; done)
                             | (refine aw_blk oX12_faultOf_229 (pc' := 230) (ls' := [_, _, _, _, _, _]) (st' := [_]) (cs := []) rfl trivial ?_
                                refine aw_iret eX12_faultOf_230 rfl (Nat.le_refl _) (Nat.le_refl _) ?_
                                exact pe_i (F (by rw [af_8])).symm rfl rfl))
                      · first
                        | (exfalso; omega; done)
                        | (refine aw_blk oX12_faultOf_55 (pc' := 58) (ls' := [_, _, _, _, _, _]) (st' := [_, _]) (cs := []) rfl trivial ?_
                           refine aw_icmp_ne (tgt := 65) eX12_faultOf_58 (by decide) (by omega) (by omega) (fun h490 => ?_) (fun h490 => ?_)
                           · first
                             | (exfalso; omega; done)
                             | (refine aw_blk oX12_faultOf_65 (pc' := 70) (ls' := [_, _, _, _, _, _]) (st' := [_, _, _]) (cs := []) rfl trivial ?_
                                refine aw_ciS (rest := []) (c_X12_in (by omega) (by omega) (by omega)) kX12_in eX12_faultOf_70 lX12_faultOf_70 rfl rfl (Nat.le_of_ble_eq_true rfl) ⟨Nat.le_of_ble_eq_true rfl, Nat.le_of_ble_eq_true rfl⟩ ⟨Nat.le_refl _, Nat.le_refl _⟩ ?_
                                refine aw_if_eq (tgt := 81) eX12_faultOf_73 (by decide) bt_r (fun hh => have h491 := bt0 hh; ?_) (fun hh => have h491 := bt1 hh; ?_)
                                · first
                                  | (exfalso; omega; done)
                                  | (refine aw_blk oX12_faultOf_81 (pc' := 83) (ls' := [_, _, _, _, _, _]) (st' := [_]) (cs := []) rfl trivial ?_
                                     refine aw_blk oX12_faultOf_83 (pc' := 224) (ls' := [_, _, _, _, _, _]) (st' := []) (cs := []) rfl trivial ?_
                                     refine aw_blk oX12_faultOf_224 (pc' := 226) (ls' := [_, _, _, _, _, _]) (st' := [_]) (cs := []) rfl trivial ?_
                                     refine aw_if_ge (tgt := 231) eX12_faultOf_226 (by decide) (by omega) (fun h492 => ?_) (fun h492 => ?_)
                                     · first
                                       | (exfalso; omega; done)
                                       | (refine aw_blk oX12_faultOf_231 (pc' := 4) (ls' := [_, _, _, _, _, _]) (st' := []) (cs := []) rfl trivial ?_
                                          exact T _ (by rw [af_8]) (by decide) _ _ _)
                                     · first
                                       | (exfalso; omega; done)
                                       | (refine aw_blk oX12_faultOf_229 (pc' := 230) (ls' := [_, _, _, _, _, _]) (st' := [_]) (cs := []) rfl trivial ?_
                                          refine aw_iret eX12_faultOf_230 rfl (Nat.le_refl _) (Nat.le_refl _) ?_
                                          exact pe_i (F (by rw [af_8])).symm rfl rfl))
                                · first
                                  | (exfalso; omega; done)
                                  | (refine aw_blk oX12_faultOf_76 (pc' := 83) (ls' := [_, _, _, _, _, _]) (st' := [_]) (cs := []) rfl trivial ?_
                                     refine aw_blk oX12_faultOf_83 (pc' := 224) (ls' := [_, _, _, _, _, _]) (st' := []) (cs := []) rfl trivial ?_
                                     refine aw_blk oX12_faultOf_224 (pc' := 226) (ls' := [_, _, _, _, _, _]) (st' := [_]) (cs := []) rfl trivial ?_
                                     refine aw_if_ge (tgt := 231) eX12_faultOf_226 (by decide) (by omega) (fun h493 => ?_) (fun h493 => ?_)
                                     · first
                                       | (exfalso; omega; done)
                                       | (refine aw_blk oX12_faultOf_231 (pc' := 4) (ls' := [_, _, _, _, _, _]) (st' := []) (cs := []) rfl trivial ?_
                                          exact T _ (by rw [af_8]) (by decide) _ _ _)
                                     · first
                                       | (exfalso; omega; done)
                                       | (refine aw_blk oX12_faultOf_229 (pc' := 230) (ls' := [_, _, _, _, _, _]) (st' := [_]) (cs := []) rfl trivial ?_
                                          refine aw_iret eX12_faultOf_230 rfl (Nat.le_refl _) (Nat.le_refl _) ?_
                                          exact pe_i (F (by rw [af_8])).symm rfl rfl)))
                           · first
                             | (exfalso; omega; done)
                             | (refine aw_blk oX12_faultOf_61 (pc' := 83) (ls' := [_, _, _, _, _, _]) (st' := [_]) (cs := []) rfl trivial ?_
                                refine aw_blk oX12_faultOf_83 (pc' := 224) (ls' := [_, _, _, _, _, _]) (st' := []) (cs := []) rfl trivial ?_
                                refine aw_blk oX12_faultOf_224 (pc' := 226) (ls' := [_, _, _, _, _, _]) (st' := [_]) (cs := []) rfl trivial ?_
                                refine aw_if_ge (tgt := 231) eX12_faultOf_226 (by decide) (by omega) (fun h494 => ?_) (fun h494 => ?_)
                                · first
                                  | (exfalso; omega; done)
                                  | (refine aw_blk oX12_faultOf_231 (pc' := 4) (ls' := [_, _, _, _, _, _]) (st' := []) (cs := []) rfl trivial ?_
                                     exact T _ (by rw [af_8]) (by decide) _ _ _)
                                · first
                                  | (exfalso; omega; done)
                                  | (refine aw_blk oX12_faultOf_229 (pc' := 230) (ls' := [_, _, _, _, _, _]) (st' := [_]) (cs := []) rfl trivial ?_
                                     refine aw_iret eX12_faultOf_230 rfl (Nat.le_refl _) (Nat.le_refl _) ?_
                                     exact pe_i (F (by rw [af_8])).symm rfl rfl)))))))
theorem l_faultOfU {κ : KX} {μ : MM} {ν : ML} {sg : Int → Int} {N : Int} (hN : 0 ≤ N ∧ N ≤ 40) (e8 : μ 55 8 = N) (b : ∀ x : Int, 0 ≤ x → x < 40 → μ 61 x = sg x ∧ 0 ≤ sg x ∧ sg x ≤ 126) (n : Nat) : ∀ (st i : Int) (u3 u4 u5 : AV), 0 ≤ i → i + n = N → 0 ≤ st → st ≤ 8 → AX κ mX12_faultOf 1 (PE (some (aI (ff sg N n i st))) μ ν) 4 [aR 55, aI st, aI i, u3, u4, u5] [] μ ν := by
  induction n with
  | zero =>
    intro st i u3 u4 u5 h0 hn hs0 hs1
    refine aw_blk oX12_faultOf_4 (pc' := 9) (ls' := [_, _, _, _, _, _]) (st' := [_, _]) (cs := []) rfl trivial ?_
    refine aw_icmp_ge (tgt := 240) eX12_faultOf_9 (by decide) (by omega) (by omega) (fun h1 => ?_) (fun h1 => ?_)
    · refine aw_blk oX12_faultOf_240 (pc' := 243) (ls' := [_, _, _, _, _, _]) (st' := [_, _]) (cs := []) rfl trivial ?_
      refine aw_icmp_ne (tgt := 251) eX12_faultOf_243 (by decide) (by omega) (by omega) (fun h495 => ?_) (fun h495 => ?_)
      · first
        | (exfalso; omega; done)
        | (refine aw_blk oX12_faultOf_251 (pc' := 255) (ls' := [_, _, _, _, _, _]) (st' := [_]) (cs := []) rfl trivial ?_
           refine aw_iret eX12_faultOf_255 rfl (Nat.le_refl _) (Nat.le_refl _) ?_
           exact pe_i (by rw [ff]; split <;> omega) rfl rfl)
      · first
        | (exfalso; omega; done)
        | (refine aw_blk oX12_faultOf_246 (pc' := 255) (ls' := [_, _, _, _, _, _]) (st' := [_]) (cs := []) rfl trivial ?_
           refine aw_iret eX12_faultOf_255 rfl (Nat.le_refl _) (Nat.le_refl _) ?_
           exact pe_i (by rw [ff]; split <;> omega) rfl rfl)
    · exfalso; omega
  | succ n ih =>
    intro st i u3 u4 u5 h0 hn hs0 hs1
    have g := b i (by omega) (by omega)
    have hb := af_bd st (sg i)
    have T : ∀ q : Int, q = af st (sg i) → q ≠ 9 → ∀ u3 u4 u5 : AV, AX κ mX12_faultOf 1 (PE (some (aI (ff sg N (n + 1) i st))) μ ν) 4 [aR 55, aI q, aI (i + 1), u3, u4, u5] [] μ ν := fun q e ne u3 u4 u5 => by
      have T := ih q (i + 1) u3 u4 u5 (by omega) (by omega) (by omega) (by omega)
      rw [ff, ← e, if_neg ne]
      exact T
    have F : af st (sg i) = 9 → ff sg N (n + 1) i st = i := fun e => by rw [ff, if_pos e]
    have a : μ 55 8 = N ∧ 0 ≤ N ∧ N ≤ 40 := ⟨e8, hN⟩
    rcases (show st = 0 ∨ st = 1 ∨ st = 2 ∨ st = 3 ∨ st = 4 ∨ st = 5 ∨ st = 6 ∨ st = 7 ∨ st = 8 by omega) with rfl | rfl | rfl | rfl | rfl | rfl | rfl | rfl | rfl
    · exact s_faultOf_0 h0 (by omega) a g T F
    · exact s_faultOf_1 h0 (by omega) a g T F
    · exact s_faultOf_2 h0 (by omega) a g T F
    · exact s_faultOf_3 h0 (by omega) a g T F
    · exact s_faultOf_4 h0 (by omega) a g T F
    · exact s_faultOf_5 h0 (by omega) a g T F
    · exact s_faultOf_6 h0 (by omega) a g T F
    · exact s_faultOf_7 h0 (by omega) a g T F
    · exact s_faultOf_8 h0 (by omega) a g T F
theorem c_faultOf {κ : KX} {μ : MM} {ν : ML} (h : RU μ) : AE κ 1 mX12_faultOf [aR 55] μ ν (some (aI (ff (μ 18) (μ 17 1) (μ 17 1).toNat 0 0))) μ ν := by
  refine AMet.of kX12_faultOf.1 (Nat.le_of_ble_eq_true rfl) rfl ?_
  refine aw_blk oX12_faultOf_0 (pc' := 4) (ls' := [_, _, _, _, _, _]) (st' := []) (cs := []) rfl trivial ?_
  exact l_faultOfU h.1.2 h.1.1 (fun x h0 h1 => h.2 x h0 h1) _ 0 0 _ _ _ (by omega) (by have := h.1; omega) (by omega) (by omega)
theorem law_fault {κ : KX} {μ : MM} {ν : ML} (h : RU μ) : LawU κ mX11_fault mX12_fault [] μ ν := by
  obtain ⟨a, b⟩ := id h
  have hb := ff_bd (s := μ 18) (cnt := μ 17 1) (by omega) (μ 17 1).toNat 0 0 (by omega) (by omega)
  refine ⟨_, μ, ν, μ, ?_, ?_, (by omega : R32 (ff (μ 18) (μ 17 1) (μ 17 1).toNat 0 0)), rfl, h, SR.rf, fun _ _ => rfl, fun _ _ => rfl⟩
  · refine AMet.of kX11_fault.1 (Nat.le_of_ble_eq_true rfl) rfl ?_
    refine aw_blk oX11_fault_0 (pc' := 4) (ls' := [_]) (st' := [_]) (cs := []) rfl trivial ?_
    refine aw_ciV (rest := []) ((c_firstFault h)) kX8_firstFault eX11_fault_4 lX11_fault_4 rfl rfl rfl rfl (Nat.le_of_ble_eq_true rfl) ⟨Nat.le_of_ble_eq_true rfl, Nat.le_of_ble_eq_true rfl⟩ ⟨Nat.le_refl _, Nat.le_refl _⟩ ?_
    refine aw_iret eX11_fault_7 rfl (Nat.le_refl _) (Nat.le_refl _) ?_
    exact pe_i rfl rfl rfl
  · refine AMet.of kX12_fault.1 (Nat.le_of_ble_eq_true rfl) rfl ?_
    refine aw_blk oX12_fault_0 (pc' := 1) (ls' := [_]) (st' := [_]) (cs := []) rfl trivial ?_
    refine aw_ciV (rest := []) ((c_faultOf h)) kX12_faultOf eX12_fault_1 lX12_fault_1 rfl rfl rfl rfl (Nat.le_of_ble_eq_true rfl) ⟨Nat.le_of_ble_eq_true rfl, Nat.le_of_ble_eq_true rfl⟩ ⟨Nat.le_refl _, Nat.le_refl _⟩ ?_
    refine aw_iret eX12_fault_4 rfl (Nat.le_refl _) (Nat.le_refl _) ?_
    exact pe_i rfl rfl rfl

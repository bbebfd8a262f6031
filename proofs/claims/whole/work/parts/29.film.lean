/-! ===== THE FILM ===== -/
def RFi (μ : MM) : Prop := (μ 55 4 = μ 14 2 ∧ 1 ≤ μ 14 2 ∧ μ 14 2 ≤ 8) ∧ (μ 55 6 = μ 14 3 ∧ 0 ≤ μ 14 3 ∧ μ 14 3 ≤ 255) ∧ PR 16 59 24 1 1000 μ ∧ PR 15 60 60 0 1000 μ
abbrev csFi : List Nat := [14, 15, 16, 59, 60]
/-- the shows are forgotten -/
def FG (μ : MM) : Prop := μ 0 11 = 0 ∧ μ 0 12 = 0
def LawF (κ : KX) (cx cm : MX) (As : List AV) (μ : MM) (ν : ML) : Prop := LawX (fun μ2 ν2 => ν2 = ν ∧ (μ2 = μ ∨ (RFi μ2 ∧ SR (0 :: 55 :: csFi) μ μ2 ∧ SF [4, 6] μ μ2 ∧ FG μ2))) κ cx cm As μ ν
theorem c_forget {κ : KX} {μ : MM} {ν : ML} : AE κ 0 mX11_forgetShows [aR 0] μ ν none (up (up μ 0 11 0) 0 12 0) ν := by
  refine AMet.of kX11_forgetShows.1 (Nat.le_of_ble_eq_true rfl) rfl ?_
  refine aw_blk oX11_forgetShows_0 (pc' := 10) (ls' := [_]) (st' := []) (cs := [(_, _), (_, _)]) rfl (⟨⟨by omega, by omega⟩, ⟨by omega, by omega⟩, trivial⟩) ?_
  refine aw_vret eX11_forgetShows_10 rfl (Nat.le_refl _) (Nat.le_refl _) ?_
  exact pe_v rfl rfl
theorem c_changeBits {κ : KX} {μ : MM} {ν : ML} {p s v : Int} (hp : 0 ≤ p ∧ p < 8) (hs : 0 ≤ s ∧ s < 3) : AE κ 0 mX2_changeBits [aR 14, aI p, aI s, aI v] μ ν (some (aI (μ 16 (p * 3 + s)))) (up μ 16 (p * 3 + s) v) ν := by
  refine AMet.of kX2_changeBits.1 (Nat.le_of_ble_eq_true rfl) rfl ?_
  refine aw_blk oX2_changeBits_0 (pc' := 25) (ls' := [_, _, _, _, _]) (st' := [_]) (cs := [(_, _), (_, _)]) rfl (⟨⟨by omega, by omega⟩, ⟨by omega, by omega⟩, trivial⟩) ?_
  refine aw_iret eX2_changeBits_25 rfl (Nat.le_refl _) (Nat.le_refl _) ?_
  exact pe_i rfl rfl rfl
theorem law_pieces {κ : KX} {μ : MM} {ν : ML} {n : Int} (h : RFi μ) (hn : R32 n) : LawF κ mX11_pieces mX12_pieces [aI n] μ ν := by
  obtain ⟨a, b, c, d⟩ := id h
  by_cases c1 : 1 ≤ n ∧ n ≤ 8
  · refine ⟨μ 14 2, up (up (up μ 14 2 n) 0 11 0) 0 12 0, ν, up (up (up (up μ 14 2 n) 0 11 0) 0 12 0) 55 4 n, ?_, ?_, by omega, rfl, Or.inr ⟨?_, ?_, ?_, rfl, rfl⟩⟩
    · refine AMet.of kX11_pieces.1 (Nat.le_of_ble_eq_true rfl) rfl ?_
      refine aw_blk oX11_pieces_0 (pc' := 4) (ls' := [_, _, _]) (st' := [_, _, _]) (cs := []) rfl trivial ?_
      refine aw_ciS (rest := []) (c_X11_between (by omega) (by omega) (by omega)) kX11_between eX11_pieces_4 lX11_pieces_4 rfl rfl (Nat.le_of_ble_eq_true rfl) ⟨Nat.le_of_ble_eq_true rfl, Nat.le_of_ble_eq_true rfl⟩ ⟨Nat.le_refl _, Nat.le_refl _⟩ ?_
      refine aw_if_ne (tgt := 13) eX11_pieces_7 (by decide) bt_r (fun hh => have h1 := bt1 hh; ?_) (fun hh => have h1 := bt0 hh; ?_)
      · first
        | (exfalso; omega; done)
        | (refine aw_blk oX11_pieces_13 (pc' := 30) (ls' := [_, _, _]) (st' := [_]) (cs := []) rfl trivial ?_
           refine aw_cvV (rest := []) (c_forget) kX11_forgetShows eX11_pieces_30 lX11_pieces_30 rfl rfl rfl rfl (Nat.le_of_ble_eq_true rfl) ⟨Nat.le_of_ble_eq_true rfl, Nat.le_of_ble_eq_true rfl⟩ ⟨Nat.le_refl _, Nat.le_refl _⟩ ?_
           refine aw_blk oX11_pieces_33 (pc' := 34) (ls' := [_, _, _]) (st' := [_]) (cs := []) rfl trivial ?_
           refine aw_iret eX11_pieces_34 rfl (Nat.le_refl _) (Nat.le_refl _) ?_
           exact pe_i rfl rfl rfl)
      · first
        | (exfalso; omega; done)
        | (refine aw_blk oX11_pieces_10 (pc' := 12) (ls' := [_, _, _]) (st' := [_]) (cs := []) rfl trivial ?_
           refine aw_iret eX11_pieces_12 rfl (Nat.le_refl _) (Nat.le_refl _) ?_
           exact pe_i rfl rfl rfl)
    · refine AMet.of kX12_pieces.1 (Nat.le_of_ble_eq_true rfl) rfl ?_
      refine aw_blk oX12_pieces_0 (pc' := 4) (ls' := [_, _, _]) (st' := [_, _, _]) (cs := []) rfl trivial ?_
      refine aw_ciS (rest := []) (c_X12_in (by omega) (by omega) (by omega)) kX12_in eX12_pieces_4 lX12_pieces_4 rfl rfl (Nat.le_of_ble_eq_true rfl) ⟨Nat.le_of_ble_eq_true rfl, Nat.le_of_ble_eq_true rfl⟩ ⟨Nat.le_refl _, Nat.le_refl _⟩ ?_
      refine aw_if_ne (tgt := 13) eX12_pieces_7 (by decide) bt_r (fun hh => have h2 := bt1 hh; ?_) (fun hh => have h2 := bt0 hh; ?_)
      · first
        | (exfalso; omega; done)
        | (refine aw_blk oX12_pieces_13 (pc' := 24) (ls' := [_, _, _]) (st' := [_]) (cs := []) rfl trivial ?_
           refine aw_iret eX12_pieces_24 rfl (Nat.le_refl _) (Nat.le_refl _) ?_
           exact pe_i a.1 rfl rfl)
      · first
        | (exfalso; omega; done)
        | (refine aw_blk oX12_pieces_10 (pc' := 12) (ls' := [_, _, _]) (st' := [_]) (cs := []) rfl trivial ?_
           refine aw_iret eX12_pieces_12 rfl (Nat.le_refl _) (Nat.le_refl _) ?_
           exact pe_i a.1 rfl rfl)
    · exact ⟨⟨rfl, c1⟩, b, c, d⟩
    · exact (((SR.rf.put (by decide)).put (by decide)).put (by decide)).put (by decide)
    · intro j hj
      rw [up_ne (Or.inr (fun e => hj (by rw [e]; decide)))]
      rfl
  · refine ⟨-2, μ, ν, μ, ?_, ?_, by decide, rfl, Or.inl rfl⟩
    · refine AMet.of kX11_pieces.1 (Nat.le_of_ble_eq_true rfl) rfl ?_
      refine aw_blk oX11_pieces_0 (pc' := 4) (ls' := [_, _, _]) (st' := [_, _, _]) (cs := []) rfl trivial ?_
      refine aw_ciS (rest := []) (c_X11_between (by omega) (by omega) (by omega)) kX11_between eX11_pieces_4 lX11_pieces_4 rfl rfl (Nat.le_of_ble_eq_true rfl) ⟨Nat.le_of_ble_eq_true rfl, Nat.le_of_ble_eq_true rfl⟩ ⟨Nat.le_refl _, Nat.le_refl _⟩ ?_
      refine aw_if_ne (tgt := 13) eX11_pieces_7 (by decide) bt_r (fun hh => have h3 := bt1 hh; ?_) (fun hh => have h3 := bt0 hh; ?_)
      · first
        | (exfalso; omega; done)
        | (refine aw_blk oX11_pieces_13 (pc' := 30) (ls' := [_, _, _]) (st' := [_]) (cs := []) rfl trivial ?_
           refine aw_cvV (rest := []) (c_forget) kX11_forgetShows eX11_pieces_30 lX11_pieces_30 rfl rfl rfl rfl (Nat.le_of_ble_eq_true rfl) ⟨Nat.le_of_ble_eq_true rfl, Nat.le_of_ble_eq_true rfl⟩ ⟨Nat.le_refl _, Nat.le_refl _⟩ ?_
           refine aw_blk oX11_pieces_33 (pc' := 34) (ls' := [_, _, _]) (st' := [_]) (cs := []) rfl trivial ?_
           refine aw_iret eX11_pieces_34 rfl (Nat.le_refl _) (Nat.le_refl _) ?_
           exact pe_i rfl rfl rfl)
      · first
        | (exfalso; omega; done)
        | (refine aw_blk oX11_pieces_10 (pc' := 12) (ls' := [_, _, _]) (st' := [_]) (cs := []) rfl trivial ?_
           refine aw_iret eX11_pieces_12 rfl (Nat.le_refl _) (Nat.le_refl _) ?_
           exact pe_i rfl rfl rfl)
    · refine AMet.of kX12_pieces.1 (Nat.le_of_ble_eq_true rfl) rfl ?_
      refine aw_blk oX12_pieces_0 (pc' := 4) (ls' := [_, _, _]) (st' := [_, _, _]) (cs := []) rfl trivial ?_
      refine aw_ciS (rest := []) (c_X12_in (by omega) (by omega) (by omega)) kX12_in eX12_pieces_4 lX12_pieces_4 rfl rfl (Nat.le_of_ble_eq_true rfl) ⟨Nat.le_of_ble_eq_true rfl, Nat.le_of_ble_eq_true rfl⟩ ⟨Nat.le_refl _, Nat.le_refl _⟩ ?_
      refine aw_if_ne (tgt := 13) eX12_pieces_7 (by decide) bt_r (fun hh => have h4 := bt1 hh; ?_) (fun hh => have h4 := bt0 hh; ?_)
      · first
        | (exfalso; omega; done)
        | (refine aw_blk oX12_pieces_13 (pc' := 24) (ls' := [_, _, _]) (st' := [_]) (cs := []) rfl trivial ?_
           refine aw_iret eX12_pieces_24 rfl (Nat.le_refl _) (Nat.le_refl _) ?_
           exact pe_i rfl rfl rfl)
      · first
        | (exfalso; omega; done)
        | (refine aw_blk oX12_pieces_10 (pc' := 12) (ls' := [_, _, _]) (st' := [_]) (cs := []) rfl trivial ?_
           refine aw_iret eX12_pieces_12 rfl (Nat.le_refl _) (Nat.le_refl _) ?_
           exact pe_i rfl rfl rfl)
theorem law_doors {κ : KX} {μ : MM} {ν : ML} {n : Int} (h : RFi μ) (hn : R32 n) : LawF κ mX11_doors mX12_doors [aI n] μ ν := by
  obtain ⟨a, b, c, d⟩ := id h
  by_cases c1 : 0 ≤ n ∧ n ≤ 255
  · refine ⟨μ 14 3, up (up (up μ 14 3 n) 0 11 0) 0 12 0, ν, up (up (up (up μ 14 3 n) 0 11 0) 0 12 0) 55 6 n, ?_, ?_, by omega, rfl, Or.inr ⟨?_, ?_, ?_, rfl, rfl⟩⟩
    · refine AMet.of kX11_doors.1 (Nat.le_of_ble_eq_true rfl) rfl ?_
      refine aw_blk oX11_doors_0 (pc' := 5) (ls' := [_, _, _]) (st' := [_, _, _]) (cs := []) rfl trivial ?_
      refine aw_ciS (rest := []) (c_X11_between (by omega) (by omega) (by omega)) kX11_between eX11_doors_5 lX11_doors_5 rfl rfl (Nat.le_of_ble_eq_true rfl) ⟨Nat.le_of_ble_eq_true rfl, Nat.le_of_ble_eq_true rfl⟩ ⟨Nat.le_refl _, Nat.le_refl _⟩ ?_
      refine aw_if_ne (tgt := 14) eX11_doors_8 (by decide) bt_r (fun hh => have h5 := bt1 hh; ?_) (fun hh => have h5 := bt0 hh; ?_)
      · first
        | (exfalso; omega; done)
        | (refine aw_blk oX11_doors_14 (pc' := 31) (ls' := [_, _, _]) (st' := [_]) (cs := []) rfl trivial ?_
           refine aw_cvV (rest := []) (c_forget) kX11_forgetShows eX11_doors_31 lX11_doors_31 rfl rfl rfl rfl (Nat.le_of_ble_eq_true rfl) ⟨Nat.le_of_ble_eq_true rfl, Nat.le_of_ble_eq_true rfl⟩ ⟨Nat.le_refl _, Nat.le_refl _⟩ ?_
           refine aw_blk oX11_doors_34 (pc' := 35) (ls' := [_, _, _]) (st' := [_]) (cs := []) rfl trivial ?_
           refine aw_iret eX11_doors_35 rfl (Nat.le_refl _) (Nat.le_refl _) ?_
           exact pe_i rfl rfl rfl)
      · first
        | (exfalso; omega; done)
        | (refine aw_blk oX11_doors_11 (pc' := 13) (ls' := [_, _, _]) (st' := [_]) (cs := []) rfl trivial ?_
           refine aw_iret eX11_doors_13 rfl (Nat.le_refl _) (Nat.le_refl _) ?_
           exact pe_i rfl rfl rfl)
    · refine AMet.of kX12_doors.1 (Nat.le_of_ble_eq_true rfl) rfl ?_
      refine aw_blk oX12_doors_0 (pc' := 5) (ls' := [_, _, _]) (st' := [_, _, _]) (cs := []) rfl trivial ?_
      refine aw_ciS (rest := []) (c_X12_in (by omega) (by omega) (by omega)) kX12_in eX12_doors_5 lX12_doors_5 rfl rfl (Nat.le_of_ble_eq_true rfl) ⟨Nat.le_of_ble_eq_true rfl, Nat.le_of_ble_eq_true rfl⟩ ⟨Nat.le_refl _, Nat.le_refl _⟩ ?_
      refine aw_if_ne (tgt := 14) eX12_doors_8 (by decide) bt_r (fun hh => have h6 := bt1 hh; ?_) (fun hh => have h6 := bt0 hh; ?_)
      · first
        | (exfalso; omega; done)
        | (refine aw_blk oX12_doors_14 (pc' := 25) (ls' := [_, _, _]) (st' := [_]) (cs := []) rfl trivial ?_
           refine aw_iret eX12_doors_25 rfl (Nat.le_refl _) (Nat.le_refl _) ?_
           exact pe_i b.1 rfl rfl)
      · first
        | (exfalso; omega; done)
        | (refine aw_blk oX12_doors_11 (pc' := 13) (ls' := [_, _, _]) (st' := [_]) (cs := []) rfl trivial ?_
           refine aw_iret eX12_doors_13 rfl (Nat.le_refl _) (Nat.le_refl _) ?_
           exact pe_i b.1 rfl rfl)
    · exact ⟨a, ⟨rfl, c1⟩, c, d⟩
    · exact (((SR.rf.put (by decide)).put (by decide)).put (by decide)).put (by decide)
    · intro j hj
      rw [up_ne (Or.inr (fun e => hj (by rw [e]; decide)))]
      rfl
  · refine ⟨-2, μ, ν, μ, ?_, ?_, by decide, rfl, Or.inl rfl⟩
    · refine AMet.of kX11_doors.1 (Nat.le_of_ble_eq_true rfl) rfl ?_
      refine aw_blk oX11_doors_0 (pc' := 5) (ls' := [_, _, _]) (st' := [_, _, _]) (cs := []) rfl trivial ?_
      refine aw_ciS (rest := []) (c_X11_between (by omega) (by omega) (by omega)) kX11_between eX11_doors_5 lX11_doors_5 rfl rfl (Nat.le_of_ble_eq_true rfl) ⟨Nat.le_of_ble_eq_true rfl, Nat.le_of_ble_eq_true rfl⟩ ⟨Nat.le_refl _, Nat.le_refl _⟩ ?_
      refine aw_if_ne (tgt := 14) eX11_doors_8 (by decide) bt_r (fun hh => have h7 := bt1 hh; ?_) (fun hh => have h7 := bt0 hh; ?_)
      · first
        | (exfalso; omega; done)
        | (refine aw_blk oX11_doors_14 (pc' := 31) (ls' := [_, _, _]) (st' := [_]) (cs := []) rfl trivial ?_
           refine aw_cvV (rest := []) (c_forget) kX11_forgetShows eX11_doors_31 lX11_doors_31 rfl rfl rfl rfl (Nat.le_of_ble_eq_true rfl) ⟨Nat.le_of_ble_eq_true rfl, Nat.le_of_ble_eq_true rfl⟩ ⟨Nat.le_refl _, Nat.le_refl _⟩ ?_
           refine aw_blk oX11_doors_34 (pc' := 35) (ls' := [_, _, _]) (st' := [_]) (cs := []) rfl trivial ?_
           refine aw_iret eX11_doors_35 rfl (Nat.le_refl _) (Nat.le_refl _) ?_
           exact pe_i rfl rfl rfl)
      · first
        | (exfalso; omega; done)
        | (refine aw_blk oX11_doors_11 (pc' := 13) (ls' := [_, _, _]) (st' := [_]) (cs := []) rfl trivial ?_
           refine aw_iret eX11_doors_13 rfl (Nat.le_refl _) (Nat.le_refl _) ?_
           exact pe_i rfl rfl rfl)
    · refine AMet.of kX12_doors.1 (Nat.le_of_ble_eq_true rfl) rfl ?_
      refine aw_blk oX12_doors_0 (pc' := 5) (ls' := [_, _, _]) (st' := [_, _, _]) (cs := []) rfl trivial ?_
      refine aw_ciS (rest := []) (c_X12_in (by omega) (by omega) (by omega)) kX12_in eX12_doors_5 lX12_doors_5 rfl rfl (Nat.le_of_ble_eq_true rfl) ⟨Nat.le_of_ble_eq_true rfl, Nat.le_of_ble_eq_true rfl⟩ ⟨Nat.le_refl _, Nat.le_refl _⟩ ?_
      refine aw_if_ne (tgt := 14) eX12_doors_8 (by decide) bt_r (fun hh => have h8 := bt1 hh; ?_) (fun hh => have h8 := bt0 hh; ?_)
      · first
        | (exfalso; omega; done)
        | (refine aw_blk oX12_doors_14 (pc' := 25) (ls' := [_, _, _]) (st' := [_]) (cs := []) rfl trivial ?_
           refine aw_iret eX12_doors_25 rfl (Nat.le_refl _) (Nat.le_refl _) ?_
           exact pe_i rfl rfl rfl)
      · first
        | (exfalso; omega; done)
        | (refine aw_blk oX12_doors_11 (pc' := 13) (ls' := [_, _, _]) (st' := [_]) (cs := []) rfl trivial ?_
           refine aw_iret eX12_doors_13 rfl (Nat.le_refl _) (Nat.le_refl _) ?_
           exact pe_i rfl rfl rfl)
theorem PR.up2' {c m : Nat} {n lo hi : Int} {μ : MM} (h : PR c m n lo hi μ) (hcm : c ≠ m) {i v : Int} (h1 : lo ≤ v) (h2 : v ≤ hi) {μ' : MM} (ec : μ' c = (up μ c i v) c) (em : μ' m = up μ m i v m) : PR c m n lo hi μ' := by
  intro x hx0 hx1
  have g := h x hx0 hx1
  rw [ec, em]
  by_cases e : x = i
  · subst e
    rw [up_at, up_at]
    exact ⟨rfl, h1, h2⟩
  · rw [up_ne (Or.inr e), up_ne (Or.inr e)]
    exact g
theorem law_bits {κ : KX} {μ : MM} {ν : ML} {p s v : Int} (h : RFi μ) (hp : R32 p) (hs : R32 s) (hv : R32 v) : LawF κ mX11_bits mX12_bits [aI p, aI s, aI v] μ ν := by
  obtain ⟨a, b, c, d⟩ := id h
  by_cases c1 : 0 ≤ p ∧ p ≤ 7
  · by_cases c2 : (0 ≤ s ∧ s ≤ 2) ∧ (1 ≤ v ∧ v ≤ 1000)
    · have g := c (p * 3 + s) (by omega) (by omega)
      have g' : μ 59 (3 * p + s) = μ 16 (p * 3 + s) := by rw [show 3 * p + s = p * 3 + s by omega]; exact g.1
      refine ⟨μ 16 (p * 3 + s), up (up (up μ 0 11 0) 0 12 0) 16 (p * 3 + s) v, ν, up (up (up (up μ 0 11 0) 0 12 0) 16 (p * 3 + s) v) 59 (3 * p + s) v, ?_, ?_, by omega, rfl, Or.inr ⟨?_, ?_, ?_, rfl, rfl⟩⟩
      · refine AMet.of kX11_bits.1 (Nat.le_of_ble_eq_true rfl) rfl ?_
        refine aw_blk oX11_bits_0 (pc' := 4) (ls' := [_, _, _, _]) (st' := [_, _, _]) (cs := []) rfl trivial ?_
        refine aw_ciS (rest := []) (c_X11_between (by omega) (by omega) (by omega)) kX11_between eX11_bits_4 lX11_bits_4 rfl rfl (Nat.le_of_ble_eq_true rfl) ⟨Nat.le_of_ble_eq_true rfl, Nat.le_of_ble_eq_true rfl⟩ ⟨Nat.le_refl _, Nat.le_refl _⟩ ?_
        refine aw_if_ne (tgt := 12) eX11_bits_7 (by decide) bt_r (fun hh => have h9 := bt1 hh; ?_) (fun hh => have h9 := bt0 hh; ?_)
        · first
          | (exfalso; omega; done)
          | (refine aw_blk oX11_bits_12 (pc' := 15) (ls' := [_, _, _, _]) (st' := [_, _, _]) (cs := []) rfl trivial ?_
             refine aw_ciS (rest := []) (c_X11_between (by omega) (by omega) (by omega)) kX11_between eX11_bits_15 lX11_bits_15 rfl rfl (Nat.le_of_ble_eq_true rfl) ⟨Nat.le_of_ble_eq_true rfl, Nat.le_of_ble_eq_true rfl⟩ ⟨Nat.le_refl _, Nat.le_refl _⟩ ?_
             refine aw_if_eq (tgt := 32) eX11_bits_18 (by decide) bt_r (fun hh => have h10 := bt0 hh; ?_) (fun hh => have h10 := bt1 hh; ?_)
             · first
               | (exfalso; omega; done)
               | (refine aw_blk oX11_bits_32 (pc' := 34) (ls' := [_, _, _, _]) (st' := [_]) (cs := []) rfl trivial ?_
                  refine aw_iret eX11_bits_34 rfl (Nat.le_refl _) (Nat.le_refl _) ?_
                  exact pe_i rfl rfl rfl)
             · first
               | (exfalso; omega; done)
               | (refine aw_blk oX11_bits_21 (pc' := 26) (ls' := [_, _, _, _]) (st' := [_, _, _]) (cs := []) rfl trivial ?_
                  refine aw_ciS (rest := []) (c_X11_between (by omega) (by omega) (by omega)) kX11_between eX11_bits_26 lX11_bits_26 rfl rfl (Nat.le_of_ble_eq_true rfl) ⟨Nat.le_of_ble_eq_true rfl, Nat.le_of_ble_eq_true rfl⟩ ⟨Nat.le_refl _, Nat.le_refl _⟩ ?_
                  refine aw_if_ne (tgt := 35) eX11_bits_29 (by decide) bt_r (fun hh => have h11 := bt1 hh; ?_) (fun hh => have h11 := bt0 hh; ?_)
                  · first
                    | (exfalso; omega; done)
                    | (refine aw_blk oX11_bits_35 (pc' := 36) (ls' := [_, _, _, _]) (st' := [_]) (cs := []) rfl trivial ?_
                       refine aw_cvV (rest := []) (c_forget) kX11_forgetShows eX11_bits_36 lX11_bits_36 rfl rfl rfl rfl (Nat.le_of_ble_eq_true rfl) ⟨Nat.le_of_ble_eq_true rfl, Nat.le_of_ble_eq_true rfl⟩ ⟨Nat.le_refl _, Nat.le_refl _⟩ ?_
                       refine aw_blk oX11_bits_39 (pc' := 46) (ls' := [_, _, _, _]) (st' := [_, _, _, _]) (cs := []) rfl trivial ?_
                       refine aw_ciV (rest := []) ((c_changeBits (by omega) (by omega))) kX2_changeBits eX11_bits_46 lX11_bits_46 rfl rfl rfl rfl (Nat.le_of_ble_eq_true rfl) ⟨Nat.le_of_ble_eq_true rfl, Nat.le_of_ble_eq_true rfl⟩ ⟨Nat.le_refl _, Nat.le_refl _⟩ ?_
                       refine aw_iret eX11_bits_49 rfl (Nat.le_refl _) (Nat.le_refl _) ?_
                       exact pe_i rfl rfl rfl)
                  · first
                    | (exfalso; omega; done)
                    | (refine aw_blk oX11_bits_32 (pc' := 34) (ls' := [_, _, _, _]) (st' := [_]) (cs := []) rfl trivial ?_
                       refine aw_iret eX11_bits_34 rfl (Nat.le_refl _) (Nat.le_refl _) ?_
                       exact pe_i rfl rfl rfl)))
        · first
          | (exfalso; omega; done)
          | (refine aw_blk oX11_bits_10 (pc' := 11) (ls' := [_, _, _, _]) (st' := [_]) (cs := []) rfl trivial ?_
             refine aw_iret eX11_bits_11 rfl (Nat.le_refl _) (Nat.le_refl _) ?_
             exact pe_i rfl rfl rfl)
      · refine AMet.of kX12_bits.1 (Nat.le_of_ble_eq_true rfl) rfl ?_
        refine aw_blk oX12_bits_0 (pc' := 4) (ls' := [_, _, _, _, _]) (st' := [_, _, _]) (cs := []) rfl trivial ?_
        refine aw_ciS (rest := []) (c_X12_in (by omega) (by omega) (by omega)) kX12_in eX12_bits_4 lX12_bits_4 rfl rfl (Nat.le_of_ble_eq_true rfl) ⟨Nat.le_of_ble_eq_true rfl, Nat.le_of_ble_eq_true rfl⟩ ⟨Nat.le_refl _, Nat.le_refl _⟩ ?_
        refine aw_if_ne (tgt := 12) eX12_bits_7 (by decide) bt_r (fun hh => have h12 := bt1 hh; ?_) (fun hh => have h12 := bt0 hh; ?_)
        · first
          | (exfalso; omega; done)
          | (refine aw_blk oX12_bits_12 (pc' := 15) (ls' := [_, _, _, _, _]) (st' := [_, _, _]) (cs := []) rfl trivial ?_
             refine aw_ciS (rest := []) (c_X12_in (by omega) (by omega) (by omega)) kX12_in eX12_bits_15 lX12_bits_15 rfl rfl (Nat.le_of_ble_eq_true rfl) ⟨Nat.le_of_ble_eq_true rfl, Nat.le_of_ble_eq_true rfl⟩ ⟨Nat.le_refl _, Nat.le_refl _⟩ ?_
             refine aw_if_eq (tgt := 32) eX12_bits_18 (by decide) bt_r (fun hh => have h13 := bt0 hh; ?_) (fun hh => have h13 := bt1 hh; ?_)
             · first
               | (exfalso; omega; done)
               | (refine aw_blk oX12_bits_32 (pc' := 34) (ls' := [_, _, _, _, _]) (st' := [_]) (cs := []) rfl trivial ?_
                  refine aw_iret eX12_bits_34 rfl (Nat.le_refl _) (Nat.le_refl _) ?_
                  exact pe_i g' rfl rfl)
             · first
               | (exfalso; omega; done)
               | (refine aw_blk oX12_bits_21 (pc' := 26) (ls' := [_, _, _, _, _]) (st' := [_, _, _]) (cs := []) rfl trivial ?_
                  refine aw_ciS (rest := []) (c_X12_in (by omega) (by omega) (by omega)) kX12_in eX12_bits_26 lX12_bits_26 rfl rfl (Nat.le_of_ble_eq_true rfl) ⟨Nat.le_of_ble_eq_true rfl, Nat.le_of_ble_eq_true rfl⟩ ⟨Nat.le_refl _, Nat.le_refl _⟩ ?_
                  refine aw_if_ne (tgt := 35) eX12_bits_29 (by decide) bt_r (fun hh => have h14 := bt1 hh; ?_) (fun hh => have h14 := bt0 hh; ?_)
                  · first
                    | (exfalso; omega; done)
                    | (refine aw_blk oX12_bits_35 (pc' := 60) (ls' := [_, _, _, _, _]) (st' := [_]) (cs := [(_, _), (_, _)]) rfl (⟨⟨by omega, by omega⟩, ⟨by omega, by omega⟩, trivial⟩) ?_
                       refine aw_iret eX12_bits_60 rfl (Nat.le_refl _) (Nat.le_refl _) ?_
                       exact pe_i g' rfl rfl)
                  · first
                    | (exfalso; omega; done)
                    | (refine aw_blk oX12_bits_32 (pc' := 34) (ls' := [_, _, _, _, _]) (st' := [_]) (cs := []) rfl trivial ?_
                       refine aw_iret eX12_bits_34 rfl (Nat.le_refl _) (Nat.le_refl _) ?_
                       exact pe_i g' rfl rfl)))
        · first
          | (exfalso; omega; done)
          | (refine aw_blk oX12_bits_10 (pc' := 11) (ls' := [_, _, _, _, _]) (st' := [_]) (cs := []) rfl trivial ?_
             refine aw_iret eX12_bits_11 rfl (Nat.le_refl _) (Nat.le_refl _) ?_
             exact pe_i g' rfl rfl)
      · exact ⟨a, b, c.up2' (i := p * 3 + s) (v := v) (by decide) c2.2.1 c2.2.2 rfl (by rw [show 3 * p + s = p * 3 + s by omega]; rfl), d⟩
      · exact (((SR.rf.put (by decide)).put (by decide)).put (by decide)).put (by decide)
      · intro j hj
        rfl
    · refine ⟨-2, μ, ν, μ, ?_, ?_, by decide, rfl, Or.inl rfl⟩
      · refine AMet.of kX11_bits.1 (Nat.le_of_ble_eq_true rfl) rfl ?_
        refine aw_blk oX11_bits_0 (pc' := 4) (ls' := [_, _, _, _]) (st' := [_, _, _]) (cs := []) rfl trivial ?_
        refine aw_ciS (rest := []) (c_X11_between (by omega) (by omega) (by omega)) kX11_between eX11_bits_4 lX11_bits_4 rfl rfl (Nat.le_of_ble_eq_true rfl) ⟨Nat.le_of_ble_eq_true rfl, Nat.le_of_ble_eq_true rfl⟩ ⟨Nat.le_refl _, Nat.le_refl _⟩ ?_
        refine aw_if_ne (tgt := 12) eX11_bits_7 (by decide) bt_r (fun hh => have h15 := bt1 hh; ?_) (fun hh => have h15 := bt0 hh; ?_)
        · first
          | (exfalso; omega; done)
          | (refine aw_blk oX11_bits_12 (pc' := 15) (ls' := [_, _, _, _]) (st' := [_, _, _]) (cs := []) rfl trivial ?_
             refine aw_ciS (rest := []) (c_X11_between (by omega) (by omega) (by omega)) kX11_between eX11_bits_15 lX11_bits_15 rfl rfl (Nat.le_of_ble_eq_true rfl) ⟨Nat.le_of_ble_eq_true rfl, Nat.le_of_ble_eq_true rfl⟩ ⟨Nat.le_refl _, Nat.le_refl _⟩ ?_
             refine aw_if_eq (tgt := 32) eX11_bits_18 (by decide) bt_r (fun hh => have h16 := bt0 hh; ?_) (fun hh => have h16 := bt1 hh; ?_)
             · first
               | (exfalso; omega; done)
               | (refine aw_blk oX11_bits_32 (pc' := 34) (ls' := [_, _, _, _]) (st' := [_]) (cs := []) rfl trivial ?_
                  refine aw_iret eX11_bits_34 rfl (Nat.le_refl _) (Nat.le_refl _) ?_
                  exact pe_i rfl rfl rfl)
             · first
               | (exfalso; omega; done)
               | (refine aw_blk oX11_bits_21 (pc' := 26) (ls' := [_, _, _, _]) (st' := [_, _, _]) (cs := []) rfl trivial ?_
                  refine aw_ciS (rest := []) (c_X11_between (by omega) (by omega) (by omega)) kX11_between eX11_bits_26 lX11_bits_26 rfl rfl (Nat.le_of_ble_eq_true rfl) ⟨Nat.le_of_ble_eq_true rfl, Nat.le_of_ble_eq_true rfl⟩ ⟨Nat.le_refl _, Nat.le_refl _⟩ ?_
                  refine aw_if_ne (tgt := 35) eX11_bits_29 (by decide) bt_r (fun hh => have h17 := bt1 hh; ?_) (fun hh => have h17 := bt0 hh; ?_)
                  · first
                    | (exfalso; omega; done)
                    | (refine aw_blk oX11_bits_35 (pc' := 36) (ls' := [_, _, _, _]) (st' := [_]) (cs := []) rfl trivial ?_
                       refine aw_cvV (rest := []) (c_forget) kX11_forgetShows eX11_bits_36 lX11_bits_36 rfl rfl rfl rfl (Nat.le_of_ble_eq_true rfl) ⟨Nat.le_of_ble_eq_true rfl, Nat.le_of_ble_eq_true rfl⟩ ⟨Nat.le_refl _, Nat.le_refl _⟩ ?_
                       refine aw_blk oX11_bits_39 (pc' := 46) (ls' := [_, _, _, _]) (st' := [_, _, _, _]) (cs := []) rfl trivial ?_
                       refine aw_ciV (rest := []) ((c_changeBits (by omega) (by omega))) kX2_changeBits eX11_bits_46 lX11_bits_46 rfl rfl rfl rfl (Nat.le_of_ble_eq_true rfl) ⟨Nat.le_of_ble_eq_true rfl, Nat.le_of_ble_eq_true rfl⟩ ⟨Nat.le_refl _, Nat.le_refl _⟩ ?_
                       refine aw_iret eX11_bits_49 rfl (Nat.le_refl _) (Nat.le_refl _) ?_
                       exact pe_i rfl rfl rfl)
                  · first
                    | (exfalso; omega; done)
                    | (refine aw_blk oX11_bits_32 (pc' := 34) (ls' := [_, _, _, _]) (st' := [_]) (cs := []) rfl trivial ?_
                       refine aw_iret eX11_bits_34 rfl (Nat.le_refl _) (Nat.le_refl _) ?_
                       exact pe_i rfl rfl rfl)))
        · first
          | (exfalso; omega; done)
          | (refine aw_blk oX11_bits_10 (pc' := 11) (ls' := [_, _, _, _]) (st' := [_]) (cs := []) rfl trivial ?_
             refine aw_iret eX11_bits_11 rfl (Nat.le_refl _) (Nat.le_refl _) ?_
             exact pe_i rfl rfl rfl)
      · refine AMet.of kX12_bits.1 (Nat.le_of_ble_eq_true rfl) rfl ?_
        refine aw_blk oX12_bits_0 (pc' := 4) (ls' := [_, _, _, _, _]) (st' := [_, _, _]) (cs := []) rfl trivial ?_
        refine aw_ciS (rest := []) (c_X12_in (by omega) (by omega) (by omega)) kX12_in eX12_bits_4 lX12_bits_4 rfl rfl (Nat.le_of_ble_eq_true rfl) ⟨Nat.le_of_ble_eq_true rfl, Nat.le_of_ble_eq_true rfl⟩ ⟨Nat.le_refl _, Nat.le_refl _⟩ ?_
        refine aw_if_ne (tgt := 12) eX12_bits_7 (by decide) bt_r (fun hh => have h18 := bt1 hh; ?_) (fun hh => have h18 := bt0 hh; ?_)
        · first
          | (exfalso; omega; done)
          | (refine aw_blk oX12_bits_12 (pc' := 15) (ls' := [_, _, _, _, _]) (st' := [_, _, _]) (cs := []) rfl trivial ?_
             refine aw_ciS (rest := []) (c_X12_in (by omega) (by omega) (by omega)) kX12_in eX12_bits_15 lX12_bits_15 rfl rfl (Nat.le_of_ble_eq_true rfl) ⟨Nat.le_of_ble_eq_true rfl, Nat.le_of_ble_eq_true rfl⟩ ⟨Nat.le_refl _, Nat.le_refl _⟩ ?_
             refine aw_if_eq (tgt := 32) eX12_bits_18 (by decide) bt_r (fun hh => have h19 := bt0 hh; ?_) (fun hh => have h19 := bt1 hh; ?_)
             · first
               | (exfalso; omega; done)
               | (refine aw_blk oX12_bits_32 (pc' := 34) (ls' := [_, _, _, _, _]) (st' := [_]) (cs := []) rfl trivial ?_
                  refine aw_iret eX12_bits_34 rfl (Nat.le_refl _) (Nat.le_refl _) ?_
                  exact pe_i rfl rfl rfl)
             · first
               | (exfalso; omega; done)
               | (refine aw_blk oX12_bits_21 (pc' := 26) (ls' := [_, _, _, _, _]) (st' := [_, _, _]) (cs := []) rfl trivial ?_
                  refine aw_ciS (rest := []) (c_X12_in (by omega) (by omega) (by omega)) kX12_in eX12_bits_26 lX12_bits_26 rfl rfl (Nat.le_of_ble_eq_true rfl) ⟨Nat.le_of_ble_eq_true rfl, Nat.le_of_ble_eq_true rfl⟩ ⟨Nat.le_refl _, Nat.le_refl _⟩ ?_
                  refine aw_if_ne (tgt := 35) eX12_bits_29 (by decide) bt_r (fun hh => have h20 := bt1 hh; ?_) (fun hh => have h20 := bt0 hh; ?_)
                  · first
                    | (exfalso; omega; done)
                    | (refine aw_blk oX12_bits_35 (pc' := 60) (ls' := [_, _, _, _, _]) (st' := [_]) (cs := [(_, _), (_, _)]) rfl (⟨⟨by omega, by omega⟩, ⟨by omega, by omega⟩, trivial⟩) ?_
                       refine aw_iret eX12_bits_60 rfl (Nat.le_refl _) (Nat.le_refl _) ?_
                       exact pe_i rfl rfl rfl)
                  · first
                    | (exfalso; omega; done)
                    | (refine aw_blk oX12_bits_32 (pc' := 34) (ls' := [_, _, _, _, _]) (st' := [_]) (cs := []) rfl trivial ?_
                       refine aw_iret eX12_bits_34 rfl (Nat.le_refl _) (Nat.le_refl _) ?_
                       exact pe_i rfl rfl rfl)))
        · first
          | (exfalso; omega; done)
          | (refine aw_blk oX12_bits_10 (pc' := 11) (ls' := [_, _, _, _, _]) (st' := [_]) (cs := []) rfl trivial ?_
             refine aw_iret eX12_bits_11 rfl (Nat.le_refl _) (Nat.le_refl _) ?_
             exact pe_i rfl rfl rfl)
  · refine ⟨-1, μ, ν, μ, ?_, ?_, by decide, rfl, Or.inl rfl⟩
    · refine AMet.of kX11_bits.1 (Nat.le_of_ble_eq_true rfl) rfl ?_
      refine aw_blk oX11_bits_0 (pc' := 4) (ls' := [_, _, _, _]) (st' := [_, _, _]) (cs := []) rfl trivial ?_
      refine aw_ciS (rest := []) (c_X11_between (by omega) (by omega) (by omega)) kX11_between eX11_bits_4 lX11_bits_4 rfl rfl (Nat.le_of_ble_eq_true rfl) ⟨Nat.le_of_ble_eq_true rfl, Nat.le_of_ble_eq_true rfl⟩ ⟨Nat.le_refl _, Nat.le_refl _⟩ ?_
      refine aw_if_ne (tgt := 12) eX11_bits_7 (by decide) bt_r (fun hh => have h21 := bt1 hh; ?_) (fun hh => have h21 := bt0 hh; ?_)
      · first
        | (exfalso; omega; done)
        | (refine aw_blk oX11_bits_12 (pc' := 15) (ls' := [_, _, _, _]) (st' := [_, _, _]) (cs := []) rfl trivial ?_
           refine aw_ciS (rest := []) (c_X11_between (by omega) (by omega) (by omega)) kX11_between eX11_bits_15 lX11_bits_15 rfl rfl (Nat.le_of_ble_eq_true rfl) ⟨Nat.le_of_ble_eq_true rfl, Nat.le_of_ble_eq_true rfl⟩ ⟨Nat.le_refl _, Nat.le_refl _⟩ ?_
           refine aw_if_eq (tgt := 32) eX11_bits_18 (by decide) bt_r (fun hh => have h22 := bt0 hh; ?_) (fun hh => have h22 := bt1 hh; ?_)
           · first
             | (exfalso; omega; done)
             | (refine aw_blk oX11_bits_32 (pc' := 34) (ls' := [_, _, _, _]) (st' := [_]) (cs := []) rfl trivial ?_
                refine aw_iret eX11_bits_34 rfl (Nat.le_refl _) (Nat.le_refl _) ?_
                exact pe_i rfl rfl rfl)
           · first
             | (exfalso; omega; done)
             | (refine aw_blk oX11_bits_21 (pc' := 26) (ls' := [_, _, _, _]) (st' := [_, _, _]) (cs := []) rfl trivial ?_
                refine aw_ciS (rest := []) (c_X11_between (by omega) (by omega) (by omega)) kX11_between eX11_bits_26 lX11_bits_26 rfl rfl (Nat.le_of_ble_eq_true rfl) ⟨Nat.le_of_ble_eq_true rfl, Nat.le_of_ble_eq_true rfl⟩ ⟨Nat.le_refl _, Nat.le_refl _⟩ ?_
                refine aw_if_ne (tgt := 35) eX11_bits_29 (by decide) bt_r (fun hh => have h23 := bt1 hh; ?_) (fun hh => have h23 := bt0 hh; ?_)
                · first
                  | (exfalso; omega; done)
                  | (refine aw_blk oX11_bits_35 (pc' := 36) (ls' := [_, _, _, _]) (st' := [_]) (cs := []) rfl trivial ?_
                     refine aw_cvV (rest := []) (c_forget) kX11_forgetShows eX11_bits_36 lX11_bits_36 rfl rfl rfl rfl (Nat.le_of_ble_eq_true rfl) ⟨Nat.le_of_ble_eq_true rfl, Nat.le_of_ble_eq_true rfl⟩ ⟨Nat.le_refl _, Nat.le_refl _⟩ ?_
                     refine aw_blk oX11_bits_39 (pc' := 46) (ls' := [_, _, _, _]) (st' := [_, _, _, _]) (cs := []) rfl trivial ?_
                     refine aw_ciV (rest := []) ((c_changeBits (by omega) (by omega))) kX2_changeBits eX11_bits_46 lX11_bits_46 rfl rfl rfl rfl (Nat.le_of_ble_eq_true rfl) ⟨Nat.le_of_ble_eq_true rfl, Nat.le_of_ble_eq_true rfl⟩ ⟨Nat.le_refl _, Nat.le_refl _⟩ ?_
                     refine aw_iret eX11_bits_49 rfl (Nat.le_refl _) (Nat.le_refl _) ?_
                     exact pe_i rfl rfl rfl)
                · first
                  | (exfalso; omega; done)
                  | (refine aw_blk oX11_bits_32 (pc' := 34) (ls' := [_, _, _, _]) (st' := [_]) (cs := []) rfl trivial ?_
                     refine aw_iret eX11_bits_34 rfl (Nat.le_refl _) (Nat.le_refl _) ?_
                     exact pe_i rfl rfl rfl)))
      · first
        | (exfalso; omega; done)
        | (refine aw_blk oX11_bits_10 (pc' := 11) (ls' := [_, _, _, _]) (st' := [_]) (cs := []) rfl trivial ?_
           refine aw_iret eX11_bits_11 rfl (Nat.le_refl _) (Nat.le_refl _) ?_
           exact pe_i rfl rfl rfl)
    · refine AMet.of kX12_bits.1 (Nat.le_of_ble_eq_true rfl) rfl ?_
      refine aw_blk oX12_bits_0 (pc' := 4) (ls' := [_, _, _, _, _]) (st' := [_, _, _]) (cs := []) rfl trivial ?_
      refine aw_ciS (rest := []) (c_X12_in (by omega) (by omega) (by omega)) kX12_in eX12_bits_4 lX12_bits_4 rfl rfl (Nat.le_of_ble_eq_true rfl) ⟨Nat.le_of_ble_eq_true rfl, Nat.le_of_ble_eq_true rfl⟩ ⟨Nat.le_refl _, Nat.le_refl _⟩ ?_
      refine aw_if_ne (tgt := 12) eX12_bits_7 (by decide) bt_r (fun hh => have h24 := bt1 hh; ?_) (fun hh => have h24 := bt0 hh; ?_)
      · first
        | (exfalso; omega; done)
        | (refine aw_blk oX12_bits_12 (pc' := 15) (ls' := [_, _, _, _, _]) (st' := [_, _, _]) (cs := []) rfl trivial ?_
           refine aw_ciS (rest := []) (c_X12_in (by omega) (by omega) (by omega)) kX12_in eX12_bits_15 lX12_bits_15 rfl rfl (Nat.le_of_ble_eq_true rfl) ⟨Nat.le_of_ble_eq_true rfl, Nat.le_of_ble_eq_true rfl⟩ ⟨Nat.le_refl _, Nat.le_refl _⟩ ?_
           refine aw_if_eq (tgt := 32) eX12_bits_18 (by decide) bt_r (fun hh => have h25 := bt0 hh; ?_) (fun hh => have h25 := bt1 hh; ?_)
           · first
             | (exfalso; omega; done)
             | (refine aw_blk oX12_bits_32 (pc' := 34) (ls' := [_, _, _, _, _]) (st' := [_]) (cs := []) rfl trivial ?_
                refine aw_iret eX12_bits_34 rfl (Nat.le_refl _) (Nat.le_refl _) ?_
                exact pe_i rfl rfl rfl)
           · first
             | (exfalso; omega; done)
             | (refine aw_blk oX12_bits_21 (pc' := 26) (ls' := [_, _, _, _, _]) (st' := [_, _, _]) (cs := []) rfl trivial ?_
                refine aw_ciS (rest := []) (c_X12_in (by omega) (by omega) (by omega)) kX12_in eX12_bits_26 lX12_bits_26 rfl rfl (Nat.le_of_ble_eq_true rfl) ⟨Nat.le_of_ble_eq_true rfl, Nat.le_of_ble_eq_true rfl⟩ ⟨Nat.le_refl _, Nat.le_refl _⟩ ?_
                refine aw_if_ne (tgt := 35) eX12_bits_29 (by decide) bt_r (fun hh => have h26 := bt1 hh; ?_) (fun hh => have h26 := bt0 hh; ?_)
                · first
                  | (exfalso; omega; done)
                  | (refine aw_blk oX12_bits_35 (pc' := 60) (ls' := [_, _, _, _, _]) (st' := [_]) (cs := [(_, _), (_, _)]) rfl (⟨⟨by omega, by omega⟩, ⟨by omega, by omega⟩, trivial⟩) ?_
                     refine aw_iret eX12_bits_60 rfl (Nat.le_refl _) (Nat.le_refl _) ?_
                     exact pe_i rfl rfl rfl)
                · first
                  | (exfalso; omega; done)
                  | (refine aw_blk oX12_bits_32 (pc' := 34) (ls' := [_, _, _, _, _]) (st' := [_]) (cs := []) rfl trivial ?_
                     refine aw_iret eX12_bits_34 rfl (Nat.le_refl _) (Nat.le_refl _) ?_
                     exact pe_i rfl rfl rfl)))
      · first
        | (exfalso; omega; done)
        | (refine aw_blk oX12_bits_10 (pc' := 11) (ls' := [_, _, _, _, _]) (st' := [_]) (cs := []) rfl trivial ?_
           refine aw_iret eX12_bits_11 rfl (Nat.le_refl _) (Nat.le_refl _) ?_
           exact pe_i rfl rfl rfl)
/-- n places of a row from a on -/
def fil (c : Nat) (v : Int) : Nat → Int → MM → MM
  | 0, _, μ => μ
  | n + 1, a, μ => fil c v n (a + 1) (up μ c a v)
theorem fil_c {c : Nat} {v : Int} {c' : Nat} (hc : c' ≠ c) : ∀ (n : Nat) (a : Int) (μ : MM), fil c v n a μ c' = μ c'
  | 0, _, _ => rfl
  | n + 1, a, μ => by
    rw [fil, fil_c hc n]
    exact up_cell hc
theorem fil_out {c : Nat} {v : Int} {x : Int} : ∀ (n : Nat) (a : Int) (μ : MM), (x < a ∨ a + n ≤ x) → fil c v n a μ c x = μ c x
  | 0, _, _, _ => rfl
  | n + 1, a, μ, h => by
    rw [fil, fil_out n (a + 1) _ (by omega), up_ne (Or.inr (by omega))]
theorem fil_in {c : Nat} {v : Int} {x : Int} : ∀ (n : Nat) (a : Int) (μ : MM), a ≤ x → x < a + n → fil c v n a μ c x = v
  | 0, _, _, _, _ => by omega
  | n + 1, a, μ, h, h2 => by
    rw [fil]
    by_cases e : x = a
    · rw [fil_out n (a + 1) _ (by omega), e, up_at]
    · exact fil_in n (a + 1) _ (by omega) (by omega)
theorem PR.fil2 {c m : Nat} {n lo hi : Int} {μ : MM} (h : PR c m n lo hi μ) {k : Nat} {a v : Int} (h1 : lo ≤ v) (h2 : v ≤ hi) {μ' : MM} (ec : μ' c = (fil c v k a μ) c) {μ3 : MM} (e3 : μ3 m = μ m) (em : μ' m = fil m v k a μ3 m) : PR c m n lo hi μ' := by
  intro x hx0 hx1
  have g := h x hx0 hx1
  rw [ec, em]
  by_cases e : a ≤ x ∧ x < a + k
  · rw [fil_in k a _ e.1 e.2, fil_in k a _ e.1 e.2]
    exact ⟨rfl, h1, h2⟩
  · rw [fil_out k a _ (by omega), fil_out k a _ (by omega), e3]
    exact g
theorem l_changeLine {κ : KX} {ν : ML} {f t v : Int} (hf : 0 ≤ f) (ht : t < 60) (n : Nat) : ∀ (i : Int) (μ : MM), 0 ≤ i → i + n = t + 1 → AX κ mX2_changeLine 0 (PE none (fil 15 v n i μ) ν) 3 [aR 14, aI f, aI t, aI v, aI i] [] μ ν := by
  induction n with
  | zero =>
    intro i μ h0 hn
    refine aw_blk oX2_changeLine_3 (pc' := 6) (ls' := [_, _, _, _, _]) (st' := [_, _]) (cs := []) rfl trivial ?_
    refine aw_icmp_gt (tgt := 23) eX2_changeLine_6 (by decide) (by omega) (by omega) (fun h1 => ?_) (fun h1 => ?_)
    · refine aw_vret eX2_changeLine_23 rfl (Nat.le_refl _) (Nat.le_refl _) ?_
      exact pe_v rfl rfl
    · exfalso; omega
  | succ n ih =>
    intro i μ h0 hn
    refine aw_blk oX2_changeLine_3 (pc' := 6) (ls' := [_, _, _, _, _]) (st' := [_, _]) (cs := []) rfl trivial ?_
    refine aw_icmp_gt (tgt := 23) eX2_changeLine_6 (by decide) (by omega) (by omega) (fun h1 => ?_) (fun h1 => ?_)
    · exfalso; omega
    · refine aw_blk oX2_changeLine_9 (pc' := 3) (ls' := [_, _, _, _, _]) (st' := []) (cs := [(_, _)]) rfl (⟨⟨by omega, by omega⟩, trivial⟩) ?_
      exact ih (i + 1) _ (by omega) (by omega)
theorem c_changeLine {κ : KX} {μ : MM} {ν : ML} {f t v : Int} (hf : 0 ≤ f) (hft : f ≤ t) (ht : t < 60) : AE κ 0 mX2_changeLine [aR 14, aI f, aI t, aI v] μ ν none (fil 15 v (t + 1 - f).toNat f μ) ν := by
  refine AMet.of kX2_changeLine.1 (Nat.le_of_ble_eq_true rfl) rfl ?_
  refine aw_blk oX2_changeLine_0 (pc' := 3) (ls' := [_, _, _, _, _]) (st' := []) (cs := []) rfl trivial ?_
  exact l_changeLine hf ht _ f μ hf (by omega)
theorem l_lineM {κ : KX} {ν : ML} {f t v : Int} (hf : 0 ≤ f) (ht : t < 60) (n : Nat) : ∀ (i : Int) (μ : MM), 0 ≤ i → i + n = t + 1 → AX κ mX12_line 60 (PE (some (aI 1)) (fil 60 v n i μ) ν) 42 [aR 55, aI f, aI t, aI v, aI i] [] μ ν := by
  induction n with
  | zero =>
    intro i μ h0 hn
    refine aw_blk oX12_line_42 (pc' := 45) (ls' := [_, _, _, _, _]) (st' := [_, _]) (cs := []) rfl trivial ?_
    refine aw_icmp_gt (tgt := 62) eX12_line_45 (by decide) (by omega) (by omega) (fun h1 => ?_) (fun h1 => ?_)
    · refine aw_blk oX12_line_62 (pc' := 63) (ls' := [_, _, _, _, _]) (st' := [_]) (cs := []) rfl trivial ?_
      refine aw_iret eX12_line_63 rfl (Nat.le_refl _) (Nat.le_refl _) ?_
      exact pe_i rfl rfl rfl
    · exfalso; omega
  | succ n ih =>
    intro i μ h0 hn
    refine aw_blk oX12_line_42 (pc' := 45) (ls' := [_, _, _, _, _]) (st' := [_, _]) (cs := []) rfl trivial ?_
    refine aw_icmp_gt (tgt := 62) eX12_line_45 (by decide) (by omega) (by omega) (fun h1 => ?_) (fun h1 => ?_)
    · exfalso; omega
    · refine aw_blk oX12_line_48 (pc' := 42) (ls' := [_, _, _, _, _]) (st' := []) (cs := [(_, _)]) rfl (⟨⟨by omega, by omega⟩, trivial⟩) ?_
      exact ih (i + 1) _ (by omega) (by omega)
theorem law_line {κ : KX} {μ : MM} {ν : ML} {f t v : Int} (h : RFi μ) (hf : R32 f) (ht : R32 t) (hv : R32 v) : LawF κ mX11_line mX12_line [aI f, aI t, aI v] μ ν := by
  obtain ⟨a, b, c, d⟩ := id h
  by_cases c1 : (0 ≤ f ∧ f ≤ 59) ∧ (f ≤ t ∧ t ≤ 59) ∧ (0 ≤ v ∧ v ≤ 1000)
  · obtain ⟨n, hn⟩ : ∃ n : Nat, n = (t + 1 - f).toNat := ⟨_, rfl⟩
    have hX := c_changeLine (κ := κ) (μ := μ) (ν := ν) (f := f) (t := t) (v := v) (by omega) (by omega) (by omega)
    rw [← hn] at hX
    refine ⟨1, up (up (fil 15 v n f μ) 0 11 0) 0 12 0, ν, fil 60 v n f (up (up (fil 15 v n f μ) 0 11 0) 0 12 0), ?_, ?_, by omega, rfl, Or.inr ⟨?_, ?_, ?_, ?_⟩⟩
    · skip
      refine AMet.of kX11_line.1 (Nat.le_of_ble_eq_true rfl) rfl ?_
      refine aw_blk oX11_line_0 (pc' := 4) (ls' := [_, _, _, _]) (st' := [_, _, _]) (cs := []) rfl trivial ?_
      refine aw_ciS (rest := []) (c_X11_between (by omega) (by omega) (by omega)) kX11_between eX11_line_4 lX11_line_4 rfl rfl (Nat.le_of_ble_eq_true rfl) ⟨Nat.le_of_ble_eq_true rfl, Nat.le_of_ble_eq_true rfl⟩ ⟨Nat.le_refl _, Nat.le_refl _⟩ ?_
      refine aw_if_eq (tgt := 31) eX11_line_7 (by decide) bt_r (fun hh => have h27 := bt0 hh; ?_) (fun hh => have h27 := bt1 hh; ?_)
      · first
        | (exfalso; omega; done)
        | (refine aw_blk oX11_line_31 (pc' := 33) (ls' := [_, _, _, _]) (st' := [_]) (cs := []) rfl trivial ?_
           refine aw_iret eX11_line_33 rfl (Nat.le_refl _) (Nat.le_refl _) ?_
           exact pe_i rfl rfl rfl)
      · first
        | (exfalso; omega; done)
        | (refine aw_blk oX11_line_10 (pc' := 14) (ls' := [_, _, _, _]) (st' := [_, _, _]) (cs := []) rfl trivial ?_
           refine aw_ciS (rest := []) (c_X11_between (by omega) (by omega) (by omega)) kX11_between eX11_line_14 lX11_line_14 rfl rfl (Nat.le_of_ble_eq_true rfl) ⟨Nat.le_of_ble_eq_true rfl, Nat.le_of_ble_eq_true rfl⟩ ⟨Nat.le_refl _, Nat.le_refl _⟩ ?_
           refine aw_if_eq (tgt := 31) eX11_line_17 (by decide) bt_r (fun hh => have h28 := bt0 hh; ?_) (fun hh => have h28 := bt1 hh; ?_)
           · first
             | (exfalso; omega; done)
             | (refine aw_blk oX11_line_31 (pc' := 33) (ls' := [_, _, _, _]) (st' := [_]) (cs := []) rfl trivial ?_
                refine aw_iret eX11_line_33 rfl (Nat.le_refl _) (Nat.le_refl _) ?_
                exact pe_i rfl rfl rfl)
           · first
             | (exfalso; omega; done)
             | (refine aw_blk oX11_line_20 (pc' := 25) (ls' := [_, _, _, _]) (st' := [_, _, _]) (cs := []) rfl trivial ?_
                refine aw_ciS (rest := []) (c_X11_between (by omega) (by omega) (by omega)) kX11_between eX11_line_25 lX11_line_25 rfl rfl (Nat.le_of_ble_eq_true rfl) ⟨Nat.le_of_ble_eq_true rfl, Nat.le_of_ble_eq_true rfl⟩ ⟨Nat.le_refl _, Nat.le_refl _⟩ ?_
                refine aw_if_ne (tgt := 34) eX11_line_28 (by decide) bt_r (fun hh => have h29 := bt1 hh; ?_) (fun hh => have h29 := bt0 hh; ?_)
                · first
                  | (exfalso; omega; done)
                  | (refine aw_blk oX11_line_34 (pc' := 41) (ls' := [_, _, _, _]) (st' := [_, _, _, _]) (cs := []) rfl trivial ?_
                     refine aw_cvV (rest := []) (hX) kX2_changeLine eX11_line_41 lX11_line_41 rfl rfl rfl rfl (Nat.le_of_ble_eq_true rfl) ⟨Nat.le_of_ble_eq_true rfl, Nat.le_of_ble_eq_true rfl⟩ ⟨Nat.le_refl _, Nat.le_refl _⟩ ?_
                     refine aw_blk oX11_line_44 (pc' := 45) (ls' := [_, _, _, _]) (st' := [_]) (cs := []) rfl trivial ?_
                     refine aw_cvV (rest := []) (c_forget) kX11_forgetShows eX11_line_45 lX11_line_45 rfl rfl rfl rfl (Nat.le_of_ble_eq_true rfl) ⟨Nat.le_of_ble_eq_true rfl, Nat.le_of_ble_eq_true rfl⟩ ⟨Nat.le_refl _, Nat.le_refl _⟩ ?_
                     refine aw_blk oX11_line_48 (pc' := 49) (ls' := [_, _, _, _]) (st' := [_]) (cs := []) rfl trivial ?_
                     refine aw_iret eX11_line_49 rfl (Nat.le_refl _) (Nat.le_refl _) ?_
                     exact pe_i rfl rfl rfl)
                · first
                  | (exfalso; omega; done)
                  | (refine aw_blk oX11_line_31 (pc' := 33) (ls' := [_, _, _, _]) (st' := [_]) (cs := []) rfl trivial ?_
                     refine aw_iret eX11_line_33 rfl (Nat.le_refl _) (Nat.le_refl _) ?_
                     exact pe_i rfl rfl rfl)))
    · skip
      have K := l_lineM (κ := κ) (ν := ν) (f := f) (t := t) (v := v) (by omega) (by omega) n f (up (up (fil 15 v n f μ) 0 11 0) 0 12 0) (by omega) (by omega)
      refine AMet.of kX12_line.1 (Nat.le_of_ble_eq_true rfl) rfl ?_
      refine aw_blk oX12_line_0 (pc' := 4) (ls' := [_, _, _, _, _]) (st' := [_, _, _]) (cs := []) rfl trivial ?_
      refine aw_ciS (rest := []) (c_X12_in (by omega) (by omega) (by omega)) kX12_in eX12_line_4 lX12_line_4 rfl rfl (Nat.le_of_ble_eq_true rfl) ⟨Nat.le_of_ble_eq_true rfl, Nat.le_of_ble_eq_true rfl⟩ ⟨Nat.le_refl _, Nat.le_refl _⟩ ?_
      refine aw_if_eq (tgt := 36) eX12_line_7 (by decide) bt_r (fun hh => have h30 := bt0 hh; ?_) (fun hh => have h30 := bt1 hh; ?_)
      · first
        | (exfalso; omega; done)
        | (refine aw_blk oX12_line_36 (pc' := 38) (ls' := [_, _, _, _, _]) (st' := [_]) (cs := []) rfl trivial ?_
           refine aw_iret eX12_line_38 rfl (Nat.le_refl _) (Nat.le_refl _) ?_
           exact pe_i rfl rfl rfl)
      · first
        | (exfalso; omega; done)
        | (refine aw_blk oX12_line_10 (pc' := 14) (ls' := [_, _, _, _, _]) (st' := [_, _, _]) (cs := []) rfl trivial ?_
           refine aw_ciS (rest := []) (c_X12_in (by omega) (by omega) (by omega)) kX12_in eX12_line_14 lX12_line_14 rfl rfl (Nat.le_of_ble_eq_true rfl) ⟨Nat.le_of_ble_eq_true rfl, Nat.le_of_ble_eq_true rfl⟩ ⟨Nat.le_refl _, Nat.le_refl _⟩ ?_
           refine aw_if_eq (tgt := 36) eX12_line_17 (by decide) bt_r (fun hh => have h31 := bt0 hh; ?_) (fun hh => have h31 := bt1 hh; ?_)
           · first
             | (exfalso; omega; done)
             | (refine aw_blk oX12_line_36 (pc' := 38) (ls' := [_, _, _, _, _]) (st' := [_]) (cs := []) rfl trivial ?_
                refine aw_iret eX12_line_38 rfl (Nat.le_refl _) (Nat.le_refl _) ?_
                exact pe_i rfl rfl rfl)
           · first
             | (exfalso; omega; done)
             | (refine aw_blk oX12_line_20 (pc' := 22) (ls' := [_, _, _, _, _]) (st' := [_, _]) (cs := []) rfl trivial ?_
                refine aw_icmp_gt (tgt := 36) eX12_line_22 (by decide) (by omega) (by omega) (fun h32 => ?_) (fun h32 => ?_)
                · first
                  | (exfalso; omega; done)
                  | (refine aw_blk oX12_line_36 (pc' := 38) (ls' := [_, _, _, _, _]) (st' := [_]) (cs := []) rfl trivial ?_
                     refine aw_iret eX12_line_38 rfl (Nat.le_refl _) (Nat.le_refl _) ?_
                     exact pe_i rfl rfl rfl)
                · first
                  | (exfalso; omega; done)
                  | (refine aw_blk oX12_line_25 (pc' := 30) (ls' := [_, _, _, _, _]) (st' := [_, _, _]) (cs := []) rfl trivial ?_
                     refine aw_ciS (rest := []) (c_X12_in (by omega) (by omega) (by omega)) kX12_in eX12_line_30 lX12_line_30 rfl rfl (Nat.le_of_ble_eq_true rfl) ⟨Nat.le_of_ble_eq_true rfl, Nat.le_of_ble_eq_true rfl⟩ ⟨Nat.le_refl _, Nat.le_refl _⟩ ?_
                     refine aw_if_ne (tgt := 39) eX12_line_33 (by decide) bt_r (fun hh => have h33 := bt1 hh; ?_) (fun hh => have h33 := bt0 hh; ?_)
                     · first
                       | (exfalso; omega; done)
                       | (refine aw_blk oX12_line_39 (pc' := 42) (ls' := [_, _, _, _, _]) (st' := []) (cs := []) rfl trivial ?_
                          exact K)
                     · first
                       | (exfalso; omega; done)
                       | (refine aw_blk oX12_line_36 (pc' := 38) (ls' := [_, _, _, _, _]) (st' := [_]) (cs := []) rfl trivial ?_
                          refine aw_iret eX12_line_38 rfl (Nat.le_refl _) (Nat.le_refl _) ?_
                          exact pe_i rfl rfl rfl))))
    · have e1 : ∀ c', c' ≠ 60 → c' ≠ 0 → c' ≠ 15 → fil 60 v n f (up (up (fil 15 v n f μ) 0 11 0) 0 12 0) c' = μ c' := fun c' q1 q2 q3 => by
        rw [fil_c q1, up_cell q2, up_cell q2, fil_c q3]
      refine ⟨?_, ?_, ?_, ?_⟩
      · rw [e1 55 (by decide) (by decide) (by decide), e1 14 (by decide) (by decide) (by decide)]; exact a
      · rw [e1 55 (by decide) (by decide) (by decide), e1 14 (by decide) (by decide) (by decide)]; exact b
      · unfold PR
        rw [e1 59 (by decide) (by decide) (by decide), e1 16 (by decide) (by decide) (by decide)]; exact c
      · refine d.fil2 (k := n) (a := f) c1.2.2.1 c1.2.2.2 (by rw [fil_c (by decide)]; rfl) (μ3 := up (up (fil 15 v n f μ) 0 11 0) 0 12 0) ?_ rfl
        rw [up_cell (by decide), up_cell (by decide), fil_c (by decide)]
    · intro c' hc'
      rw [fil_c (fun e => hc' (by rw [e]; decide)), up_cell (fun e => hc' (by rw [e]; decide)), up_cell (fun e => hc' (by rw [e]; decide)), fil_c (fun e => hc' (by rw [e]; decide))]
    · intro j hj
      rw [fil_c (by decide), up_cell (by decide), up_cell (by decide), fil_c (by decide)]
    · unfold FG
      rw [fil_c (by decide)]
      exact ⟨rfl, rfl⟩
  · refine ⟨-2, μ, ν, μ, ?_, ?_, by decide, rfl, Or.inl rfl⟩
    · refine AMet.of kX11_line.1 (Nat.le_of_ble_eq_true rfl) rfl ?_
      refine aw_blk oX11_line_0 (pc' := 4) (ls' := [_, _, _, _]) (st' := [_, _, _]) (cs := []) rfl trivial ?_
      refine aw_ciS (rest := []) (c_X11_between (by omega) (by omega) (by omega)) kX11_between eX11_line_4 lX11_line_4 rfl rfl (Nat.le_of_ble_eq_true rfl) ⟨Nat.le_of_ble_eq_true rfl, Nat.le_of_ble_eq_true rfl⟩ ⟨Nat.le_refl _, Nat.le_refl _⟩ ?_
      refine aw_if_eq (tgt := 31) eX11_line_7 (by decide) bt_r (fun hh => have h34 := bt0 hh; ?_) (fun hh => have h34 := bt1 hh; ?_)
      · first
        | (exfalso; omega; done)
        | (refine aw_blk oX11_line_31 (pc' := 33) (ls' := [_, _, _, _]) (st' := [_]) (cs := []) rfl trivial ?_
           refine aw_iret eX11_line_33 rfl (Nat.le_refl _) (Nat.le_refl _) ?_
           exact pe_i rfl rfl rfl)
      · first
        | (exfalso; omega; done)
        | (refine aw_blk oX11_line_10 (pc' := 14) (ls' := [_, _, _, _]) (st' := [_, _, _]) (cs := []) rfl trivial ?_
           refine aw_ciS (rest := []) (c_X11_between (by omega) (by omega) (by omega)) kX11_between eX11_line_14 lX11_line_14 rfl rfl (Nat.le_of_ble_eq_true rfl) ⟨Nat.le_of_ble_eq_true rfl, Nat.le_of_ble_eq_true rfl⟩ ⟨Nat.le_refl _, Nat.le_refl _⟩ ?_
           refine aw_if_eq (tgt := 31) eX11_line_17 (by decide) bt_r (fun hh => have h35 := bt0 hh; ?_) (fun hh => have h35 := bt1 hh; ?_)
           · first
             | (exfalso; omega; done)
             | (refine aw_blk oX11_line_31 (pc' := 33) (ls' := [_, _, _, _]) (st' := [_]) (cs := []) rfl trivial ?_
                refine aw_iret eX11_line_33 rfl (Nat.le_refl _) (Nat.le_refl _) ?_
                exact pe_i rfl rfl rfl)
           · first
             | (exfalso; omega; done)
             | (refine aw_blk oX11_line_20 (pc' := 25) (ls' := [_, _, _, _]) (st' := [_, _, _]) (cs := []) rfl trivial ?_
                refine aw_ciS (rest := []) (c_X11_between (by omega) (by omega) (by omega)) kX11_between eX11_line_25 lX11_line_25 rfl rfl (Nat.le_of_ble_eq_true rfl) ⟨Nat.le_of_ble_eq_true rfl, Nat.le_of_ble_eq_true rfl⟩ ⟨Nat.le_refl _, Nat.le_refl _⟩ ?_
                refine aw_if_ne (tgt := 34) eX11_line_28 (by decide) bt_r (fun hh => have h36 := bt1 hh; ?_) (fun hh => have h36 := bt0 hh; ?_)
                · first
                  | (exfalso; omega; done)
                  | (refine aw_blk oX11_line_34 (pc' := 41) (ls' := [_, _, _, _]) (st' := [_, _, _, _]) (cs := []) rfl trivial ?_
                     refine aw_cvV (rest := []) (hX) kX2_changeLine eX11_line_41 lX11_line_41 rfl rfl rfl rfl (Nat.le_of_ble_eq_true rfl) ⟨Nat.le_of_ble_eq_true rfl, Nat.le_of_ble_eq_true rfl⟩ ⟨Nat.le_refl _, Nat.le_refl _⟩ ?_
                     refine aw_blk oX11_line_44 (pc' := 45) (ls' := [_, _, _, _]) (st' := [_]) (cs := []) rfl trivial ?_
                     refine aw_cvV (rest := []) (c_forget) kX11_forgetShows eX11_line_45 lX11_line_45 rfl rfl rfl rfl (Nat.le_of_ble_eq_true rfl) ⟨Nat.le_of_ble_eq_true rfl, Nat.le_of_ble_eq_true rfl⟩ ⟨Nat.le_refl _, Nat.le_refl _⟩ ?_
                     refine aw_blk oX11_line_48 (pc' := 49) (ls' := [_, _, _, _]) (st' := [_]) (cs := []) rfl trivial ?_
                     refine aw_iret eX11_line_49 rfl (Nat.le_refl _) (Nat.le_refl _) ?_
                     exact pe_i rfl rfl rfl)
                · first
                  | (exfalso; omega; done)
                  | (refine aw_blk oX11_line_31 (pc' := 33) (ls' := [_, _, _, _]) (st' := [_]) (cs := []) rfl trivial ?_
                     refine aw_iret eX11_line_33 rfl (Nat.le_refl _) (Nat.le_refl _) ?_
                     exact pe_i rfl rfl rfl)))
    · refine AMet.of kX12_line.1 (Nat.le_of_ble_eq_true rfl) rfl ?_
      refine aw_blk oX12_line_0 (pc' := 4) (ls' := [_, _, _, _, _]) (st' := [_, _, _]) (cs := []) rfl trivial ?_
      refine aw_ciS (rest := []) (c_X12_in (by omega) (by omega) (by omega)) kX12_in eX12_line_4 lX12_line_4 rfl rfl (Nat.le_of_ble_eq_true rfl) ⟨Nat.le_of_ble_eq_true rfl, Nat.le_of_ble_eq_true rfl⟩ ⟨Nat.le_refl _, Nat.le_refl _⟩ ?_
      refine aw_if_eq (tgt := 36) eX12_line_7 (by decide) bt_r (fun hh => have h37 := bt0 hh; ?_) (fun hh => have h37 := bt1 hh; ?_)
      · first
        | (exfalso; omega; done)
        | (refine aw_blk oX12_line_36 (pc' := 38) (ls' := [_, _, _, _, _]) (st' := [_]) (cs := []) rfl trivial ?_
           refine aw_iret eX12_line_38 rfl (Nat.le_refl _) (Nat.le_refl _) ?_
           exact pe_i rfl rfl rfl)
      · first
        | (exfalso; omega; done)
        | (refine aw_blk oX12_line_10 (pc' := 14) (ls' := [_, _, _, _, _]) (st' := [_, _, _]) (cs := []) rfl trivial ?_
           refine aw_ciS (rest := []) (c_X12_in (by omega) (by omega) (by omega)) kX12_in eX12_line_14 lX12_line_14 rfl rfl (Nat.le_of_ble_eq_true rfl) ⟨Nat.le_of_ble_eq_true rfl, Nat.le_of_ble_eq_true rfl⟩ ⟨Nat.le_refl _, Nat.le_refl _⟩ ?_
           refine aw_if_eq (tgt := 36) eX12_line_17 (by decide) bt_r (fun hh => have h38 := bt0 hh; ?_) (fun hh => have h38 := bt1 hh; ?_)
           · first
             | (exfalso; omega; done)
             | (refine aw_blk oX12_line_36 (pc' := 38) (ls' := [_, _, _, _, _]) (st' := [_]) (cs := []) rfl trivial ?_
                refine aw_iret eX12_line_38 rfl (Nat.le_refl _) (Nat.le_refl _) ?_
                exact pe_i rfl rfl rfl)
           · first
             | (exfalso; omega; done)
             | (refine aw_blk oX12_line_20 (pc' := 22) (ls' := [_, _, _, _, _]) (st' := [_, _]) (cs := []) rfl trivial ?_
                refine aw_icmp_gt (tgt := 36) eX12_line_22 (by decide) (by omega) (by omega) (fun h39 => ?_) (fun h39 => ?_)
                · first
                  | (exfalso; omega; done)
                  | (refine aw_blk oX12_line_36 (pc' := 38) (ls' := [_, _, _, _, _]) (st' := [_]) (cs := []) rfl trivial ?_
                     refine aw_iret eX12_line_38 rfl (Nat.le_refl _) (Nat.le_refl _) ?_
                     exact pe_i rfl rfl rfl)
                · first
                  | (exfalso; omega; done)
                  | (refine aw_blk oX12_line_25 (pc' := 30) (ls' := [_, _, _, _, _]) (st' := [_, _, _]) (cs := []) rfl trivial ?_
                     refine aw_ciS (rest := []) (c_X12_in (by omega) (by omega) (by omega)) kX12_in eX12_line_30 lX12_line_30 rfl rfl (Nat.le_of_ble_eq_true rfl) ⟨Nat.le_of_ble_eq_true rfl, Nat.le_of_ble_eq_true rfl⟩ ⟨Nat.le_refl _, Nat.le_refl _⟩ ?_
                     refine aw_if_ne (tgt := 39) eX12_line_33 (by decide) bt_r (fun hh => have h40 := bt1 hh; ?_) (fun hh => have h40 := bt0 hh; ?_)
                     · first
                       | (exfalso; omega; done)
                       | (refine aw_blk oX12_line_39 (pc' := 42) (ls' := [_, _, _, _, _]) (st' := []) (cs := []) rfl trivial ?_
                          skip)
                     · first
                       | (exfalso; omega; done)
                       | (refine aw_blk oX12_line_36 (pc' := 38) (ls' := [_, _, _, _, _]) (st' := [_]) (cs := []) rfl trivial ?_
                          refine aw_iret eX12_line_38 rfl (Nat.le_refl _) (Nat.le_refl _) ?_
                          exact pe_i rfl rfl rfl))))

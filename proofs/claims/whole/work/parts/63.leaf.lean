/-! ===== BEST: the class, one row ===== -/
def fE (μ : MM) (F : FV) : Prop := μ 26 1 = F.1.1 ∧ μ 26 2 = F.1.2.1 ∧ μ 26 3 = F.1.2.2.1 ∧ μ 26 4 = F.1.2.2.2 ∧ ∀ i : Int, 0 ≤ i → i < 8 → μ 27 i = F.2 i
theorem fE.fr {μ μ' : MM} {F : FV} (h : fE μ F) (e26 : μ' 26 = μ 26) (e27 : μ' 27 = μ 27) : fE μ' F := by
  unfold fE at h ⊢
  rw [e26, e27]
  exact h
def ST (D : FD) (μ0 μ : MM) (F : FV) : Prop := SR [25, 26, 27, 28, 29, 30, 31, 32] μ0 μ ∧ fE μ F ∧ FB F ∧ μ 25 6 = ndd D ∧ ∀ t : Int, 0 ≤ t → t < 60 → μ 28 t = Cm D (t + 1)
def BD (D : FD) (d : Int) (μ0 : MM) : Prop := D.ok ∧ μ0 14 2 = D.cnt ∧ μ0 14 3 = d ∧ (∀ i : Int, 0 ≤ i → i < 24 → μ0 16 i = D.bits i) ∧ ∀ t : Int, 0 ≤ t → t < 60 → μ0 15 t = D.line t
theorem sA_bd {D : FD} {w : Int → Int} : ∀ n : Nat, 0 ≤ sA D w n ∧ sA D w n ≤ 60 + n
  | 0 => by
    have : isW (Cm D) _ (fsT D w) := wtA_W
    obtain ⟨a, b, -⟩ := this
    rw [show ((0 : Nat) : Int) = 0 by rfl, sA_0]
    omega
  | n + 1 => by
    have A := sA_bd (D := D) (w := w) n
    obtain ⟨a, b, -⟩ := wtA_W (D := D) (w := w) (p := (n : Int) + 1)
    have q := mx_sp (wtA D w ((n : Int) + 1)) (sA D w n + 1)
    rw [show ((n + 1 : Nat) : Int) = (n : Int) + 1 by omega, sA_s (by omega)]
    omega
theorem sA_b {D : FD} {w : Int → Int} {p : Int} (h : 0 ≤ p) : 0 ≤ sA D w p ∧ sA D w p ≤ 60 + p := by
  have := sA_bd (D := D) (w := w) p.toNat
  rw [show ((p.toNat : Nat) : Int) = p by omega] at this
  exact this
theorem Cm_b {D : FD} (hD : D.ok) {t : Int} (h0 : 0 ≤ t) (h1 : t ≤ 60) : 0 ≤ Cm D t ∧ Cm D t ≤ 60000 := by
  have := Cm_mono hD (i := 0) (j := t) (by omega) h0 h1
  have e : Cm D 0 = 0 := rfl
  omega
theorem l_secondOf {κ : KX} {μ : MM} {ν : ML} {D : FD} {bits z fr : Int} (hD : D.ok) (hc : ∀ t : Int, 0 ≤ t → t < 60 → μ 28 t = Cm D (t + 1)) (hz : isW (Cm D) bits z) (hb : R32 bits) (n : Nat) : ∀ t : Int, 0 ≤ t → t + n = z → AX κ mX0_secondOf 0 (PE (some (aI z)) μ ν) 2 [aR 25, aI bits, aI fr, aI t] [] μ ν := by
  obtain ⟨z0, z1, z2, z3⟩ := id hz
  induction n with
  | zero =>
    intro t t0 tn
    refine aw_blk oX0_secondOf_2 (pc' := 5) (ls' := [_, _, _, _]) (st' := [_, _]) (cs := []) rfl trivial ?_
    refine aw_icmp_ge (tgt := 24) eX0_secondOf_5 (by decide) (by omega) (by omega) (fun h1 => ?_) (fun h1 => ?_)
    · refine aw_blk oX0_secondOf_24 (pc' := 25) (ls' := [_, _, _, _]) (st' := [_]) (cs := []) rfl trivial ?_
      refine aw_iret eX0_secondOf_25 rfl (Nat.le_refl _) (Nat.le_refl _) ?_
      exact pe_i (by omega) rfl rfl
    · have e := hc t t0 (by omega)
      have := Cm_b hD (t := t + 1) (by omega) (by omega)
      refine aw_blk oX0_secondOf_8 (pc' := 15) (ls' := [_, _, _, _]) (st' := [_, _]) (cs := [(_, _)]) rfl (⟨⟨by omega, by omega⟩, trivial⟩) ?_
      rw [e]
      refine aw_icmp_ge (tgt := 24) eX0_secondOf_15 (by decide) (by omega) (by omega) (fun h2 => ?_) (fun h2 => ?_)
      · refine aw_blk oX0_secondOf_24 (pc' := 25) (ls' := [_, _, _, _]) (st' := [_]) (cs := []) rfl trivial ?_
        refine aw_iret eX0_secondOf_25 rfl (Nat.le_refl _) (Nat.le_refl _) ?_
        exact pe_i (by omega) rfl rfl
      · exfalso
        have := z2 (by omega)
        rw [show z = t by omega] at this
        omega
  | succ n ih =>
    intro t t0 tn
    have e := hc t t0 (by omega)
    have := Cm_b hD (t := t + 1) (by omega) (by omega)
    have := z3 t t0 (by omega)
    refine aw_blk oX0_secondOf_2 (pc' := 5) (ls' := [_, _, _, _]) (st' := [_, _]) (cs := []) rfl trivial ?_
    refine aw_icmp_ge (tgt := 24) eX0_secondOf_5 (by decide) (by omega) (by omega) (fun h1 => ?_) (fun h1 => ?_)
    · exfalso; omega
    · refine aw_blk oX0_secondOf_8 (pc' := 15) (ls' := [_, _, _, _]) (st' := [_, _]) (cs := [(_, _)]) rfl (⟨⟨by omega, by omega⟩, trivial⟩) ?_
      rw [e]
      refine aw_icmp_ge (tgt := 24) eX0_secondOf_15 (by decide) (by omega) (by omega) (fun h2 => ?_) (fun h2 => ?_)
      · exfalso; omega
      · refine aw_blk oX0_secondOf_18 (pc' := 2) (ls' := [_, _, _, _]) (st' := []) (cs := []) rfl trivial ?_
        exact ih (t + 1) (by omega) (by omega)
theorem c_secondOf {κ : KX} {μ : MM} {ν : ML} {D : FD} {bits z fr : Int} (hD : D.ok) (hc : ∀ t : Int, 0 ≤ t → t < 60 → μ 28 t = Cm D (t + 1)) (hz : isW (Cm D) bits z) (hb : R32 bits) (hf : 0 ≤ fr ∧ fr ≤ z) : AE κ 0 mX0_secondOf [aR 25, aI bits, aI fr] μ ν (some (aI z)) μ ν := by
  refine AMet.of kX0_secondOf.1 (Nat.le_of_ble_eq_true rfl) rfl ?_
  refine aw_blk oX0_secondOf_0 (pc' := 2) (ls' := [_, _, _, _]) (st' := []) (cs := []) rfl trivial ?_
  exact l_secondOf hD hc hz hb (z - fr).toNat fr hf.1 (by omega)
theorem c_isNoWorse {κ : KX} {μ : MM} {ν : ML} {F V : FV} (hE : fE μ F) (hF : FB F) (hV : FB V) (e1 : μ 25 7 = V.1.1) (e2 : μ 25 8 = V.1.2.1) (e3 : μ 25 9 = V.1.2.2.1) : AE κ 0 mX0_isNoWorse [aR 25] μ ν (some (aI (b01 (nb V F)))) μ ν := by
  obtain ⟨c1, c2, c3, c4, c5⟩ := hE
  obtain ⟨f1, f2, f3, f4, f5⟩ := hF
  obtain ⟨g1, g2, g3, g4, g5⟩ := hV
  have T : ∀ h : (F.1.1 < V.1.1 ∨ (V.1.1 = F.1.1 ∧ (V.1.2.1 < F.1.2.1 ∨ (V.1.2.1 = F.1.2.1 ∧ F.1.2.2.1 ≤ V.1.2.2.1)))), (1 : Int) = b01 (nb V F) := fun h => by rw [nb_t h]; rfl
  have N : ∀ h : ¬ (F.1.1 < V.1.1 ∨ (V.1.1 = F.1.1 ∧ (V.1.2.1 < F.1.2.1 ∨ (V.1.2.1 = F.1.2.1 ∧ F.1.2.2.1 ≤ V.1.2.2.1)))), (0 : Int) = b01 (nb V F) := fun h => by rw [nb_f h]; rfl
  refine AMet.of kX0_isNoWorse.1 (Nat.le_of_ble_eq_true rfl) rfl ?_
  refine aw_blk oX0_isNoWorse_0 (pc' := 11) (ls' := [_]) (st' := [_, _]) (cs := []) rfl trivial ?_
  refine aw_icmp_eq (tgt := 34) eX0_isNoWorse_11 (by decide) (by omega) (by omega) (fun h1 => ?_) (fun h1 => ?_)
  · first
    | (exfalso; omega; done)
    | (refine aw_blk oX0_isNoWorse_34 (pc' := 45) (ls' := [_]) (st' := [_, _]) (cs := []) rfl trivial ?_
       refine aw_icmp_eq (tgt := 68) eX0_isNoWorse_45 (by decide) (by omega) (by omega) (fun h2 => ?_) (fun h2 => ?_)
       · first
         | (exfalso; omega; done)
         | (refine aw_blk oX0_isNoWorse_68 (pc' := 79) (ls' := [_]) (st' := [_, _]) (cs := []) rfl trivial ?_
            refine aw_icmp_lt (tgt := 86) eX0_isNoWorse_79 (by decide) (by omega) (by omega) (fun h3 => ?_) (fun h3 => ?_)
            · first
              | (exfalso; omega; done)
              | (refine aw_blk oX0_isNoWorse_86 (pc' := 87) (ls' := [_]) (st' := [_]) (cs := []) rfl trivial ?_
                 refine aw_zret eX0_isNoWorse_87 rfl (by omega) (Nat.le_refl _) (Nat.le_refl _) ?_
                 first | exact pe_i (T (by omega)) rfl rfl | exact pe_i (N (by omega)) rfl rfl)
            · first
              | (exfalso; omega; done)
              | (refine aw_blk oX0_isNoWorse_82 (pc' := 87) (ls' := [_]) (st' := [_]) (cs := []) rfl trivial ?_
                 refine aw_zret eX0_isNoWorse_87 rfl (by omega) (Nat.le_refl _) (Nat.le_refl _) ?_
                 first | exact pe_i (T (by omega)) rfl rfl | exact pe_i (N (by omega)) rfl rfl))
       · first
         | (exfalso; omega; done)
         | (refine aw_blk oX0_isNoWorse_48 (pc' := 59) (ls' := [_]) (st' := [_, _]) (cs := []) rfl trivial ?_
            refine aw_icmp_ge (tgt := 66) eX0_isNoWorse_59 (by decide) (by omega) (by omega) (fun h4 => ?_) (fun h4 => ?_)
            · first
              | (exfalso; omega; done)
              | (refine aw_blk oX0_isNoWorse_66 (pc' := 67) (ls' := [_]) (st' := [_]) (cs := []) rfl trivial ?_
                 refine aw_zret eX0_isNoWorse_67 rfl (by omega) (Nat.le_refl _) (Nat.le_refl _) ?_
                 first | exact pe_i (T (by omega)) rfl rfl | exact pe_i (N (by omega)) rfl rfl)
            · first
              | (exfalso; omega; done)
              | (refine aw_blk oX0_isNoWorse_62 (pc' := 67) (ls' := [_]) (st' := [_]) (cs := []) rfl trivial ?_
                 refine aw_zret eX0_isNoWorse_67 rfl (by omega) (Nat.le_refl _) (Nat.le_refl _) ?_
                 first | exact pe_i (T (by omega)) rfl rfl | exact pe_i (N (by omega)) rfl rfl)))
  · first
    | (exfalso; omega; done)
    | (refine aw_blk oX0_isNoWorse_14 (pc' := 25) (ls' := [_]) (st' := [_, _]) (cs := []) rfl trivial ?_
       refine aw_icmp_le (tgt := 32) eX0_isNoWorse_25 (by decide) (by omega) (by omega) (fun h5 => ?_) (fun h5 => ?_)
       · first
         | (exfalso; omega; done)
         | (refine aw_blk oX0_isNoWorse_32 (pc' := 33) (ls' := [_]) (st' := [_]) (cs := []) rfl trivial ?_
            refine aw_zret eX0_isNoWorse_33 rfl (by omega) (Nat.le_refl _) (Nat.le_refl _) ?_
            first | exact pe_i (T (by omega)) rfl rfl | exact pe_i (N (by omega)) rfl rfl)
       · first
         | (exfalso; omega; done)
         | (refine aw_blk oX0_isNoWorse_28 (pc' := 33) (ls' := [_]) (st' := [_]) (cs := []) rfl trivial ?_
            refine aw_zret eX0_isNoWorse_33 rfl (by omega) (Nat.le_refl _) (Nat.le_refl _) ?_
            first | exact pe_i (T (by omega)) rfl rfl | exact pe_i (N (by omega)) rfl rfl))
theorem l_keep {κ : KX} {μ0 : MM} {ν : ML} {V : FV} {b : Int} (hb : 0 ≤ b ∧ b ≤ 8) (n : Nat) : ∀ (i : Int) (μ : MM), 0 ≤ i → i + n = 8 → SR [26, 27] μ0 μ → (μ 26 1 = V.1.1 ∧ μ 26 2 = V.1.2.1 ∧ μ 26 3 = V.1.2.2.1 ∧ μ 26 4 = V.1.2.2.2) → (∀ x : Int, 0 ≤ x → x < 8 → V.2 x = if x < b then μ0 29 x else -6) → (∀ x : Int, 0 ≤ x → x < i → μ 27 x = V.2 x) → AX κ mX0_keep 0 (QS (fun r μ' ν' => r = none ∧ ν' = ν ∧ SR [26, 27] μ0 μ' ∧ fE μ' V)) 46 [aR 25, aI b, aI i] [] μ ν := by
  induction n with
  | zero =>
    intro i μ i0 hn hS hc hV hx
    refine aw_blk oX0_keep_46 (pc' := 49) (ls' := [_, _, _]) (st' := [_, _]) (cs := []) rfl trivial ?_
    refine aw_icmp_ge (tgt := 83) eX0_keep_49 (by decide) (by omega) (by omega) (fun h1 => ?_) (fun h1 => ?_)
    · refine aw_vret eX0_keep_83 rfl (Nat.le_refl _) (Nat.le_refl _) ?_
      exact ⟨rfl, rfl, rfl, hS, hc.1, hc.2.1, hc.2.2.1, hc.2.2.2, fun x x0 x1 => hx x x0 (by omega)⟩
    · exfalso; omega
  | succ n ih =>
    intro i μ i0 hn hS hc hV hx
    have e29 : μ 29 i = μ0 29 i := by rw [hS 29 (by decide)]
    have v := hV i i0 (by omega)
    have E76 : ∀ z : Int, z = V.2 i → AX κ mX0_keep 0 (QS (fun r μ' ν' => r = none ∧ ν' = ν ∧ SR [26, 27] μ0 μ' ∧ fE μ' V)) 76 [aR 25, aI b, aI i] [aI z, aI i, aR 27] μ ν := fun z ez => by
      refine aw_blk oX0_keep_76 (pc' := 46) (ls' := [_, _, _]) (st' := []) (cs := [(_, _)]) rfl (⟨⟨by omega, by omega⟩, trivial⟩) ?_
      refine ih (i + 1) _ (by omega) (by omega) (hS.put (by decide)) hc hV (fun x x0 x1 => ?_)
      by_cases k : x = i
      · rw [k, up_at, ez]
      · rw [up_ne (Or.inr k)]; exact hx x x0 (by omega)
    refine aw_blk oX0_keep_46 (pc' := 49) (ls' := [_, _, _]) (st' := [_, _]) (cs := []) rfl trivial ?_
    refine aw_icmp_ge (tgt := 83) eX0_keep_49 (by decide) (by omega) (by omega) (fun h1 => ?_) (fun h1 => ?_)
    · exfalso; omega
    · refine aw_blk oX0_keep_52 (pc' := 62) (ls' := [_, _, _]) (st' := [_, _, _, _]) (cs := []) rfl trivial ?_
      refine aw_icmp_ge (tgt := 74) eX0_keep_62 (by decide) (by omega) (by omega) (fun h2 => ?_) (fun h2 => ?_)
      · refine aw_blk oX0_keep_74 (pc' := 76) (ls' := [_, _, _]) (st' := [_, _, _]) (cs := []) rfl trivial ?_
        refine E76 _ ?_
        rw [v, if_neg (by omega)]
      · refine aw_blk oX0_keep_65 (pc' := 76) (ls' := [_, _, _]) (st' := [_, _, _]) (cs := [(_, _)]) rfl (⟨⟨by omega, by omega⟩, trivial⟩) ?_
        refine E76 _ ?_
        rw [v, if_pos (by omega), e29]
theorem c_keepB {κ : KX} {μ : MM} {ν : ML} {V : FV} {b : Int} (hb : 0 ≤ b ∧ b ≤ 8) (e1 : μ 25 7 = V.1.1) (e2 : μ 25 8 = V.1.2.1) (e3 : μ 25 9 = V.1.2.2.1) (e4 : μ 25 10 = V.1.2.2.2) (hV : ∀ x : Int, 0 ≤ x → x < 8 → V.2 x = if x < b then μ 29 x else -6) : AQ κ 0 mX0_keep [aR 25, aI b] μ ν (fun r μ' ν' => r = none ∧ ν' = ν ∧ SR [26, 27] μ μ' ∧ fE μ' V) := by
  refine AMet.of kX0_keep.1 (Nat.le_of_ble_eq_true rfl) rfl ?_
  refine aw_blk oX0_keep_0 (pc' := 46) (ls' := [_, _, _]) (st' := []) (cs := []) rfl trivial ?_
  exact l_keep hb 8 0 _ (by omega) (by omega) ((((SR.rf.put (by decide)).put (by decide)).put (by decide)).put (by decide)) ⟨e1, e2, e3, e4⟩ hV (fun x x0 x1 => by omega)
/-- the fields of the search that a row's judge may change -/
def S25 (μ μ' : MM) : Prop := SR [25] μ μ' ∧ ∀ j : Int, (j < 7 ∨ 10 < j) → μ' 25 j = μ 25 j
theorem S25.rf {μ : MM} : S25 μ μ := ⟨SR.rf, fun _ _ => rfl⟩
theorem S25.put {μ μ' : MM} {j v : Int} (h : S25 μ μ') (hj : 7 ≤ j ∧ j ≤ 10) : S25 μ (up μ' 25 j v) := ⟨h.1.put (by decide), fun x hx => by rw [up_ne (Or.inr (by omega))]; exact h.2 x hx⟩
/-- what is told of the rows' begin -/
def WD (D : FD) (w : Int → Int) (μ : MM) (b : Int) : Prop := ∀ p : Int, 0 ≤ p → p < b → μ 29 p = w p ∧ μ 30 p = wtA D w p ∧ μ 32 p = psI w (p + 1)
theorem l_watchB {κ : KX} {μ0 : MM} {ν : ML} {D : FD} {w : Int → Int} {wh : Int} {P : Option AV → List SH → MM → ML → Prop} (hD : D.ok) (hw : okW D w) (hW : WD D w μ0 wh) (hwh : ndd D ≤ wh ∧ wh ≤ D.cnt) (hlt : ∀ p : Int, 0 ≤ p → p < wh → wtA D w p < 60) (K : ∀ (j a : Int) (μ : MM), S25 μ0 μ → μ 25 7 = j → μ 25 10 = μ0 25 10 → 1 ≤ j → j ≤ wh → a = sA D w (j - 1) + 1 → sA D w (j - 1) < 60 → (j = wh ∨ 60 ≤ a) → AX κ mX0_watch 1 P 64 [aR 25, aR 14, aI wh, aI (fsT D w), aI a, aI j] [] μ ν) (n : Nat) : ∀ (j a : Int) (μ : MM), S25 μ0 μ → μ 25 7 = j → μ 25 10 = μ0 25 10 → 0 ≤ j → j + n = wh → ((j = 0 ∧ a = fsT D w) ∨ (1 ≤ j ∧ a = sA D w (j - 1) + 1 ∧ sA D w (j - 1) < 60)) → AX κ mX0_watch 1 P 18 [aR 25, aR 14, aI wh, aI (fsT D w), aI a, aI j] [] μ ν := by
  have nd := ndd_bd hD
  have fl : fsT D w < 60 := hlt (ndd D - 1) (by omega) (by omega)
  have f0 : 0 ≤ fsT D w := (wtA_W (D := D) (w := w) (p := ndd D - 1)).1
  induction n with
  | zero =>
    intro j a μ hS e7 e10 j0 jn hj
    rcases hj with ⟨h1, h2⟩ | ⟨h1, h2, h3⟩
    · omega
    · refine aw_blk oX0_watch_18 (pc' := 21) (ls' := [_, _, _, _, _, _]) (st' := [_, _]) (cs := []) rfl trivial ?_
      refine aw_icmp_ge (tgt := 64) eX0_watch_21 (by decide) (by omega) (by omega) (fun h5 => ?_) (fun h5 => ?_)
      · exact K j a μ hS e7 e10 h1 (by omega) h2 h3 (Or.inl (by omega))
      · exfalso; omega
  | succ n ih =>
    intro j a μ hS e7 e10 j0 jn hj
    have ab : 0 ≤ a ∧ a ≤ 60 := by
      rcases hj with ⟨h1, h2⟩ | ⟨h1, h2, h3⟩
      · omega
      · have := sA_b (D := D) (w := w) (p := j - 1) (by omega)
        omega
    have e30 : μ 30 j = wtA D w j := by rw [hS.1 30 (by decide)]; exact (hW j j0 (by omega)).2.1
    have wl := hlt j j0 (by omega)
    have w0 := (wtA_W (D := D) (w := w) (p := j)).1
    have es : mx a (wtA D w j) = sA D w j := by
      have q := mx_sp a (wtA D w j)
      rcases hj with ⟨h1, h2⟩ | ⟨h1, h2, h3⟩
      · rw [h1] at q ⊢
        have m := wtA_m hD hw (i := 0) (j := ndd D - 1) (by omega) (by omega) (by omega)
        have e : fsT D w = wtA D w (ndd D - 1) := rfl
        rw [sA_0]
        omega
      · have e := sA_s (D := D) (w := w) (i := j - 1) (by omega)
        have q2 := mx_sp (wtA D w (j - 1 + 1)) (sA D w (j - 1) + 1)
        rw [show j - 1 + 1 = j by omega] at e q2
        omega
    refine aw_blk oX0_watch_18 (pc' := 21) (ls' := [_, _, _, _, _, _]) (st' := [_, _]) (cs := []) rfl trivial ?_
    refine aw_icmp_ge (tgt := 64) eX0_watch_21 (by decide) (by omega) (by omega) (fun h5 => ?_) (fun h5 => ?_)
    · exfalso; omega
    · refine aw_blk oX0_watch_24 (pc' := 28) (ls' := [_, _, _, _, _, _]) (st' := [_, _]) (cs := []) rfl trivial ?_
      refine aw_icmp_ge (tgt := 64) eX0_watch_28 (by decide) (by omega) (by omega) (fun h6 => ?_) (fun h6 => ?_)
      · rcases hj with ⟨h1, h2⟩ | ⟨h1, h2, h3⟩
        · omega
        · exact K j a μ hS e7 e10 h1 (by omega) h2 h3 (Or.inr h6)
      · have q := mx_sp a (wtA D w j)
        refine aw_blk oX0_watch_31 (pc' := 40) (ls' := [_, _, _, _, _, _]) (st' := [_, _]) (cs := [(_, _)]) rfl (⟨⟨by omega, by omega⟩, trivial⟩) ?_
        rw [e30]
        refine aw_mmax eX0_watch_40 lX0_watch_40 (by omega) (by omega) (Nat.le_of_ble_eq_true rfl) ⟨Nat.le_of_ble_eq_true rfl, Nat.le_of_ble_eq_true rfl⟩ ⟨Nat.le_refl _, Nat.le_refl _⟩ ?_
        refine aw_blk oX0_watch_43 (pc' := 18) (ls' := [_, _, _, _, _, _]) (st' := []) (cs := []) rfl trivial ?_
        rw [show (if a < wtA D w j then wtA D w j else a) = sA D w j from es, e7]
        refine ih (j + 1) (sA D w j + 1) _ (hS.put (by decide)) (by rw [up_at]) (by rw [up_ne (Or.inr (by decide))]; exact e10) (by omega) (by omega) (Or.inr ⟨by omega, ?_, ?_⟩)
        · rw [show j + 1 - 1 = j by omega]
        · rw [show j + 1 - 1 = j by omega]
          omega
theorem c_watchB {κ : KX} {μ : MM} {ν : ML} {D : FD} {w : Int → Int} {wh : Int} {v : FV} (hD : D.ok) (hw : okW D w) (hW : WD D w μ wh) (hwh : ndd D ≤ wh ∧ wh ≤ D.cnt) (hlt : ∀ p : Int, 0 ≤ p → p < wh → wtA D w p < 60) (hge : wh < D.cnt → 60 ≤ wtA D w wh) (e14 : μ 14 2 = D.cnt) (e6 : μ 25 6 = ndd D) (e7 : μ 25 7 = 0) (e10 : μ 25 10 = -6) (hv : FIN D w v) (hB : FB v) : AQ κ 1 mX0_watch [aR 25, aR 14, aI wh] μ ν (fun r μ' ν' => r = none ∧ ν' = ν ∧ S25 μ μ' ∧ μ' 25 7 = v.1.1 ∧ μ' 25 8 = v.1.2.1 ∧ μ' 25 9 = v.1.2.2.1 ∧ μ' 25 10 = v.1.2.2.2) := by
  have nd := ndd_bd hD
  have fl : fsT D w < 60 := hlt (ndd D - 1) (by omega) (by omega)
  have ef : μ 30 (ndd D - 1) = fsT D w := (hW (ndd D - 1) (by omega) (by omega)).2.1
  have main : ∀ (j a : Int) (μ1 : MM), S25 μ μ1 → μ1 25 7 = j → μ1 25 10 = μ 25 10 → 1 ≤ j → j ≤ wh → a = sA D w (j - 1) + 1 → sA D w (j - 1) < 60 → (j = wh ∨ 60 ≤ a) → AX κ mX0_watch 1 (QS (fun r μ' ν' => r = none ∧ ν' = ν ∧ S25 μ μ' ∧ μ' 25 7 = v.1.1 ∧ μ' 25 8 = v.1.2.1 ∧ μ' 25 9 = v.1.2.2.1 ∧ μ' 25 10 = v.1.2.2.2)) 64 [aR 25, aR 14, aI wh, aI (fsT D w), aI a, aI j] [] μ1 ν := fun j a μ1 hS q7 q10 j1 jw ea sl ex => by
    have e32 : μ1 32 (j - 1) = psI w j := by
      rw [hS.1 32 (by decide)]
      have := (hW (j - 1) (by omega) (by omega)).2.2
      rw [show j - 1 + 1 = j by omega] at this
      exact this
    have e14' : μ1 14 2 = D.cnt := by rw [hS.1 14 (by decide)]; exact e14
    have end_ : j < D.cnt → 60 ≤ sA D w j := fun q => by
      have e := sA_s (D := D) (w := w) (i := j - 1) (by omega)
      have q2 := mx_sp (wtA D w (j - 1 + 1)) (sA D w (j - 1) + 1)
      rw [show j - 1 + 1 = j by omega] at e q2
      rcases ex with ex | ex
      · have := hge (by omega)
        rw [← ex] at this
        omega
      · omega
    obtain ⟨-, -, h4⟩ := id hv
    rcases h4 with ⟨a0, -⟩ | ⟨a0, a1, a2, a3, a4⟩
    · omega
    have es : v.1.1 = j := by
      rcases (show v.1.1 < j ∨ v.1.1 = j ∨ j < v.1.1 by omega) with k | k | k
      · rcases a4 with ⟨d2, d3, -⟩ | ⟨d2, -⟩
        · have := sA_mono (D := D) (w := w) (i := v.1.1) (j := j - 1) (by omega) (by omega)
          omega
        · omega
      · exact k
      · have := end_ (by omega)
        have := sA_mono (D := D) (w := w) (i := j) (j := v.1.1 - 1) (by omega) (by omega)
        omega
    rw [es] at a1 a2 a3 a4
    have b3 := hB.2.2.1
    have sb := sA_b (D := D) (w := w) (p := j - 1) (by omega)
    refine aw_blk oX0_watch_64 (pc' := 69) (ls' := [_, _, _, _, _, _]) (st' := [_, _]) (cs := []) rfl trivial ?_
    rw [q7]
    refine aw_if_le (tgt := 86) eX0_watch_69 (by decide) (by omega) (fun h1 => ?_) (fun h1 => ?_)
    · exfalso; omega
    · refine aw_blk oX0_watch_72 (pc' := 87) (ls' := [_, _, _, _, _, _]) (st' := [_, _]) (cs := [(_, _)]) rfl (⟨⟨by omega, by omega⟩, trivial⟩) ?_
      rw [q7, e32]
      refine aw_blk oX0_watch_87 (pc' := 102) (ls' := [_, _, _, _, _, _]) (st' := [_, _]) (cs := []) rfl trivial ?_
      have r7 : ∀ x : Int, up μ1 25 9 x 25 7 = μ1 25 7 := fun _ => rfl
      have r14 : ∀ x : Int, up μ1 25 9 x 14 2 = μ1 14 2 := fun _ => rfl
      rw [r7, r14, q7, e14']
      refine aw_icmp_ne (tgt := 117) eX0_watch_102 (by decide) (by omega) (by omega) (fun h2 => ?_) (fun h2 => ?_)
      · refine aw_blk oX0_watch_117 (pc' := 130) (ls' := [_, _, _, _, _, _]) (st' := []) (cs := []) rfl trivial ?_
        rw [r7, q7]
        refine aw_vret eX0_watch_130 rfl (Nat.le_refl _) (Nat.le_refl _) ?_
        rcases a4 with ⟨d2, d3, d4, d5⟩ | ⟨d2, -⟩
        · refine ⟨rfl, rfl, rfl, (hS.put (by decide)).put (by decide), ?_, ?_, ?_, ?_⟩
          · show μ1 25 7 = _
            omega
          · show 60 - fsT D w - j = _
            omega
          · show psI w j = _
            omega
          · show μ1 25 10 = _
            omega
        · omega
      · have r7' : ∀ x y : Int, up (up μ1 25 9 x) 25 10 y 25 7 = μ1 25 7 := fun _ _ => rfl
        refine aw_blk oX0_watch_105 (pc' := 117) (ls' := [_, _, _, _, _, _]) (st' := []) (cs := []) rfl trivial ?_
        refine aw_blk oX0_watch_117 (pc' := 130) (ls' := [_, _, _, _, _, _]) (st' := []) (cs := []) rfl trivial ?_
        rw [r7', q7]
        refine aw_vret eX0_watch_130 rfl (Nat.le_refl _) (Nat.le_refl _) ?_
        rcases a4 with ⟨d2, -⟩ | ⟨d2, d3, d4⟩
        · omega
        · rw [← d2] at d3 d4
          refine ⟨rfl, rfl, rfl, ((hS.put (by decide)).put (by decide)).put (by decide), ?_, ?_, ?_, ?_⟩
          · show μ1 25 7 = _
            omega
          · show a - fsT D w - j = _
            omega
          · show psI w j = _
            omega
          · show a - 1 = _
            omega
  refine AMet.of kX0_watch.1 (Nat.le_of_ble_eq_true rfl) rfl ?_
  refine aw_blk oX0_watch_0 (pc' := 18) (ls' := [_, _, _, _, _, _]) (st' := []) (cs := [(_, _)]) rfl (⟨⟨by omega, by omega⟩, trivial⟩) ?_
  rw [e6, ef]
  exact l_watchB hD hw hW hwh hlt main wh.toNat 0 (fsT D w) μ S25.rf e7 rfl (by omega) (by omega) (Or.inl ⟨rfl, rfl⟩)
theorem c_judge {κ : KX} {μ0 μ : MM} {ν : ML} {D : FD} {d : Int} {w : Int → Int} {b : Int} {F : FV} (hbd : BD D d μ0) (hS : ST D μ0 μ F) (hw : okW D w) (hW : WD D w μ b) (hb : 1 ≤ b ∧ b ≤ D.cnt) (h1 : Bw D w (b - 1) < Cm D 60) (h2 : b = D.cnt ∨ Cm D 60 ≤ Bw D w b) : AQ κ 2 mX0_judge [aR 25, aR 14, aI b] μ ν (fun r μ' ν' => r = none ∧ ν' = ν ∧ SR [25, 26, 27] μ μ' ∧ μ' 25 6 = μ 25 6 ∧ fE μ' (ud F (SW D w))) := by
  have hD := hbd.1
  have nd := ndd_bd hD
  have o := hD.1
  have hv := SW_fin hD hw
  have hB := SW_FB hD hw
  obtain ⟨s1, s2, s3, s4, s5⟩ := hS
  have e30 : μ 30 (b - 1) = wtA D w (b - 1) := (hW (b - 1) (by omega) (by omega)).2.1
  obtain ⟨w0, w1, w2, w3⟩ := wtA_W (D := D) (w := w) (p := b - 1)
  have e14 : μ 14 2 = D.cnt := by rw [s1 14 (by decide)]; exact hbd.2.1
  generalize hvv : SW D w = v at hv hB ⊢
  have rows : ∀ x : Int, 0 ≤ x → x < 8 → v.2 x = if x < b then μ 29 x else -6 := fun x x0 x1 => by
    rw [hv.1 x x0 x1]
    by_cases k : x < b
    · have := Bw_m hD hw (i := x) (j := b - 1) x0 (by omega) (by omega)
      rw [if_pos ⟨by omega, by omega⟩, if_pos k, (hW x x0 k).1]
    · rw [if_neg (fun q => ?_), if_neg k]
      have := Bw_m hD hw (i := b) (j := x) (by omega) (by omega) (by omega)
      omega
  have E56 : ∀ (μ1 : MM) (u : AV), S25 μ μ1 → μ1 25 7 = v.1.1 → μ1 25 8 = v.1.2.1 → μ1 25 9 = v.1.2.2.1 → μ1 25 10 = v.1.2.2.2 → AX κ mX0_judge 2 (QS (fun r μ' ν' => r = none ∧ ν' = ν ∧ SR [25, 26, 27] μ μ' ∧ μ' 25 6 = μ 25 6 ∧ fE μ' (ud F v))) 56 [aR 25, aR 14, aI b, u] [] μ1 ν := fun μ1 u hs q7 q8 q9 q10 => by
    have hE1 : fE μ1 F := s2.fr (hs.1 26 (by decide)) (hs.1 27 (by decide))
    refine aw_blk oX0_judge_56 (pc' := 57) (ls' := [_, _, _, _]) (st' := [_]) (cs := []) rfl trivial ?_
    refine aw_ciV (rest := []) (c_isNoWorse hE1 s3 hB q7 q8 q9) kX0_isNoWorse eX0_judge_57 lX0_judge_57 rfl rfl rfl rfl (Nat.le_of_ble_eq_true rfl) ⟨Nat.le_of_ble_eq_true rfl, Nat.le_of_ble_eq_true rfl⟩ ⟨Nat.le_refl _, Nat.le_refl _⟩ ?_
    cases hq : nb v F
    · have eu : ud F v = F := by unfold ud; rw [if_neg (by rw [hq]; decide)]
      rw [eu]
      refine aw_if_eq (tgt := 68) eX0_judge_60 (by decide) (by exact b01_r) (fun h5 => ?_) (fun h5 => ?_)
      · refine aw_vret eX0_judge_68 rfl (Nat.le_refl _) (Nat.le_refl _) ?_
        exact ⟨rfl, rfl, rfl, hs.1.sub (by decide), hs.2 6 (by decide), hE1⟩
      · exfalso; exact absurd rfl h5
    · have eu : ud F v = v := by unfold ud; rw [if_pos hq]
      rw [eu]
      refine aw_if_eq (tgt := 68) eX0_judge_60 (by decide) (by exact b01_r) (fun h5 => ?_) (fun h5 => ?_)
      · exfalso; exact absurd h5 (by decide)
      · refine aw_blk oX0_judge_63 (pc' := 65) (ls' := [_, _, _, _]) (st' := [_, _]) (cs := []) rfl trivial ?_
        refine aw_crV (rest := []) (c_keepB (b := b) (V := v) (by omega) q7 q8 q9 q10 (fun x x0 x1 => by rw [hs.1 29 (by decide)]; exact rows x x0 x1)) kX0_keep eX0_judge_65 lX0_judge_65 rfl rfl rfl rfl (Nat.le_of_ble_eq_true rfl) ⟨Nat.le_of_ble_eq_true rfl, Nat.le_of_ble_eq_true rfl⟩ ⟨Nat.le_refl _, Nat.le_refl _⟩ ?_
        intro r μ2 ν2 hP
        obtain ⟨rfl, rfl, p1, p2⟩ := hP
        refine aw_vret eX0_judge_68 rfl (Nat.le_refl _) (Nat.le_refl _) ?_
        refine ⟨rfl, rfl, rfl, (hs.1.trans p1).sub (by decide), ?_, p2⟩
        rw [p1 25 (by decide)]
        exact hs.2 6 (by decide)
  have E41 : ∀ (wh : Int) (u : AV) (μ1 : MM), S25 μ μ1 → μ1 25 7 = 0 → μ1 25 8 = 0 → μ1 25 9 = 0 → μ1 25 10 = -6 → ((wh = b ∧ wtA D w (b - 1) < 60) ∨ (wh = b - 1 ∧ 60 ≤ wtA D w (b - 1))) → AX κ mX0_judge 2 (QS (fun r μ' ν' => r = none ∧ ν' = ν ∧ SR [25, 26, 27] μ μ' ∧ μ' 25 6 = μ 25 6 ∧ fE μ' (ud F v))) 41 [aR 25, aR 14, aI b, u] [aI wh] μ1 ν := fun wh u μ1 hs q7 q8 q9 q10 hwh => by
    have hlt : ∀ p : Int, 0 ≤ p → p < wh → wtA D w p < 60 := fun p p0 p1 => by
      rcases hwh with ⟨k1, k2⟩ | ⟨k1, k2⟩
      · have := wtA_m hD hw (i := p) (j := b - 1) p0 (by omega) (by omega)
        omega
      · have L := (wtA_W (D := D) (w := w) (p := p)).le hD (t := 59) (by omega) (by omega)
        have := Bw_m hD hw (i := p + 1) (j := b - 1) (by omega) (by omega) (by omega)
        rw [show (59 : Int) + 1 = 60 by omega] at L
        omega
    have hge : wh < D.cnt → 60 ≤ wtA D w wh := fun q => by
      rcases hwh with ⟨k1, k2⟩ | ⟨k1, k2⟩
      · have L := (wtA_W (D := D) (w := w) (p := b)).le hD (t := 59) (by omega) (by omega)
        have := Bw_m hD hw (i := b) (j := b + 1) (by omega) (by omega) (by omega)
        rw [show (59 : Int) + 1 = 60 by omega] at L
        rw [k1]
        omega
      · rw [k1]; exact k2
    have e6 : μ1 25 6 = ndd D := by rw [hs.2 6 (by decide)]; exact s4
    refine aw_blk oX0_judge_41 (pc' := 47) (ls' := [_, _, _, _]) (st' := [_, _]) (cs := []) rfl trivial ?_
    rw [e6]
    refine aw_icmp_lt (tgt := 56) eX0_judge_47 (by decide) (by omega) (by omega) (fun h5 => ?_) (fun h5 => ?_)
    · refine E56 μ1 _ hs ?_ ?_ ?_ ?_
      all_goals
        have g := hge (by omega)
        have m := wtA_m hD hw (i := wh) (j := ndd D - 1) (by omega) (by omega) (by omega)
        have ef : fsT D w = wtA D w (ndd D - 1) := rfl
        rcases hv.2.2 with ⟨a0, a1, a2, a3, a4⟩ | ⟨a0, -⟩
        · omega
        · omega
    · have hW1 : WD D w μ1 wh := fun p p0 p1 => by rw [hs.1 29 (by decide), hs.1 30 (by decide), hs.1 32 (by decide)]; exact hW p p0 (by omega)
      refine aw_blk oX0_judge_50 (pc' := 53) (ls' := [_, _, _, _]) (st' := [_, _, _]) (cs := []) rfl trivial ?_
      refine aw_crV (rest := []) (c_watchB hD hw hW1 (by omega) hlt hge (by rw [hs.1 14 (by decide)]; exact e14) e6 q7 q10 hv hB) kX0_watch eX0_judge_53 lX0_judge_53 rfl rfl rfl rfl (Nat.le_of_ble_eq_true rfl) ⟨Nat.le_of_ble_eq_true rfl, Nat.le_of_ble_eq_true rfl⟩ ⟨Nat.le_refl _, Nat.le_refl _⟩ ?_
      intro r μ2 ν2 hP
      obtain ⟨rfl, rfl, p1, p2, p3, p4, p5⟩ := hP
      exact E56 μ2 _ ⟨fun c hc => by rw [p1.1 c hc, hs.1 c hc], fun j hj => by rw [p1.2 j hj, hs.2 j hj]⟩ p2 p3 p4 p5
  have hs0 : S25 μ (up (up (up (up μ 25 7 0) 25 8 0) 25 9 0) 25 10 (-6)) := (((S25.rf.put (by decide)).put (by decide)).put (by decide)).put (by decide)
  have r30 : up (up (up (up μ 25 7 0) 25 8 0) 25 9 0) 25 10 (-6) 30 (b - 1) = μ 30 (b - 1) := rfl
  refine AMet.of kX0_judge.1 (Nat.le_of_ble_eq_true rfl) rfl ?_
  refine aw_blk oX0_judge_0 (pc' := 31) (ls' := [_, _, _, _]) (st' := [_, _]) (cs := [(_, _)]) rfl (⟨⟨by omega, by omega⟩, trivial⟩) ?_
  rw [r30, e30]
  refine aw_icmp_ge (tgt := 38) eX0_judge_31 (by decide) (by omega) (by omega) (fun h5 => ?_) (fun h5 => ?_)
  · refine aw_blk oX0_judge_38 (pc' := 41) (ls' := [_, _, _, _]) (st' := [_]) (cs := []) rfl trivial ?_
    exact E41 _ _ _ hs0 rfl rfl rfl rfl (Or.inr ⟨rfl, h5⟩)
  · refine aw_blk oX0_judge_34 (pc' := 41) (ls' := [_, _, _, _]) (st' := [_]) (cs := []) rfl trivial ?_
    exact E41 _ _ _ hs0 rfl rfl rfl rfl (Or.inl ⟨rfl, by omega⟩)
theorem c_may {κ : KX} {μ : MM} {ν : ML} {F : FV} {p nd cnt : Int} (hE : fE μ F) (hF : FB F) (e14 : μ 14 2 = cnt) (e6 : μ 25 6 = nd) (hn : 1 ≤ nd ∧ nd ≤ cnt ∧ cnt ≤ 8) (hp : 0 ≤ p ∧ p < cnt) (h31 : nd ≤ p + 1 → (0 ≤ μ 31 p ∧ μ 31 p ≤ 200) ∧ (0 ≤ μ 30 (nd - 1) ∧ μ 30 (nd - 1) ≤ 60)) (h32 : 0 ≤ μ 32 p ∧ μ 32 p ≤ 100) : AQ κ 0 mX0_mayBeNoWorse [aR 25, aR 14, aI p] μ ν (fun r μ' ν' => ∃ z : Int, r = some (aI z) ∧ (z = 0 ∨ z = 1) ∧ μ' = μ ∧ ν' = ν ∧ (z = 0 → cnt ≤ F.1.1 ∧ ((nd ≤ p + 1 ∧ 60 ≤ μ 31 p) ∨ ∃ st : Int, st = (if nd ≤ p + 1 then μ 31 p - p - μ 30 (nd - 1) else 0) ∧ (F.1.2.1 < st ∨ (st = F.1.2.1 ∧ μ 32 p + (cnt - 1 - p) * 2 < F.1.2.2.1))))) := by
  obtain ⟨c1, c2, c3, c4, c5⟩ := hE
  obtain ⟨f1, f2, f3, f4, f5⟩ := hF
  have E62 : ∀ (st : Int) (u4 : AV), cnt ≤ F.1.1 → st = (if nd ≤ p + 1 then μ 31 p - p - μ 30 (nd - 1) else 0) → (-100 ≤ st ∧ st ≤ 200) → AX κ mX0_mayBeNoWorse 0 (QS (fun r μ' ν' => ∃ z : Int, r = some (aI z) ∧ (z = 0 ∨ z = 1) ∧ μ' = μ ∧ ν' = ν ∧ (z = 0 → cnt ≤ F.1.1 ∧ ((nd ≤ p + 1 ∧ 60 ≤ μ 31 p) ∨ ∃ st : Int, st = (if nd ≤ p + 1 then μ 31 p - p - μ 30 (nd - 1) else 0) ∧ (F.1.2.1 < st ∨ (st = F.1.2.1 ∧ μ 32 p + (cnt - 1 - p) * 2 < F.1.2.2.1)))))) 62 [aR 25, aR 14, aI p, aI st, u4] [] μ ν := fun st u4 hc est hst => by
    refine aw_blk oX0_mayBeNoWorse_62 (pc' := 89) (ls' := [_, _, _, _, _]) (st' := [_, _]) (cs := [(_, _)]) rfl (⟨⟨by omega, by omega⟩, trivial⟩) ?_
    refine aw_icmp_lt (tgt := 115) eX0_mayBeNoWorse_89 (by decide) (by omega) (by omega) (fun h6 => ?_) (fun h6 => ?_)
    · first
      | (exfalso; omega; done)
      | (refine aw_blk oX0_mayBeNoWorse_115 (pc' := 120) (ls' := [_, _, _, _, _]) (st' := [_]) (cs := []) rfl trivial ?_
         refine aw_zret eX0_mayBeNoWorse_120 rfl (by omega) (Nat.le_refl _) (Nat.le_refl _) ?_
         first | exact ⟨rfl, 1, rfl, Or.inr rfl, rfl, rfl, fun q => absurd q (by decide)⟩ | exact ⟨rfl, 0, rfl, Or.inl rfl, rfl, rfl, fun _ => ⟨hc, Or.inr ⟨st, est, by omega⟩⟩⟩)
    · first
      | (exfalso; omega; done)
      | (refine aw_blk oX0_mayBeNoWorse_92 (pc' := 100) (ls' := [_, _, _, _, _]) (st' := [_, _]) (cs := []) rfl trivial ?_
         refine aw_icmp_ne (tgt := 119) eX0_mayBeNoWorse_100 (by decide) (by omega) (by omega) (fun h7 => ?_) (fun h7 => ?_)
         · first
           | (exfalso; omega; done)
           | (refine aw_blk oX0_mayBeNoWorse_119 (pc' := 120) (ls' := [_, _, _, _, _]) (st' := [_]) (cs := []) rfl trivial ?_
              refine aw_zret eX0_mayBeNoWorse_120 rfl (by omega) (Nat.le_refl _) (Nat.le_refl _) ?_
              first | exact ⟨rfl, 1, rfl, Or.inr rfl, rfl, rfl, fun q => absurd q (by decide)⟩ | exact ⟨rfl, 0, rfl, Or.inl rfl, rfl, rfl, fun _ => ⟨hc, Or.inr ⟨st, est, by omega⟩⟩⟩)
         · first
           | (exfalso; omega; done)
           | (refine aw_blk oX0_mayBeNoWorse_103 (pc' := 112) (ls' := [_, _, _, _, _]) (st' := [_, _]) (cs := []) rfl trivial ?_
              refine aw_icmp_lt (tgt := 119) eX0_mayBeNoWorse_112 (by decide) (by omega) (by omega) (fun h8 => ?_) (fun h8 => ?_)
              · first
                | (exfalso; omega; done)
                | (refine aw_blk oX0_mayBeNoWorse_119 (pc' := 120) (ls' := [_, _, _, _, _]) (st' := [_]) (cs := []) rfl trivial ?_
                   refine aw_zret eX0_mayBeNoWorse_120 rfl (by omega) (Nat.le_refl _) (Nat.le_refl _) ?_
                   first | exact ⟨rfl, 1, rfl, Or.inr rfl, rfl, rfl, fun q => absurd q (by decide)⟩ | exact ⟨rfl, 0, rfl, Or.inl rfl, rfl, rfl, fun _ => ⟨hc, Or.inr ⟨st, est, by omega⟩⟩⟩)
              · first
                | (exfalso; omega; done)
                | (refine aw_blk oX0_mayBeNoWorse_115 (pc' := 120) (ls' := [_, _, _, _, _]) (st' := [_]) (cs := []) rfl trivial ?_
                   refine aw_zret eX0_mayBeNoWorse_120 rfl (by omega) (Nat.le_refl _) (Nat.le_refl _) ?_
                   first | exact ⟨rfl, 1, rfl, Or.inr rfl, rfl, rfl, fun q => absurd q (by decide)⟩ | exact ⟨rfl, 0, rfl, Or.inl rfl, rfl, rfl, fun _ => ⟨hc, Or.inr ⟨st, est, by omega⟩⟩⟩)))
  refine AMet.of kX0_mayBeNoWorse.1 (Nat.le_of_ble_eq_true rfl) rfl ?_
  refine aw_blk oX0_mayBeNoWorse_0 (pc' := 11) (ls' := [_, _, _, _, _]) (st' := [_, _]) (cs := []) rfl trivial ?_
  refine aw_icmp_ge (tgt := 16) eX0_mayBeNoWorse_11 (by decide) (by omega) (by omega) (fun h1 => ?_) (fun h1 => ?_)
  · refine aw_blk oX0_mayBeNoWorse_16 (pc' := 25) (ls' := [_, _, _, _, _]) (st' := [_, _]) (cs := []) rfl trivial ?_
    refine aw_icmp_lt (tgt := 62) eX0_mayBeNoWorse_25 (by decide) (by omega) (by omega) (fun h2 => ?_) (fun h2 => ?_)
    · exact E62 0 _ (by omega) (by rw [if_neg (by omega)]) (by omega)
    · have g := h31 (by omega)
      refine aw_blk oX0_mayBeNoWorse_28 (pc' := 36) (ls' := [_, _, _, _, _]) (st' := [_, _]) (cs := [(_, _)]) rfl (⟨⟨by omega, by omega⟩, trivial⟩) ?_
      refine aw_icmp_lt (tgt := 41) eX0_mayBeNoWorse_36 (by decide) (by omega) (by omega) (fun h3 => ?_) (fun h3 => ?_)
      · refine aw_blk oX0_mayBeNoWorse_41 (pc' := 62) (ls' := [_, _, _, _, _]) (st' := []) (cs := [(_, _), (_, _)]) rfl (⟨⟨by omega, by omega⟩, ⟨by omega, by omega⟩, trivial⟩) ?_
        rw [e6]
        exact E62 _ _ (by omega) (by rw [if_pos (by omega)]) (by omega)
      · refine aw_blk oX0_mayBeNoWorse_39 (pc' := 40) (ls' := [_, _, _, _, _]) (st' := [_]) (cs := []) rfl trivial ?_
        refine aw_zret eX0_mayBeNoWorse_40 rfl (by omega) (Nat.le_refl _) (Nat.le_refl _) ?_
        exact ⟨rfl, 0, rfl, Or.inl rfl, rfl, rfl, fun _ => ⟨by omega, Or.inl ⟨by omega, by omega⟩⟩⟩
  · refine aw_blk oX0_mayBeNoWorse_14 (pc' := 15) (ls' := [_, _, _, _, _]) (st' := [_]) (cs := []) rfl trivial ?_
    refine aw_zret eX0_mayBeNoWorse_15 rfl (by omega) (Nat.le_refl _) (Nat.le_refl _) ?_
    exact ⟨rfl, 1, rfl, Or.inr rfl, rfl, rfl, fun q => absurd q (by decide)⟩

/-! ===== best ===== -/
theorem l_clearB {κ : KX} {μ0 : MM} {ν : ML} (n : Nat) : ∀ (i : Int) (μ : MM), SR [26, 27] μ0 μ → μ 26 1 = 0 ∧ μ 26 2 = 0 ∧ μ 26 3 = 0 ∧ μ 26 4 = -6 → (∀ x : Int, 0 ≤ x → x < i → μ 27 x = -6) → 0 ≤ i → i + n = 8 → AX κ mX9_clear 0 (QS (PQ ν [26, 27] μ0 (fun μ' => fE μ' (vw W0)))) 23 [aR 26, aI i] [] μ ν := by
  induction n with
  | zero =>
    intro i μ hS hc hx h0 hn
    refine aw_blk oX9_clear_23 (pc' := 26) (ls' := [_, _]) (st' := [_, _]) (cs := []) rfl trivial ?_
    refine aw_icmp_ge (tgt := 43) eX9_clear_26 (by decide) (by omega) (by omega) (fun h1 => ?_) (fun h1 => ?_)
    · refine aw_vret eX9_clear_43 rfl (Nat.le_refl _) (Nat.le_refl _) ?_
      refine ⟨rfl, rfl, rfl, hS, hc.1, hc.2.1, hc.2.2.1, hc.2.2.2, fun x q0 q1 => ?_⟩
      rw [hx x q0 (by omega)]
      show (-6 : Int) = if 0 ≤ x ∧ x < 8 then -6 else 0
      rw [if_pos ⟨q0, q1⟩]
    · exfalso; omega
  | succ n ih =>
    intro i μ hS hc hx h0 hn
    refine aw_blk oX9_clear_23 (pc' := 26) (ls' := [_, _]) (st' := [_, _]) (cs := []) rfl trivial ?_
    refine aw_icmp_ge (tgt := 43) eX9_clear_26 (by decide) (by omega) (by omega) (fun h1 => ?_) (fun h1 => ?_)
    · exfalso; omega
    · refine aw_blk oX9_clear_29 (pc' := 23) (ls' := [_, _]) (st' := []) (cs := [(_, _)]) rfl (⟨⟨by omega, by omega⟩, trivial⟩) ?_
      refine ih (i + 1) _ (hS.put (by decide)) hc ?_ (by omega) (by omega)
      intro x q0 q1
      by_cases e : x = i
      · rw [e, up_at]
      · rw [up_ne (Or.inr e)]; exact hx x q0 (by omega)
theorem c_clearB {κ : KX} {μ : MM} {ν : ML} : AQ κ 0 mX9_clear [aR 26] μ ν (PQ ν [26, 27] μ (fun μ' => fE μ' (vw W0))) := by
  refine AMet.of kX9_clear.1 (Nat.le_of_ble_eq_true rfl) rfl ?_
  refine aw_blk oX9_clear_0 (pc' := 23) (ls' := [_, _]) (st' := []) (cs := []) rfl trivial ?_
  exact l_clearB 8 0 _ ((((SR.rf.put (by decide)).put (by decide)).put (by decide)).put (by decide)) ⟨rfl, rfl, rfl, rfl⟩ (fun x q0 q1 => by omega) (by omega) (by omega)
theorem FB0 : FB (vw W0) := by
  refine ⟨by decide, by decide, by decide, by decide, fun i i0 i1 => ?_⟩
  show -6 ≤ (if 0 ≤ i ∧ i < 8 then -6 else 0) ∧ (if 0 ≤ i ∧ i < 8 then (-6 : Int) else 0) ≤ 2
  split <;> decide
/-- nothing comes -/
theorem SC_none {D : FD} {d c : Int} (hD : D.ok) (h : Cm D 60 = 0) : SC D d c = vw W0 := by
  have nd := ndd_bd hD
  have rok := rc_ok (D := D) (d := d) (cnt := D.cnt) (code := c)
  have b0 : Bw D (rc d D.cnt c) 0 = 0 := rfl
  have F0 : FIN D (rc d D.cnt c) (vw W0) := by
    refine ⟨fun i i0 i1 => ?_, fun i hi => ?_, Or.inl ⟨?_, rfl, rfl, rfl, rfl⟩⟩
    · show (if 0 ≤ i ∧ i < 8 then -6 else 0) = _
      rw [if_pos ⟨i0, i1⟩, if_neg (fun q => ?_)]
      have := Bw_m hD rok (i := 0) (j := i) (by omega) i0 (by omega)
      omega
    · show (if 0 ≤ i ∧ i < 8 then (-6 : Int) else 0) = 0
      rw [if_neg hi]
    · have L := (wtA_W (D := D) (w := rc d D.cnt c) (p := ndd D - 1)).le hD (t := 59) (by omega) (by omega)
      have := Bw_m hD rok (i := 0) (j := ndd D - 1 + 1) (by omega) (by omega) (by omega)
      rw [show (59 : Int) + 1 = 60 by omega] at L
      show 60 ≤ wtA D (rc d D.cnt c) (ndd D - 1)
      omega
  exact fin_uniq hD rok rok (b := 0) (by omega) (fun p p0 p1 => rfl) (Or.inr (by omega)) F0 (SW_fin hD rok)
def bstF (D : FD) (d : Int) : FV := dn (SC D d) (cdP d D.cnt 0) 0 (vw W0)
theorem l_seek {κ : KX} {μ0 : MM} {ν : ML} {D : FD} {d st : Int} {P : Option AV → List SH → MM → ML → Prop} (hbd : BD D d μ0) (K : ∀ (μ : MM) (u4 : AV), SR [25, 28] μ0 μ → μ 25 6 = ndd D → (∀ t : Int, 0 ≤ t → t < 60 → μ 28 t = Cm D (t + 1)) → AX κ mX0_seek 20 P 48 [aR 25, aR 14, aI st, aI (Cm D 60), u4] [] μ ν) (n : Nat) : ∀ (t : Int) (μ : MM), 0 ≤ t → t + n = 60 → SR [25, 28] μ0 μ → μ 25 6 = ndd D → (∀ x : Int, 0 ≤ x → x < t → μ 28 x = Cm D (x + 1)) → AX κ mX0_seek 20 P 17 [aR 25, aR 14, aI st, aI (Cm D t), aI t] [] μ ν := by
  have hD := hbd.1
  induction n with
  | zero =>
    intro t μ t0 tn hS h6 hx
    have e : t = 60 := by omega
    subst e
    refine aw_blk oX0_seek_17 (pc' := 21) (ls' := [_, _, _, _, _]) (st' := [_, _]) (cs := []) rfl trivial ?_
    refine aw_icmp_ge (tgt := 48) eX0_seek_21 (by decide) (by omega) (by omega) (fun h1 => ?_) (fun h1 => ?_)
    · exact K μ _ hS h6 hx
    · exfalso; omega
  | succ n ih =>
    intro t μ t0 tn hS h6 hx
    have e15 : μ 15 t = D.line t := by rw [hS 15 (by decide)]; exact hbd.2.2.2.2 t t0 (by omega)
    have ec : Cm D t + μ 15 t = Cm D (t + 1) := by rw [e15]; exact (psI_s (g := D.line) t0).symm
    refine aw_blk oX0_seek_17 (pc' := 21) (ls' := [_, _, _, _, _]) (st' := [_, _]) (cs := []) rfl trivial ?_
    refine aw_icmp_ge (tgt := 48) eX0_seek_21 (by decide) (by omega) (by omega) (fun h1 => ?_) (fun h1 => ?_)
    · exfalso; omega
    · refine aw_blk oX0_seek_24 (pc' := 17) (ls' := [_, _, _, _, _]) (st' := []) (cs := [(_, _), (_, _)]) rfl (⟨⟨by omega, by omega⟩, ⟨by omega, by omega⟩, trivial⟩) ?_
      rw [ec]
      refine ih (t + 1) _ (by omega) (by omega) (hS.put (by decide)) h6 (fun x x0 x1 => ?_)
      by_cases k : x = t
      · rw [k, up_at]
      · rw [up_ne (Or.inr k)]; exact hx x x0 (by omega)
theorem c_seek {κ : KX} {μ : MM} {ν : ML} {D : FD} {d : Int} (hbd : BD D d μ) : AQ κ 20 mX0_seek [aR 25, aR 14, aI D.start] μ ν (fun r μ' ν' => r = none ∧ ν' = ν ∧ SR [25, 26, 27, 28, 29, 30, 31, 32] μ μ' ∧ fE μ' (bstF D d)) := by
  have hD := hbd.1
  have o := hD.1
  have o2 := hD.2.1
  have cb := Cm_b hD (t := 60) (by omega) (by omega)
  have hN := cdP_bd (d := d) (cnt := D.cnt) (p := 0) (by omega) o.2
  have main : ∀ (μ1 : MM) (u4 : AV), SR [25, 28] μ μ1 → μ1 25 6 = ndd D → (∀ t : Int, 0 ≤ t → t < 60 → μ1 28 t = Cm D (t + 1)) → AX κ mX0_seek 20 (QS (fun r μ' ν' => r = none ∧ ν' = ν ∧ SR [25, 26, 27, 28, 29, 30, 31, 32] μ μ' ∧ fE μ' (bstF D d))) 48 [aR 25, aR 14, aI D.start, aI (Cm D 60), u4] [] μ1 ν := fun μ1 u4 h1 h6 h28 => by
    refine aw_blk oX0_seek_48 (pc' := 52) (ls' := [_, _, _, _, _]) (st' := [_]) (cs := []) rfl trivial ?_
    refine aw_crV (rest := []) c_clearB kX9_clear eX0_seek_52 lX0_seek_52 rfl rfl rfl rfl (Nat.le_of_ble_eq_true rfl) ⟨Nat.le_of_ble_eq_true rfl, Nat.le_of_ble_eq_true rfl⟩ ⟨Nat.le_refl _, Nat.le_refl _⟩ ?_
    intro r μ2 ν2 hP
    obtain ⟨rfl, rfl, p1, p2⟩ := hP
    have hS : ST D μ μ2 (vw W0) := ⟨(h1.trans p1).sub (by decide), p2, FB0, by rw [p1 25 (by decide)]; exact h6, fun t t0 t1 => by rw [p1 28 (by decide)]; exact h28 t t0 t1⟩
    refine aw_blk oX0_seek_55 (pc' := 56) (ls' := [_, _, _, _, _]) (st' := [_]) (cs := []) rfl trivial ?_
    refine aw_if_le (tgt := 67) eX0_seek_56 (by decide) (by omega) (fun h5 => ?_) (fun h5 => ?_)
    · refine aw_vret eX0_seek_67 rfl (Nat.le_refl _) (Nat.le_refl _) ?_
      refine ⟨rfl, rfl, rfl, hS.1, ?_⟩
      have e : bstF D d = vw W0 := by
        unfold bstF
        obtain ⟨m, hm⟩ : ∃ m, cdP d D.cnt 0 = m + 1 := ⟨cdP d D.cnt 0 - 1, by omega⟩
        rw [hm, dn_same (V := vw W0) m _ (fun c _ _ => SC_none hD (by omega))]
        unfold ud
        rw [if_pos nb_rf]
      rw [e]
      exact p2
    · refine aw_blk oX0_seek_59 (pc' := 64) (ls' := [_, _, _, _, _]) (st' := [_, _, _, _, _]) (cs := []) rfl trivial ?_
      have T := PF_all (κ := κ) (ν := ν2) hbd (D.cnt - 1).toNat 0 (by omega) (by omega) 0 0 0 μ2 (vw W0) (by omega) hS (fun code hc => ⟨fun q q0 q1 => by omega, rfl, Or.inl ⟨rfl, rfl⟩, by omega⟩)
      rw [Int.zero_mul] at T
      refine aw_crV (rest := []) T kX0_placeFrom eX0_seek_64 lX0_seek_64 rfl rfl rfl rfl (Nat.le_of_ble_eq_true rfl) (fit_R2 rfl (by omega)) ⟨Nat.le_refl _, Nat.le_refl _⟩ ?_
      intro r μ3 ν3 hP
      obtain ⟨rfl, rfl, p3, -⟩ := hP
      refine aw_vret eX0_seek_67 rfl (Nat.le_refl _) (Nat.le_refl _) ?_
      exact ⟨rfl, rfl, rfl, p3.1, p3.2.1⟩
  refine AMet.of kX0_seek.1 (Nat.le_of_ble_eq_true rfl) rfl ?_
  refine aw_blk oX0_seek_0 (pc' := 6) (ls' := [_, _, _, _, _]) (st' := [_, _, _]) (cs := []) rfl trivial ?_
  rw [hbd.2.1]
  refine aw_mmin eX0_seek_6 lX0_seek_6 (by omega) (by omega) (Nat.le_of_ble_eq_true rfl) ⟨Nat.le_of_ble_eq_true rfl, Nat.le_of_ble_eq_true rfl⟩ ⟨Nat.le_refl _, Nat.le_refl _⟩ ?_
  refine aw_blk oX0_seek_9 (pc' := 17) (ls' := [_, _, _, _, _]) (st' := []) (cs := []) rfl trivial ?_
  exact l_seek hbd main 60 0 _ (by omega) (by omega) (SR.rf.put (by decide)) (by rw [up_at]; rfl) (fun x x0 x1 => by omega)
theorem c_answerB {κ : KX} {μ : MM} {ν : ML} {F : FV} {w : Int} (h : fE μ F) (hw : told w) : AE κ 1 mX9_answer [aR 26, aI w] μ ν (some (aI (telV F w))) μ ν := by
  obtain ⟨c1, c2, c3, c4, c7⟩ := h
  have hT := c_tells1 (κ := κ) (μ := μ) (ν := ν) (w := w) (by unfold told at hw; omega) hw
  unfold told at hw
  by_cases h0 : w = 0
  · subst h0
    refine AMet.of kX9_answer.1 (Nat.le_of_ble_eq_true rfl) rfl ?_
    refine aw_blk oX9_answer_0 (pc' := 1) (ls' := [_, _]) (st' := [_]) (cs := []) rfl trivial ?_
    refine aw_tswIn (tgt := 32) eX9_answer_1 (by decide) (by decide) (by decide) rfl (by decide) ?_
    refine aw_blk oX9_answer_32 (pc' := 36) (ls' := [_, _]) (st' := [_]) (cs := []) rfl trivial ?_
    refine aw_iret eX9_answer_36 rfl (Nat.le_refl _) (Nat.le_refl _) ?_
    exact pe_i c1 rfl rfl
  · by_cases h1 : w = 1
    · subst h1
      refine AMet.of kX9_answer.1 (Nat.le_of_ble_eq_true rfl) rfl ?_
      refine aw_blk oX9_answer_0 (pc' := 1) (ls' := [_, _]) (st' := [_]) (cs := []) rfl trivial ?_
      refine aw_tswIn (tgt := 37) eX9_answer_1 (by decide) (by decide) (by decide) rfl (by decide) ?_
      refine aw_blk oX9_answer_37 (pc' := 41) (ls' := [_, _]) (st' := [_]) (cs := []) rfl trivial ?_
      refine aw_iret eX9_answer_41 rfl (Nat.le_refl _) (Nat.le_refl _) ?_
      exact pe_i c2 rfl rfl
    · by_cases h2 : w = 2
      · subst h2
        refine AMet.of kX9_answer.1 (Nat.le_of_ble_eq_true rfl) rfl ?_
        refine aw_blk oX9_answer_0 (pc' := 1) (ls' := [_, _]) (st' := [_]) (cs := []) rfl trivial ?_
        refine aw_tswIn (tgt := 42) eX9_answer_1 (by decide) (by decide) (by decide) rfl (by decide) ?_
        refine aw_blk oX9_answer_42 (pc' := 46) (ls' := [_, _]) (st' := [_]) (cs := []) rfl trivial ?_
        refine aw_iret eX9_answer_46 rfl (Nat.le_refl _) (Nat.le_refl _) ?_
        exact pe_i c3 rfl rfl
      · by_cases h3 : w = 3
        · subst h3
          refine AMet.of kX9_answer.1 (Nat.le_of_ble_eq_true rfl) rfl ?_
          refine aw_blk oX9_answer_0 (pc' := 1) (ls' := [_, _]) (st' := [_]) (cs := []) rfl trivial ?_
          refine aw_tswIn (tgt := 47) eX9_answer_1 (by decide) (by decide) (by decide) rfl (by decide) ?_
          refine aw_blk oX9_answer_47 (pc' := 51) (ls' := [_, _]) (st' := [_]) (cs := []) rfl trivial ?_
          refine aw_iret eX9_answer_51 rfl (Nat.le_refl _) (Nat.le_refl _) ?_
          exact pe_i c4 rfl rfl
        · have e : telV F w = F.2 (w - 10) := by
            unfold telV
            rw [if_neg h0, if_neg h1, if_neg h2, if_neg h3]
          rw [e]
          have g := c7 (w - 10) (by omega) (by omega)
          refine AMet.of kX9_answer.1 (Nat.le_of_ble_eq_true rfl) rfl ?_
          refine aw_blk oX9_answer_0 (pc' := 1) (ls' := [_, _]) (st' := [_]) (cs := []) rfl trivial ?_
          refine aw_tswOut (tgt := 52) eX9_answer_1 (by omega) (by omega) (by decide) ?_
          refine aw_blk oX9_answer_52 (pc' := 53) (ls' := [_, _]) (st' := [_]) (cs := []) rfl trivial ?_
          refine aw_ciS (rest := []) (hT) kX9_tells eX9_answer_53 lX9_answer_53 rfl rfl (Nat.le_of_ble_eq_true rfl) ⟨Nat.le_of_ble_eq_true rfl, Nat.le_of_ble_eq_true rfl⟩ ⟨Nat.le_refl _, Nat.le_refl _⟩ ?_
          refine aw_if_eq (tgt := 71) eX9_answer_56 (by decide) (by omega) (fun h1 => ?_) (fun h1 => ?_)
          · first
            | (exfalso; omega; done)
            | (refine aw_blk oX9_answer_71 (pc' := 73) (ls' := [_, _]) (st' := [_]) (cs := []) rfl trivial ?_
               refine aw_iret eX9_answer_73 rfl (Nat.le_refl _) (Nat.le_refl _) ?_
               exact pe_i g rfl rfl)
          · first
            | (exfalso; omega; done)
            | (refine aw_blk oX9_answer_59 (pc' := 73) (ls' := [_, _]) (st' := [_]) (cs := [(_, _)]) rfl (⟨⟨by omega, by omega⟩, trivial⟩) ?_
               refine aw_iret eX9_answer_73 rfl (Nat.le_refl _) (Nat.le_refl _) ?_
               exact pe_i g rfl rfl)
theorem telV_R {F : FV} {w : Int} (h : FB F) (hw : told w) : R32 (telV F w) := by
  obtain ⟨a, b, c, d, e⟩ := h
  unfold told at hw
  unfold telV
  split
  · omega
  · split
    · omega
    · split
      · omega
      · split
        · omega
        · have := e (w - 10) (by omega) (by omega)
          omega
theorem bstF_FB {D : FD} {d : Int} (hD : D.ok) : FB (bstF D d) := dn_FBS hD FB0
theorem bstF_is {D : FD} {d b : Int} (hD : D.ok) (h : isBst D d (cdP d D.cnt 0 : Int) b) : bstF D d = SC D d b := by
  obtain ⟨n, rfl⟩ : ∃ n : Nat, b = n := ⟨b.toNat, by have := h.1; omega⟩
  exact dn_best (by have := h.1; omega) h.2.1 h.2.2 (SW_fin hD rc_ok).nb0
/-- the best that is kept is the best that is asked -/
def RB (μ : MM) : Prop := μ 0 12 = 0 ∨ (μ 0 12 = 1 ∧ fE μ (bstF (fdS μ) (μ 14 3)))
theorem bstF_eq {μ μ' : MM} (e15 : μ' 15 = μ 15) (e16 : μ' 16 = μ 16) (e14 : μ' 14 = μ 14) (e1 : μ' 1 2 = μ 1 2) : bstF (fdS μ') (μ' 14 3) = bstF (fdS μ) (μ 14 3) := by
  have ec : (fdS μ').cnt = (fdS μ).cnt := by show μ' 14 2 = μ 14 2; rw [e14]
  have er : ∀ w : Int → Int, rD (fdS μ') w = rD (fdS μ) w := fun w => by
    show ((μ' 15, μ' 16, μ' 14 2, μ' 1 2, fun p _ _ _ => w p) : FD) = (μ 15, μ 16, μ 14 2, μ 1 2, fun p _ _ _ => w p)
    rw [e15, e16, e14, e1]
  have es : SC (fdS μ') (μ' 14 3) = SC (fdS μ) (μ 14 3) := by
    funext c
    unfold SC SW
    rw [er, ec, e14]
  unfold bstF
  rw [es, ec, e14]
theorem RB.fr {μ μ' : MM} (h : RB μ) (e0 : μ' 0 12 = μ 0 12) (e26 : μ' 26 = μ 26) (e27 : μ' 27 = μ 27) (e15 : μ' 15 = μ 15) (e16 : μ' 16 = μ 16) (e14 : μ' 14 = μ 14) (e1 : μ' 1 2 = μ 1 2) : RB μ' := by
  rcases h with h | ⟨h, g⟩
  · exact Or.inl (by omega)
  · refine Or.inr ⟨by omega, ?_⟩
    rw [bstF_eq e15 e16 e14 e1]
    exact g.fr e26 e27
theorem FS.bd {μ : MM} (h : FS μ) : BD (fdS μ) (μ 14 3) μ := ⟨h.ok, rfl, rfl, fun _ _ _ => rfl, fun _ _ _ => rfl⟩
abbrev csB : List Nat := [0, 25, 26, 27, 28, 29, 30, 31, 32]
def LawBs (κ : KX) (cx cm : MX) (As : List AV) (μ : MM) (ν : ML) : Prop := LawOK (fun μ2 ν2 => ν2 = ν ∧ SR [0, 25, 26, 27, 28, 29, 30, 31, 32, 55, 81, 82] μ μ2 ∧ SF [31, 32, 33, 34] μ μ2 ∧ (∀ j : Int, j ≠ 12 → μ2 0 j = μ 0 j) ∧ RB μ2) κ cx cm As μ ν
theorem law_best {κ : KX} {μ : MM} {ν : ML} {w : Int} (h : FS μ) (hR : RB μ) (hw : R32 w) : LawBs κ mX11_best mX12_best [aI w] μ ν := by
  have hD := h.ok
  by_cases c1 : told w
  · have hT := fun μ => c_tells1 (κ := κ) (μ := μ) (ν := ν) hw c1
    obtain ⟨F, hF⟩ : ∃ F, F = bstF (fdS μ) (μ 14 3) := ⟨_, rfl⟩
    have fb : FB F := by rw [hF]; exact bstF_FB hD
    refine ⟨fun r μ1 ν1 => r = some (aI (telV F w)) ∧ ν1 = ν ∧ SR csB μ μ1 ∧ (∀ j : Int, j ≠ 12 → μ1 0 j = μ 0 j) ∧ μ1 0 12 = 1 ∧ fE μ1 F, ?_, ?_⟩
    · skip
      have E39 : ∀ μ1 : MM, SR csB μ μ1 → (∀ j : Int, j ≠ 12 → μ1 0 j = μ 0 j) → μ1 0 12 = 1 → fE μ1 F → AX κ mX11_best 60 (QS (fun r μ1 ν1 => r = some (aI (telV F w)) ∧ ν1 = ν ∧ SR csB μ μ1 ∧ (∀ j : Int, j ≠ 12 → μ1 0 j = μ 0 j) ∧ μ1 0 12 = 1 ∧ fE μ1 F)) 39 [aR 0, aI w] [] μ1 ν := fun μ1 q1 q2 q3 q4 => by
        refine aw_blk oX11_best_39 (pc' := 47) (ls' := [_, _]) (st' := [_, _]) (cs := []) rfl trivial ?_
        refine aw_ciV (rest := []) (c_answerB q4 c1) kX9_answer eX11_best_47 lX11_best_47 rfl rfl rfl rfl (Nat.le_of_ble_eq_true rfl) ⟨Nat.le_of_ble_eq_true rfl, Nat.le_of_ble_eq_true rfl⟩ ⟨Nat.le_refl _, Nat.le_refl _⟩ ?_
        refine aw_iret eX11_best_50 rfl (Nat.le_refl _) (Nat.le_refl _) ?_
        exact ⟨rfl, rfl, rfl, q1, q2, q3, q4⟩
      have hK := c_seek (κ := κ) (ν := ν) h.bd
      rw [← hF] at hK
      refine AMet.of kX11_best.1 (Nat.le_of_ble_eq_true rfl) rfl ?_
      refine aw_blk oX11_best_0 (pc' := 1) (ls' := [_, _]) (st' := [_]) (cs := []) rfl trivial ?_
      refine aw_ciS (rest := []) (hT μ) kX9_tells eX11_best_1 lX11_best_1 rfl rfl (Nat.le_of_ble_eq_true rfl) ⟨Nat.le_of_ble_eq_true rfl, Nat.le_of_ble_eq_true rfl⟩ ⟨Nat.le_refl _, Nat.le_refl _⟩ ?_
      refine aw_if_ne (tgt := 10) eX11_best_4 (by decide) (by omega) (fun h1 => ?_) (fun h1 => ?_)
      · refine aw_blk oX11_best_10 (pc' := 14) (ls' := [_, _]) (st' := [_]) (cs := []) rfl trivial ?_
        rcases hR with q | ⟨q, qe⟩
        · refine aw_if_ne (tgt := 39) eX11_best_14 (by decide) (by omega) (fun h2 => ?_) (fun h2 => ?_)
          · exfalso; omega
          · have f5 := h.2.2
            refine aw_blk oX11_best_17 (pc' := 31) (ls' := [_, _]) (st' := [_, _, _]) (cs := [(_, _)]) rfl (⟨⟨by omega, by omega⟩, trivial⟩) ?_
            refine aw_crV (rest := []) hK kX0_seek eX11_best_31 lX11_best_31 rfl rfl rfl rfl (Nat.le_of_ble_eq_true rfl) ⟨Nat.le_of_ble_eq_true rfl, Nat.le_of_ble_eq_true rfl⟩ ⟨Nat.le_refl _, Nat.le_refl _⟩ ?_
            intro r μ1 ν1 hP
            obtain ⟨rfl, rfl, hS1, hE1⟩ := hP
            refine aw_blk oX11_best_34 (pc' := 39) (ls' := [_, _]) (st' := []) (cs := [(_, _)]) rfl (⟨⟨by omega, by omega⟩, trivial⟩) ?_
            refine E39 _ ((hS1.mono (fun c hc => List.mem_cons_of_mem _ hc)).put (by decide)) (fun j hj => ?_) rfl hE1
            rw [up_ne (Or.inr hj), hS1 0 (by decide)]
        · refine aw_if_ne (tgt := 39) eX11_best_14 (by decide) (by omega) (fun h2 => ?_) (fun h2 => ?_)
          · exact E39 μ SR.rf (fun _ _ => rfl) q (by rw [hF]; exact qe)
          · exfalso; omega
      · exfalso; omega
    · intro r μ1 ν1 hP
      obtain ⟨rfl, rfl, hS1, hj, h12, hE⟩ := hP
      refine ⟨_, rfl, telV_R fb c1, ?_⟩
      have hM : MD μ1 (fdS μ) := by
        obtain ⟨a, b, c, d, e⟩ := h.md
        refine ⟨a, fun t t0 t1 => ?_, fun i i0 i1 => ?_, ?_, ?_⟩
        · rw [hS1 60 (by decide)]; exact b t t0 t1
        · rw [hS1 59 (by decide)]; exact c i i0 i1
        · rw [hS1 55 (by decide)]; exact d
        · rw [hS1 58 (by decide)]; exact e
      have hC := c_bestM (κ := κ) (ν := ν1) (d := μ 14 3) hM (by rw [hS1 55 (by decide)]; exact h.1.2.1.1) hw c1
      have hC60 : AQ κ 60 mX12_best [aR 55, aI w] μ1 ν1 (fun r' μ2 ν2 => r' = some (aI (telV F w)) ∧ ν2 = ν1 ∧ SR [0, 25, 26, 27, 28, 29, 30, 31, 32, 55, 81, 82] μ μ2 ∧ SF [31, 32, 33, 34] μ μ2 ∧ (∀ j : Int, j ≠ 12 → μ2 0 j = μ 0 j) ∧ RB μ2) := by
        refine AMet.mono hC (fun r S μ2 ν2 q => ?_)
        obtain ⟨rfl, b, hb, rfl, rfl, hS2⟩ := q
        refine ⟨rfl, ?_, rfl, (hS1.trans hS2.1).sub (by decide), fun j hj2 => ?_, fun j hj2 => ?_, ?_⟩
        · rw [hF, bstF_is hD hb]
        · rw [hS2.2 j hj2, hS1 55 (by decide)]
        · rw [hS2.1 0 (by decide)]; exact hj j hj2
        · refine RB.fr (μ := μ1) (Or.inr ⟨h12, ?_⟩) (by rw [hS2.1 0 (by decide)]) (hS2.1 26 (by decide)) (hS2.1 27 (by decide)) (hS2.1 15 (by decide)) (hS2.1 16 (by decide)) (hS2.1 14 (by decide)) (by rw [hS2.1 1 (by decide)])
          rw [bstF_eq (hS1 15 (by decide)) (hS1 16 (by decide)) (hS1 14 (by decide)) (by rw [hS1 1 (by decide)]), ← hF]
          exact hE
      exact hC60
  · have hT := fun μ => c_tells0 (κ := κ) (μ := μ) (ν := ν) hw c1
    have hI := fun μ => c_isTold0 (κ := κ) (μ := μ) (ν := ν) hw c1
    refine LawOK.st (-2) ?_ ?_ (by decide) ⟨rfl, SR.rf, fun _ _ => rfl, fun _ _ => rfl, hR⟩
    · skip
      refine AMet.of kX11_best.1 (Nat.le_of_ble_eq_true rfl) rfl ?_
      refine aw_blk oX11_best_0 (pc' := 1) (ls' := [_, _]) (st' := [_]) (cs := []) rfl trivial ?_
      refine aw_ciS (rest := []) (hT μ) kX9_tells eX11_best_1 lX11_best_1 rfl rfl (Nat.le_of_ble_eq_true rfl) ⟨Nat.le_of_ble_eq_true rfl, Nat.le_of_ble_eq_true rfl⟩ ⟨Nat.le_refl _, Nat.le_refl _⟩ ?_
      refine aw_if_ne (tgt := 10) eX11_best_4 (by decide) (by omega) (fun h1 => ?_) (fun h1 => ?_)
      · exfalso; omega
      · refine aw_blk oX11_best_7 (pc' := 9) (ls' := [_, _]) (st' := [_]) (cs := []) rfl trivial ?_
        refine aw_iret eX11_best_9 rfl (Nat.le_refl _) (Nat.le_refl _) ?_
        exact pe_i rfl rfl rfl
    · skip
      refine AMet.of kX12_best.1 (Nat.le_of_ble_eq_true rfl) rfl ?_
      refine aw_blk oX12_best_0 (pc' := 1) (ls' := [_, _, _, _, _, _, _, _, _]) (st' := [_]) (cs := []) rfl trivial ?_
      refine aw_ciS (rest := []) (hI μ) kX12_isTold eX12_best_1 lX12_best_1 rfl rfl (Nat.le_of_ble_eq_true rfl) ⟨Nat.le_of_ble_eq_true rfl, Nat.le_of_ble_eq_true rfl⟩ ⟨Nat.le_refl _, Nat.le_refl _⟩ ?_
      refine aw_if_ne (tgt := 10) eX12_best_4 (by decide) (by omega) (fun h1 => ?_) (fun h1 => ?_)
      · exfalso; omega
      · refine aw_blk oX12_best_7 (pc' := 9) (ls' := [_, _, _, _, _, _, _, _, _]) (st' := [_]) (cs := []) rfl trivial ?_
        refine aw_iret eX12_best_9 rfl (Nat.le_refl _) (Nat.le_refl _) ?_
        exact pe_i rfl rfl rfl

/-! ===== rule ===== -/
def RA (μ : MM) : Prop := (μ 55 10 = 0 ∧ μ 17 6 = 0 ∧ μ 17 7 = 0) ∨ ∃ (c : Nat) (p : Int), μ 17 6 = (c : Int) ∧ c ≤ 6 ∧ CH (μ 62) μ c p ∧ μ 55 10 = p + 1 ∧ p + 1 ≤ 40 ∧ 48 ≤ μ 62 p ∧ μ 62 p ≤ 50 ∧ μ 17 7 = μ 62 p - 48
theorem ff_or {s : Int → Int} {cnt : Int} (hc : 0 ≤ cnt) : ∀ (n : Nat) (i st : Int), 0 ≤ i → ff s cnt n i st = -6 ∨ 0 ≤ ff s cnt n i st
  | 0, i, st, _ => by
    rw [ff]
    split <;> omega
  | n + 1, i, st, h0 => by
    rw [ff]
    split
    · omega
    · exact ff_or hc n (i + 1) _ (by omega)
def cpR : Nat → Int → MM → MM
  | 0, _, μ => μ
  | n + 1, i, μ => cpR n (i + 1) (up μ 62 i (μ 61 i))
theorem cpR_c {c : Nat} (hc : c ≠ 62) : ∀ (n : Nat) (i : Int) (μ : MM), cpR n i μ c = μ c
  | 0, _, _ => rfl
  | n + 1, i, μ => by
    rw [cpR, cpR_c hc n]
    exact up_cell hc
theorem cpR_out {x : Int} : ∀ (n : Nat) (i : Int) (μ : MM), x < i → cpR n i μ 62 x = μ 62 x
  | 0, _, _, _ => rfl
  | n + 1, i, μ, h => by
    rw [cpR, cpR_out n (i + 1) _ (by omega), up_ne (Or.inr (by omega))]
theorem cpR_in {x : Int} : ∀ (n : Nat) (i : Int) (μ : MM), i ≤ x → x < i + n → cpR n i μ 62 x = μ 61 x
  | 0, _, _, _, _ => by omega
  | n + 1, i, μ, h, h2 => by
    rw [cpR]
    by_cases e : x = i
    · rw [cpR_out n (i + 1) _ (by omega), e, up_at]
    · rw [cpR_in n (i + 1) _ (by omega) (by omega), up_c (by decide)]
theorem l_ruleM {κ : KX} {ν : ML} {N : Int} (hN : 0 ≤ N ∧ N ≤ 40) (n : Nat) : ∀ (i : Int) (μ : MM), μ 55 8 = N → 0 ≤ i → i + n = N → AX κ mX12_rule 60 (PE (some (aI 1)) (up (cpR n i μ) 55 8 0) ν) 20 [aR 55, aI i] [] μ ν := by
  induction n with
  | zero =>
    intro i μ e8 h0 hn
    refine aw_blk oX12_rule_20 (pc' := 25) (ls' := [_, _]) (st' := [_, _]) (cs := []) rfl trivial ?_
    refine aw_icmp_ge (tgt := 46) eX12_rule_25 (by decide) (by omega) (by omega) (fun h1 => ?_) (fun h1 => ?_)
    · refine aw_blk oX12_rule_46 (pc' := 52) (ls' := [_, _]) (st' := [_]) (cs := []) rfl trivial ?_
      refine aw_iret eX12_rule_52 rfl (Nat.le_refl _) (Nat.le_refl _) ?_
      exact pe_i rfl rfl rfl
    · exfalso; omega
  | succ n ih =>
    intro i μ e8 h0 hn
    refine aw_blk oX12_rule_20 (pc' := 25) (ls' := [_, _]) (st' := [_, _]) (cs := []) rfl trivial ?_
    refine aw_icmp_ge (tgt := 46) eX12_rule_25 (by decide) (by omega) (by omega) (fun h1 => ?_) (fun h1 => ?_)
    · exfalso; omega
    · refine aw_blk oX12_rule_28 (pc' := 20) (ls' := [_, _]) (st' := []) (cs := [(_, _), (_, _)]) rfl (⟨⟨by omega, by omega⟩, ⟨by omega, by omega⟩, trivial⟩) ?_
      exact ih (i + 1) _ (by rw [up_c (by decide)]; exact e8) (by omega) (by omega)
def LawR (κ : KX) (cx cm : MX) (As : List AV) (μ : MM) (ν : ML) : Prop := LawX (fun μ2 ν2 => ν2 = ν ∧ (μ2 = μ ∨ (RU μ2 ∧ RA μ2 ∧ SR [0, 17, 19, 20, 21, 22, 55, 62] μ μ2 ∧ SF [8, 10] μ μ2 ∧ μ2 0 11 = 0 ∧ (∀ j : Int, j ≠ 11 → μ2 0 j = μ 0 j)))) κ cx cm As μ ν
theorem law_rule {κ : KX} {μ : MM} {ν : ML} (h : RU μ) : LawR κ mX11_rule mX12_rule [] μ ν := by
  obtain ⟨a, b⟩ := id h
  have ho := ff_or (s := μ 18) (cnt := μ 17 1) (by omega) (μ 17 1).toNat 0 0 (by omega)
  have hX := c_firstFault (κ := κ) (ν := ν) h
  generalize hF : ff (μ 18) (μ 17 1) (μ 17 1).toNat 0 0 = F at ho hX
  by_cases c1 : F = -6
  · have hf : ff (μ 18) (μ 17 1) (μ 17 1).toNat 0 0 = -6 := by rw [hF]; exact c1
    have hA := c_adopt (κ := κ) (ν := ν) h hf
    have i0 : INV (μ 18) (up μ 17 6 0) 0 0 := ⟨0, 0, rfl, by omega, rfl, Or.inl ⟨rfl, rfl⟩⟩
    have iv := adL_inv (sg := μ 18) (N := μ 17 1) (by omega) (μ 17 1).toNat 0 0 _ i0 (by omega) (by omega) hf
    have kp := adL_keep (sg := μ 18) (μ 17 1).toNat 0 0 (up μ 17 6 0) ⟨(by decide : (0 : Int) ≤ 0), (by decide : (0 : Int) ≤ 6)⟩
    have kp' : ∀ c, c ∉ [17, 19, 20, 21, 22] → adL (μ 18) (μ 17 1).toNat 0 0 (up μ 17 6 0) c = μ c := fun c hc => by
      rw [kp c hc]
      exact up_cell (fun e => hc (by rw [e]; decide))
    generalize adL (μ 18) (μ 17 1).toNat 0 0 (up μ 17 6 0) = μa at hA iv kp kp'
    subst c1
    generalize hN : μ 17 1 = N at a hA iv
    obtain ⟨μ1, hμ1⟩ : ∃ m, m = up (up μa 17 1 0) 0 11 0 := ⟨_, rfl⟩
    have e1 : ∀ c, c ∉ [0, 17, 19, 20, 21, 22] → μ1 c = μ c := fun c hc => by
      rw [hμ1, up_cell (fun e => hc (by rw [e]; decide)), up_cell (fun e => hc (by rw [e]; decide)), kp' c (fun q => hc (List.mem_cons_of_mem _ q))]
    have k8 : μ1 55 8 = N := by rw [e1 55 (by decide)]; exact a.1
    have hR1 : RU (up μ1 17 1 N) := ⟨⟨by rw [up_c (by decide), k8, up_at], by rw [up_at]; exact a.2⟩, fun x h0 h1 => by rw [up_c (by decide), up_c (by decide), e1 61 (by decide), e1 18 (by decide)]; exact b x h0 h1⟩
    obtain ⟨μ2, hμ2⟩ : ∃ m, m = up (cpR N.toNat 0 (up μ1 55 10 N)) 55 8 0 := ⟨_, rfl⟩
    have e2 : ∀ c, c ≠ 62 → c ≠ 55 → μ2 c = μ1 c := fun c q1 q2 => by rw [hμ2, up_cell q2, cpR_c q1, up_cell q2]
    have hG : ∀ {κ : KX}, AE κ 1 mX12_faultOf [aR 55] μ1 ν (some (aI (-6))) μ1 ν := by
      intro κ
      have l := fun u3 u4 u5 => l_faultOfU (κ := κ) (μ := μ1) (ν := ν) (sg := μ 18) (N := N) (by omega) k8 (fun x h0 h1 => by rw [e1 61 (by decide)]; exact b x h0 h1) N.toNat 0 0 u3 u4 u5 (by omega) (by omega) (by omega) (by omega)
      rw [hN] at hF
      rw [hF] at l
      refine AMet.of kX12_faultOf.1 (Nat.le_of_ble_eq_true rfl) rfl ?_
      refine aw_blk oX12_faultOf_0 (pc' := 4) (ls' := [_, _, _, _, _, _]) (st' := []) (cs := []) rfl trivial ?_
      exact l _ _ _
    refine ⟨1, μ1, ν, μ2, ?_, ?_, by decide, rfl, Or.inr ⟨?_, ?_, ?_, ?_, ?_, ?_⟩⟩
    · rw [hμ1]
      refine AMet.of kX11_rule.1 (Nat.le_of_ble_eq_true rfl) rfl ?_
      refine aw_blk oX11_rule_0 (pc' := 4) (ls' := [_]) (st' := [_]) (cs := []) rfl trivial ?_
      refine aw_ciV (rest := []) (hX) kX8_firstFault eX11_rule_4 lX11_rule_4 rfl rfl rfl rfl (Nat.le_of_ble_eq_true rfl) ⟨Nat.le_of_ble_eq_true rfl, Nat.le_of_ble_eq_true rfl⟩ ⟨Nat.le_refl _, Nat.le_refl _⟩ ?_
      refine aw_blk oX11_rule_7 (pc' := 9) (ls' := [_]) (st' := [_, _]) (cs := []) rfl trivial ?_
      refine aw_icmp_eq (tgt := 15) eX11_rule_9 (by decide) (by omega) (by omega) (fun h1 => ?_) (fun h1 => ?_)
      · first
        | (exfalso; omega; done)
        | (refine aw_blk oX11_rule_15 (pc' := 19) (ls' := [_]) (st' := [_]) (cs := []) rfl trivial ?_
           refine aw_cvV (rest := []) (hA) kX8_adopt eX11_rule_19 lX11_rule_19 rfl rfl rfl rfl (Nat.le_of_ble_eq_true rfl) ⟨Nat.le_of_ble_eq_true rfl, Nat.le_of_ble_eq_true rfl⟩ ⟨Nat.le_refl _, Nat.le_refl _⟩ ?_
           refine aw_blk oX11_rule_22 (pc' := 28) (ls' := [_]) (st' := [_]) (cs := [(_, _)]) rfl (⟨⟨by omega, by omega⟩, trivial⟩) ?_
           refine aw_iret eX11_rule_28 rfl (Nat.le_refl _) (Nat.le_refl _) ?_
           exact pe_i rfl rfl rfl)
      · first
        | (exfalso; omega; done)
        | (refine aw_blk oX11_rule_12 (pc' := 14) (ls' := [_]) (st' := [_]) (cs := []) rfl trivial ?_
           refine aw_iret eX11_rule_14 rfl (Nat.le_refl _) (Nat.le_refl _) ?_
           exact pe_i rfl rfl rfl)
    · skip
      have K := l_ruleM (κ := κ) (ν := ν) (N := N) a.2 N.toNat 0 (up μ1 55 10 N) (by rw [up_ne (Or.inr (by decide))]; exact k8) (by omega) (by omega)
      rw [← hμ2] at K
      have E : AX κ mX12_rule 60 (PE (some (aI 1)) μ2 ν) 10 [aR 55, aU] [] μ1 ν := by
        refine aw_blk oX12_rule_10 (pc' := 20) (ls' := [_, _]) (st' := []) (cs := []) rfl trivial ?_
        rw [k8]
        exact K
      refine AMet.of kX12_rule.1 (Nat.le_of_ble_eq_true rfl) rfl ?_
      refine aw_blk oX12_rule_0 (pc' := 1) (ls' := [_, _]) (st' := [_]) (cs := []) rfl trivial ?_
      refine aw_ciV (rest := []) (hG) kX12_faultOf eX12_rule_1 lX12_rule_1 rfl rfl rfl rfl (Nat.le_of_ble_eq_true rfl) ⟨Nat.le_of_ble_eq_true rfl, Nat.le_of_ble_eq_true rfl⟩ ⟨Nat.le_refl _, Nat.le_refl _⟩ ?_
      refine aw_if_lt (tgt := 10) eX12_rule_4 (by decide) (by omega) (fun h2 => ?_) (fun h2 => ?_)
      · first
        | (exfalso; omega; done)
        | (exact E)
      · first
        | (exfalso; omega; done)
        | (refine aw_blk oX12_rule_7 (pc' := 9) (ls' := [_, _]) (st' := [_]) (cs := []) rfl trivial ?_
           refine aw_iret eX12_rule_9 rfl (Nat.le_refl _) (Nat.le_refl _) ?_
           exact pe_i rfl rfl rfl)
    · have m17 : μ2 17 1 = 0 := by rw [e2 17 (by decide) (by decide), hμ1]; rfl
      refine ⟨⟨?_, ?_, ?_⟩, fun x h0 h1 => ?_⟩
      · rw [m17, hμ2, up_at]
      · rw [m17]; decide
      · rw [m17]; decide
      · rw [e2 18 (by decide) (by decide), e2 61 (by decide) (by decide), e1 18 (by decide), e1 61 (by decide)]
        exact b x h0 h1
    · obtain ⟨c, p, q1, q2, q3, q4⟩ := iv
      have hp := CH.ge c p q3
      have q5 : N = p + 1 ∧ 48 ≤ μ 18 p ∧ μ 18 p ≤ 50 ∧ μa 17 7 = μ 18 p - 48 := by
        rcases q4 with ⟨q, -⟩ | ⟨-, q⟩ | ⟨-, q⟩ | ⟨-, -, q, -⟩
        · exact absurd q (by decide)
        · rcases q with ⟨q, -⟩ | ⟨q, -⟩ | ⟨-, q, -⟩ | ⟨d, -, -, q, -⟩ | ⟨d, -, -, q, -⟩
          · exact absurd q (by decide)
          · exact absurd q (by decide)
          · exact absurd q (by decide)
          · exact absurd q (by decide)
          · exact absurd q (by decide)
        · exact q
        · exact absurd q (by decide)
      have m62 : ∀ x : Int, 0 ≤ x → x < N → μ2 62 x = μ 18 x := fun x h0 h1 => by
        rw [hμ2, up_c (by decide), cpR_in N.toNat 0 _ h0 (by omega), up_c (by decide), e1 61 (by decide)]
        exact (b x h0 (by omega)).1
      have m17 : μ2 17 = up μa 17 1 0 17 := by rw [e2 17 (by decide) (by decide), hμ1]; rfl
      have mo : ∀ c, c ≠ 62 → c ≠ 55 → c ≠ 0 → c ≠ 17 → μ2 c = μa c := fun c r1 r2 r3 r4 => by rw [e2 c r1 r2, hμ1, up_cell r3, up_cell r4]
      refine Or.inr ⟨c, p, ?_, q2, ?_, ?_, by omega, ?_, ?_, ?_⟩
      · rw [m17, up_ne (Or.inr (by decide))]; exact q1
      · refine CH.congr c p q3 (fun i _ => ?_) (fun x h0 h1 => m62 x h0 (by omega))
        refine ⟨?_, ?_, ?_, ?_⟩
        · rw [mo 19 (by decide) (by decide) (by decide) (by decide)]
        · rw [mo 20 (by decide) (by decide) (by decide) (by decide)]
        · rw [mo 21 (by decide) (by decide) (by decide) (by decide)]
        · rw [mo 22 (by decide) (by decide) (by decide) (by decide)]
      · rw [hμ2, up_ne (Or.inr (by decide)), cpR_c (by decide), up_at]; exact q5.1
      · rw [m62 p (by omega) (by omega)]; exact q5.2.1
      · rw [m62 p (by omega) (by omega)]; exact q5.2.2.1
      · rw [m62 p (by omega) (by omega), m17, up_ne (Or.inr (by decide))]; exact q5.2.2.2
    · intro c hc
      rw [e2 c (fun e => hc (by rw [e]; decide)) (fun e => hc (by rw [e]; decide)), e1 c (fun q => hc ((show ∀ c ∈ [0, 17, 19, 20, 21, 22], c ∈ [0, 17, 19, 20, 21, 22, 55, 62] by decide) c q))]
    · intro j hj
      rw [hμ2, up_ne (Or.inr (fun e => hj (by rw [e]; decide))), cpR_c (by decide), up_ne (Or.inr (fun e => hj (by rw [e]; decide))), e1 55 (by decide)]
    · rw [e2 0 (by decide) (by decide), hμ1, up_at]
    · intro j hj
      rw [e2 0 (by decide) (by decide), hμ1, up_ne (Or.inr hj), up_c (by decide), kp' 0 (by decide)]
  · have hG := c_faultOf (κ := κ) (ν := ν) h
    rw [hF] at hG
    have hb := ff_bd (s := μ 18) (cnt := μ 17 1) (by omega) (μ 17 1).toNat 0 0 (by omega) (by omega)
    rw [hF] at hb
    refine ⟨-5, μ, ν, μ, ?_, ?_, by decide, rfl, Or.inl rfl⟩
    · skip
      refine AMet.of kX11_rule.1 (Nat.le_of_ble_eq_true rfl) rfl ?_
      refine aw_blk oX11_rule_0 (pc' := 4) (ls' := [_]) (st' := [_]) (cs := []) rfl trivial ?_
      refine aw_ciV (rest := []) (hX) kX8_firstFault eX11_rule_4 lX11_rule_4 rfl rfl rfl rfl (Nat.le_of_ble_eq_true rfl) ⟨Nat.le_of_ble_eq_true rfl, Nat.le_of_ble_eq_true rfl⟩ ⟨Nat.le_refl _, Nat.le_refl _⟩ ?_
      refine aw_blk oX11_rule_7 (pc' := 9) (ls' := [_]) (st' := [_, _]) (cs := []) rfl trivial ?_
      refine aw_icmp_eq (tgt := 15) eX11_rule_9 (by decide) (by omega) (by omega) (fun h3 => ?_) (fun h3 => ?_)
      · first
        | (exfalso; omega; done)
        | (skip)
      · first
        | (exfalso; omega; done)
        | (refine aw_blk oX11_rule_12 (pc' := 14) (ls' := [_]) (st' := [_]) (cs := []) rfl trivial ?_
           refine aw_iret eX11_rule_14 rfl (Nat.le_refl _) (Nat.le_refl _) ?_
           exact pe_i rfl rfl rfl)
    · skip
      refine AMet.of kX12_rule.1 (Nat.le_of_ble_eq_true rfl) rfl ?_
      refine aw_blk oX12_rule_0 (pc' := 1) (ls' := [_, _]) (st' := [_]) (cs := []) rfl trivial ?_
      refine aw_ciV (rest := []) (hG) kX12_faultOf eX12_rule_1 lX12_rule_1 rfl rfl rfl rfl (Nat.le_of_ble_eq_true rfl) ⟨Nat.le_of_ble_eq_true rfl, Nat.le_of_ble_eq_true rfl⟩ ⟨Nat.le_refl _, Nat.le_refl _⟩ ?_
      refine aw_if_lt (tgt := 10) eX12_rule_4 (by decide) (by omega) (fun h4 => ?_) (fun h4 => ?_)
      · first
        | (exfalso; omega; done)
        | (skip)
      · first
        | (exfalso; omega; done)
        | (refine aw_blk oX12_rule_7 (pc' := 9) (ls' := [_, _]) (st' := [_]) (cs := []) rfl trivial ?_
           refine aw_iret eX12_rule_9 rfl (Nat.le_refl _) (Nat.le_refl _) ?_
           exact pe_i rfl rfl rfl)
/-! ===== pick ===== -/
def pkF (μ : MM) (w l z k i : Int) : Int := if μ 19 i = 98 then w else if μ 19 i = 108 then l else if μ 19 i = 115 then z else k
def pk (μ : MM) (w l z k : Int) : Nat → Int → Int
  | 0, _ => μ 17 7
  | n + 1, i => if (μ 20 i = 1 ∧ pkF μ w l z k i < μ 21 i) ∨ (μ 20 i ≠ 1 ∧ μ 21 i < pkF μ w l z k i) then μ 22 i else pk μ w l z k n (i + 1)
theorem pk_congr {μ μ' : MM} {w l z k : Int} (e17 : μ' 17 7 = μ 17 7) (e19 : μ' 19 = μ 19) (e20 : μ' 20 = μ 20) (e21 : μ' 21 = μ 21) (e22 : μ' 22 = μ 22) : ∀ (n : Nat) (i : Int), pk μ' w l z k n i = pk μ w l z k n i
  | 0, _ => by rw [pk, pk, e17]
  | n + 1, i => by
    rw [pk, pk, e20, e21, e22, pk_congr e17 e19 e20 e21 e22 n (i + 1)]
    unfold pkF
    rw [e19]
/-- what the class's clauses hold -/
def KC (μ : MM) : Prop := (0 ≤ μ 17 6 ∧ μ 17 6 ≤ 6) ∧ (0 ≤ μ 17 7 ∧ μ 17 7 ≤ 2) ∧ ∀ i : Int, 0 ≤ i → i < μ 17 6 → (0 ≤ μ 19 i ∧ μ 19 i ≤ 126) ∧ (0 ≤ μ 20 i ∧ μ 20 i ≤ 1) ∧ (0 ≤ μ 21 i ∧ μ 21 i ≤ 999) ∧ (0 ≤ μ 22 i ∧ μ 22 i ≤ 2)
theorem CL.kc {sg : Int → Int} {μ : MM} {i p q : Int} (h : CL sg μ i p q) : (0 ≤ μ 19 i ∧ μ 19 i ≤ 126) ∧ (0 ≤ μ 20 i ∧ μ 20 i ≤ 1) ∧ (0 ≤ μ 21 i ∧ μ 21 i ≤ 999) ∧ (0 ≤ μ 22 i ∧ μ 22 i ≤ 2) := by
  obtain ⟨d, h1, h2, h3, ⟨b1, b2, b3, b4, b5, b6⟩, h5, h6, h7, h8⟩ := h
  unfold fct at b1
  refine ⟨by omega, ?_, ?_, by omega⟩
  · rw [b4]
    split <;> decide
  · rw [b6]
    have g2 := b5 (p + 2) (by omega) (by omega)
    rcases (show d = 1 ∨ d = 2 ∨ d = 3 by omega) with rfl | rfl | rfl
    · rw [val_1]; omega
    · have g3 := b5 (p + 3) (by omega) (by omega)
      rw [val_2]; omega
    · have g3 := b5 (p + 3) (by omega) (by omega)
      have g4 := b5 (p + 4) (by omega) (by omega)
      rw [val_3]; omega
theorem RA.kc {μ : MM} (h : RA μ) : KC μ := by
  rcases h with ⟨-, h6, h7⟩ | ⟨c, p, h6, hc, ch, hm, hp, z1, z2, h7⟩
  · exact ⟨by omega, by omega, fun i h0 h1 => by omega⟩
  · obtain ⟨pos, e0, e1, e2⟩ := CH.pos c p ch
    refine ⟨by omega, by omega, fun i h0 h1 => ?_⟩
    have := (e1 i.toNat (by omega)).kc
    rw [show ((i.toNat : Nat) : Int) = i by omega] at this
    exact this
theorem pk_bd {μ : MM} {w l z k : Int} (h : KC μ) : ∀ (n : Nat) (i : Int), 0 ≤ i → i + n = μ 17 6 → 0 ≤ pk μ w l z k n i ∧ pk μ w l z k n i ≤ 2
  | 0, _, _, _ => h.2.1
  | n + 1, i, h0, hn => by
    rw [pk]
    split
    · exact (h.2.2 i h0 (by omega)).2.2.2
    · exact pk_bd h n (i + 1) (by omega) (by omega)
theorem l_pick {κ : KX} {μ : MM} {ν : ML} {w l z k : Int} (h : KC μ) (hw : R32 w) (hl : R32 l) (hz : R32 z) (hk : R32 k) (n : Nat) : ∀ (i : Int) (u6 : AV), 0 ≤ i → i + n = μ 17 6 → AX κ mX8_pick 0 (PE (some (aI (pk μ w l z k n i))) μ ν) 3 [aR 17, aI w, aI l, aI z, aI k, aI i, u6] [] μ ν := by
  obtain ⟨a, b, c⟩ := id h
  induction n with
  | zero =>
    intro i u6 h0 hn
    refine aw_blk oX8_pick_3 (pc' := 9) (ls' := [_, _, _, _, _, _, _]) (st' := [_, _]) (cs := []) rfl trivial ?_
    refine aw_icmp_ge (tgt := 118) eX8_pick_9 (by decide) (by omega) (by omega) (fun h1 => ?_) (fun h1 => ?_)
    · refine aw_blk oX8_pick_118 (pc' := 122) (ls' := [_, _, _, _, _, _, _]) (st' := [_]) (cs := []) rfl trivial ?_
      refine aw_iret eX8_pick_122 rfl (Nat.le_refl _) (Nat.le_refl _) ?_
      exact pe_i rfl rfl rfl
    · exfalso; omega
  | succ n ih =>
    intro i u6 h0 hn
    have g := c i h0 (by omega)
    have T := fun u => ih (i + 1) u (by omega) (by omega)
    have Y : ∀ f : Int, f = pkF μ w l z k i → R32 f → AX κ mX8_pick 0 (PE (some (aI (pk μ w l z k (n + 1) i))) μ ν) 67 [aR 17, aI w, aI l, aI z, aI k, aI i, aI f] [] μ ν := fun f e hf => by
      rw [pk, ← e]
      refine aw_blk oX8_pick_67 (pc' := 74) (ls' := [_, _, _, _, _, _, _]) (st' := [_]) (cs := [(_, _)]) rfl (⟨⟨by omega, by omega⟩, trivial⟩) ?_
      refine aw_if_eq (tgt := 92) eX8_pick_74 (by decide) (by omega) (fun h5 => ?_) (fun h5 => ?_)
      · first
        | (exfalso; omega; done)
        | (refine aw_blk oX8_pick_92 (pc' := 101) (ls' := [_, _, _, _, _, _, _]) (st' := [_, _]) (cs := [(_, _)]) rfl (⟨⟨by omega, by omega⟩, trivial⟩) ?_
           refine aw_icmp_le (tgt := 112) eX8_pick_101 (by decide) (by omega) (by omega) (fun h6 => ?_) (fun h6 => ?_)
           · first
             | (exfalso; omega; done)
             | (refine aw_blk oX8_pick_112 (pc' := 3) (ls' := [_, _, _, _, _, _, _]) (st' := []) (cs := []) rfl trivial ?_
                rw [if_neg (by omega)]
                exact T _)
           · first
             | (exfalso; omega; done)
             | (refine aw_blk oX8_pick_104 (pc' := 111) (ls' := [_, _, _, _, _, _, _]) (st' := [_]) (cs := [(_, _)]) rfl (⟨⟨by omega, by omega⟩, trivial⟩) ?_
                refine aw_iret eX8_pick_111 rfl (Nat.le_refl _) (Nat.le_refl _) ?_
                exact pe_i (by rw [if_pos (by omega)]) rfl rfl))
      · first
        | (exfalso; omega; done)
        | (refine aw_blk oX8_pick_77 (pc' := 86) (ls' := [_, _, _, _, _, _, _]) (st' := [_, _]) (cs := [(_, _)]) rfl (⟨⟨by omega, by omega⟩, trivial⟩) ?_
           refine aw_icmp_ge (tgt := 112) eX8_pick_86 (by decide) (by omega) (by omega) (fun h7 => ?_) (fun h7 => ?_)
           · first
             | (exfalso; omega; done)
             | (refine aw_blk oX8_pick_112 (pc' := 3) (ls' := [_, _, _, _, _, _, _]) (st' := []) (cs := []) rfl trivial ?_
                rw [if_neg (by omega)]
                exact T _)
           · first
             | (exfalso; omega; done)
             | (refine aw_blk oX8_pick_89 (pc' := 104) (ls' := [_, _, _, _, _, _, _]) (st' := []) (cs := []) rfl trivial ?_
                refine aw_blk oX8_pick_104 (pc' := 111) (ls' := [_, _, _, _, _, _, _]) (st' := [_]) (cs := [(_, _)]) rfl (⟨⟨by omega, by omega⟩, trivial⟩) ?_
                refine aw_iret eX8_pick_111 rfl (Nat.le_refl _) (Nat.le_refl _) ?_
                exact pe_i (by rw [if_pos (by omega)]) rfl rfl))
    refine aw_blk oX8_pick_3 (pc' := 9) (ls' := [_, _, _, _, _, _, _]) (st' := [_, _]) (cs := []) rfl trivial ?_
    refine aw_icmp_ge (tgt := 118) eX8_pick_9 (by decide) (by omega) (by omega) (fun h8 => ?_) (fun h8 => ?_)
    · first
      | (exfalso; omega; done)
      | (refine aw_blk oX8_pick_118 (pc' := 122) (ls' := [_, _, _, _, _, _, _]) (st' := [_]) (cs := []) rfl trivial ?_
         refine aw_iret eX8_pick_122 rfl (Nat.le_refl _) (Nat.le_refl _) ?_
         skip)
    · first
      | (exfalso; omega; done)
      | (refine aw_blk oX8_pick_12 (pc' := 25) (ls' := [_, _, _, _, _, _, _]) (st' := [_, _]) (cs := [(_, _)]) rfl (⟨⟨by omega, by omega⟩, trivial⟩) ?_
         refine aw_icmp_ne (tgt := 34) eX8_pick_25 (by decide) (by omega) (by omega) (fun h9 => ?_) (fun h9 => ?_)
         · first
           | (exfalso; omega; done)
           | (refine aw_blk oX8_pick_34 (pc' := 43) (ls' := [_, _, _, _, _, _, _]) (st' := [_, _]) (cs := [(_, _)]) rfl (⟨⟨by omega, by omega⟩, trivial⟩) ?_
              refine aw_icmp_ne (tgt := 52) eX8_pick_43 (by decide) (by omega) (by omega) (fun h10 => ?_) (fun h10 => ?_)
              · first
                | (exfalso; omega; done)
                | (refine aw_blk oX8_pick_52 (pc' := 61) (ls' := [_, _, _, _, _, _, _]) (st' := [_, _]) (cs := [(_, _)]) rfl (⟨⟨by omega, by omega⟩, trivial⟩) ?_
                   refine aw_icmp_ne (tgt := 67) eX8_pick_61 (by decide) (by omega) (by omega) (fun h11 => ?_) (fun h11 => ?_)
                   · first
                     | (exfalso; omega; done)
                     | (exact Y _ (by unfold pkF; (repeat' split) <;> omega) (by omega))
                   · first
                     | (exfalso; omega; done)
                     | (refine aw_blk oX8_pick_64 (pc' := 67) (ls' := [_, _, _, _, _, _, _]) (st' := []) (cs := []) rfl trivial ?_
                        exact Y _ (by unfold pkF; (repeat' split) <;> omega) (by omega)))
              · first
                | (exfalso; omega; done)
                | (refine aw_blk oX8_pick_46 (pc' := 67) (ls' := [_, _, _, _, _, _, _]) (st' := []) (cs := []) rfl trivial ?_
                   exact Y _ (by unfold pkF; (repeat' split) <;> omega) (by omega)))
         · first
           | (exfalso; omega; done)
           | (refine aw_blk oX8_pick_28 (pc' := 67) (ls' := [_, _, _, _, _, _, _]) (st' := []) (cs := []) rfl trivial ?_
              exact Y _ (by unfold pkF; (repeat' split) <;> omega) (by omega)))
theorem c_pick {κ : KX} {μ : MM} {ν : ML} {w l z k : Int} (h : KC μ) (hw : R32 w) (hl : R32 l) (hz : R32 z) (hk : R32 k) : AE κ 0 mX8_pick [aR 17, aI w, aI l, aI z, aI k] μ ν (some (aI (pk μ w l z k (μ 17 6).toNat 0))) μ ν := by
  refine AMet.of kX8_pick.1 (Nat.le_of_ble_eq_true rfl) rfl ?_
  refine aw_blk oX8_pick_0 (pc' := 3) (ls' := [_, _, _, _, _, _, _]) (st' := []) (cs := []) rfl trivial ?_
  exact l_pick h hw hl hz hk _ 0 _ (by omega) (by have := h.1; omega)
theorem s_pick139 {κ : KX} {μ : MM} {ν : ML} {w l z k f b v x : Int} {u6 : AV} {P : Option AV → List SH → MM → ML → Prop} (hf : R32 f) (hb : 0 ≤ b ∧ b ≤ 1) (hv : R32 v) (hx : 0 ≤ x ∧ x + 1 < 40) (Y : (b = 1 ∧ f < v) ∨ (b ≠ 1 ∧ v < f) → P (some (aI (μ 62 (x + 1) - 48))) S0 μ ν) (T : ¬ ((b = 1 ∧ f < v) ∨ (b ≠ 1 ∧ v < f)) → AX κ mX12_pick 1 P 3 [aR 55, aI w, aI l, aI z, aI k, aI (x + 3), u6, aI f, aI b, aI v] [] μ ν) : AX κ mX12_pick 1 P 139 [aR 55, aI w, aI l, aI z, aI k, aI x, u6, aI f, aI b, aI v] [] μ ν := by
  refine aw_blk oX12_pick_139 (pc' := 141) (ls' := [_, _, _, _, _, _, _, _, _, _]) (st' := [_]) (cs := []) rfl trivial ?_
  refine aw_if_eq (tgt := 154) eX12_pick_141 (by decide) (by omega) (fun h12 => ?_) (fun h12 => ?_)
  · first
    | (exfalso; omega; done)
    | (refine aw_blk oX12_pick_154 (pc' := 158) (ls' := [_, _, _, _, _, _, _, _, _, _]) (st' := [_, _]) (cs := []) rfl trivial ?_
       refine aw_icmp_le (tgt := 174) eX12_pick_158 (by decide) (by omega) (by omega) (fun h13 => ?_) (fun h13 => ?_)
       · first
         | (exfalso; omega; done)
         | (refine aw_blk oX12_pick_174 (pc' := 3) (ls' := [_, _, _, _, _, _, _, _, _, _]) (st' := []) (cs := []) rfl trivial ?_
            exact T (by omega))
       · first
         | (exfalso; omega; done)
         | (refine aw_blk oX12_pick_161 (pc' := 173) (ls' := [_, _, _, _, _, _, _, _, _, _]) (st' := [_]) (cs := [(_, _)]) rfl (⟨⟨by omega, by omega⟩, trivial⟩) ?_
            refine aw_iret eX12_pick_173 rfl (Nat.le_refl _) (Nat.le_refl _) ?_
            exact Y (by omega)))
  · first
    | (exfalso; omega; done)
    | (refine aw_blk oX12_pick_144 (pc' := 148) (ls' := [_, _, _, _, _, _, _, _, _, _]) (st' := [_, _]) (cs := []) rfl trivial ?_
       refine aw_icmp_ge (tgt := 174) eX12_pick_148 (by decide) (by omega) (by omega) (fun h14 => ?_) (fun h14 => ?_)
       · first
         | (exfalso; omega; done)
         | (refine aw_blk oX12_pick_174 (pc' := 3) (ls' := [_, _, _, _, _, _, _, _, _, _]) (st' := []) (cs := []) rfl trivial ?_
            exact T (by omega))
       · first
         | (exfalso; omega; done)
         | (refine aw_blk oX12_pick_151 (pc' := 161) (ls' := [_, _, _, _, _, _, _, _, _, _]) (st' := []) (cs := []) rfl trivial ?_
            refine aw_blk oX12_pick_161 (pc' := 173) (ls' := [_, _, _, _, _, _, _, _, _, _]) (st' := [_]) (cs := [(_, _)]) rfl (⟨⟨by omega, by omega⟩, trivial⟩) ?_
            refine aw_iret eX12_pick_173 rfl (Nat.le_refl _) (Nat.le_refl _) ?_
            exact Y (by omega)))
theorem l_pickM {κ : KX} {μ : MM} {ν : ML} {w l z k P : Int} {pos : Nat → Int} {c : Nat} (hw : R32 w) (hl : R32 l) (hz : R32 z) (hk : R32 k) (eP : μ 55 10 = P + 1) (hP : P + 1 ≤ 40) (z1 : 48 ≤ μ 62 P) (z2 : μ 62 P ≤ 50) (h7 : μ 17 7 = μ 62 P - 48) (cl : ∀ i : Nat, i < c → CL (μ 62) μ (i : Int) (pos i) (pos (i + 1))) (po : ∀ i : Nat, i ≤ c → 0 ≤ pos i ∧ pos i ≤ P) (pc : pos c = P) (n : Nat) : ∀ (i : Nat) (u6 u7 u8 u9 : AV), i + n = c → AX κ mX12_pick 1 (PE (some (aI (pk μ w l z k n (i : Int)))) μ ν) 3 [aR 55, aI w, aI l, aI z, aI k, aI (pos i), u6, u7, u8, u9] [] μ ν := by
  induction n with
  | zero =>
    intro i u6 u7 u8 u9 hn
    have e : i = c := by omega
    subst e
    rw [pc]
    have g := po i (by omega)
    rw [pc] at g
    refine aw_blk oX12_pick_3 (pc' := 9) (ls' := [_, _, _, _, _, _, _, _, _, _]) (st' := [_, _]) (cs := []) rfl trivial ?_
    refine aw_icmp_ge (tgt := 180) eX12_pick_9 (by decide) (by omega) (by omega) (fun h1 => ?_) (fun h1 => ?_)
    · exfalso; omega
    · refine aw_blk oX12_pick_12 (pc' := 27) (ls' := [_, _, _, _, _, _, _, _, _, _]) (st' := [_, _, _]) (cs := [(_, _)]) rfl (⟨⟨by omega, by omega⟩, trivial⟩) ?_
      refine aw_ciS (rest := []) (c_X12_in (by omega) (by omega) (by omega)) kX12_in eX12_pick_27 lX12_pick_27 rfl rfl (Nat.le_of_ble_eq_true rfl) ⟨Nat.le_of_ble_eq_true rfl, Nat.le_of_ble_eq_true rfl⟩ ⟨Nat.le_refl _, Nat.le_refl _⟩ ?_
      refine aw_if_eq (tgt := 39) eX12_pick_30 (by decide) bt_r (fun hh => have h2 := bt0 hh; ?_) (fun hh => have h2 := bt1 hh; ?_)
      · exfalso; omega
      · refine aw_blk oX12_pick_33 (pc' := 38) (ls' := [_, _, _, _, _, _, _, _, _, _]) (st' := [_]) (cs := []) rfl trivial ?_
        refine aw_iret eX12_pick_38 rfl (Nat.le_refl _) (Nat.le_refl _) ?_
        exact pe_i h7.symm rfl rfl
  | succ n ih =>
    intro i u6 u7 u8 u9 hn
    have T := fun u6 u7 u8 u9 => ih (i + 1) u6 u7 u8 u9 (by omega)
    have g0 := po i (by omega)
    have g1 := po (i + 1) (by omega)
    have C := cl i (by omega)
    have kc := C.kc
    obtain ⟨d, d1, d3, q, ⟨b1, b2, b3, b4, b5, b6⟩, h5, h6, h7', h8⟩ := C
    unfold fct at b1
    generalize pos i = p at *
    rw [q] at g1
    have e20 : (μ 62 (p + 1) = 60 ∧ μ 20 (i : Int) = 1) ∨ (¬ μ 62 (p + 1) = 60 ∧ μ 20 (i : Int) = 0) := by
      by_cases e : μ 62 (p + 1) = 60
      · left; rw [b4, if_pos e]; exact ⟨e, rfl⟩
      · right; rw [b4, if_neg e]; exact ⟨e, rfl⟩
    have D139 : ∀ (f b v : Int) (u6 : AV), f = pkF μ w l z k (i : Int) → R32 f → b = μ 20 (i : Int) → v = μ 21 (i : Int) → AX κ mX12_pick 1 (PE (some (aI (pk μ w l z k (n + 1) (i : Int)))) μ ν) 139 [aR 55, aI w, aI l, aI z, aI k, aI (p + 2 + d), u6, aI f, aI b, aI v] [] μ ν := fun f b v u6 ef hf eb ev => by
      refine s_pick139 hf (by omega) (by omega) (by omega) (fun y => ?_) (fun y => ?_)
      · rw [pk, ← ef, ← eb, ← ev, if_pos y]
        exact pe_i (by rw [h8, show p + 2 + d + 1 = p + 3 + d by omega]) rfl rfl
      · rw [pk, ← ef, ← eb, ← ev, if_neg y]
        have := T u6 (aI f) (aI b) (aI v)
        rw [q, show p + d + 5 = p + 2 + d + 3 by omega] at this
        exact this
    have D103 : ∀ (f b : Int) (u6 : AV), f = pkF μ w l z k (i : Int) → R32 f → b = μ 20 (i : Int) → AX κ mX12_pick 1 (PE (some (aI (pk μ w l z k (n + 1) (i : Int)))) μ ν) 103 [aR 55, aI w, aI l, aI z, aI k, aI (p + 2), u6, aI f, aI b, aI 0] [] μ ν := fun f b u6 ef hf eb => by
      have D := fun v ev => D139 f b v u6 ef hf eb ev
      have g2 := b5 (p + 2) (by omega) (by omega)
      rcases (show d = 1 ∨ d = 2 ∨ d = 3 by omega) with rfl | rfl | rfl
      · rw [val_1] at b6
        rw [show p + 2 + 1 = p + 3 by omega] at D h5
        refine aw_blk oX12_pick_103 (pc' := 112) (ls' := [_, _, _, _, _, _, _, _, _, _]) (st' := [_, _]) (cs := [(_, _)]) rfl (⟨⟨by omega, by omega⟩, trivial⟩) ?_
        refine aw_icmp_eq (tgt := 139) eX12_pick_112 (by decide) (by omega) (by omega) (fun h1 => ?_) (fun h1 => ?_)
        · exfalso; omega
        · refine aw_blk oX12_pick_115 (pc' := 103) (ls' := [_, _, _, _, _, _, _, _, _, _]) (st' := []) (cs := [(_, _)]) rfl (⟨⟨by omega, by omega⟩, trivial⟩) ?_
          rw [show p + 2 + 1 = p + 3 by omega]
          refine aw_blk oX12_pick_103 (pc' := 112) (ls' := [_, _, _, _, _, _, _, _, _, _]) (st' := [_, _]) (cs := [(_, _)]) rfl (⟨⟨by omega, by omega⟩, trivial⟩) ?_
          refine aw_icmp_eq (tgt := 139) eX12_pick_112 (by decide) (by omega) (by omega) (fun h2 => ?_) (fun h2 => ?_)
          · exact D _ (by omega)
          · exfalso; omega
      · rw [val_2] at b6
        rw [show p + 2 + 2 = p + 4 by omega] at D h5
        have g3 := b5 (p + 3) (by omega) (by omega)
        refine aw_blk oX12_pick_103 (pc' := 112) (ls' := [_, _, _, _, _, _, _, _, _, _]) (st' := [_, _]) (cs := [(_, _)]) rfl (⟨⟨by omega, by omega⟩, trivial⟩) ?_
        refine aw_icmp_eq (tgt := 139) eX12_pick_112 (by decide) (by omega) (by omega) (fun h1 => ?_) (fun h1 => ?_)
        · exfalso; omega
        · refine aw_blk oX12_pick_115 (pc' := 103) (ls' := [_, _, _, _, _, _, _, _, _, _]) (st' := []) (cs := [(_, _)]) rfl (⟨⟨by omega, by omega⟩, trivial⟩) ?_
          rw [show p + 2 + 1 = p + 3 by omega]
          refine aw_blk oX12_pick_103 (pc' := 112) (ls' := [_, _, _, _, _, _, _, _, _, _]) (st' := [_, _]) (cs := [(_, _)]) rfl (⟨⟨by omega, by omega⟩, trivial⟩) ?_
          refine aw_icmp_eq (tgt := 139) eX12_pick_112 (by decide) (by omega) (by omega) (fun h2 => ?_) (fun h2 => ?_)
          · exfalso; omega
          · refine aw_blk oX12_pick_115 (pc' := 103) (ls' := [_, _, _, _, _, _, _, _, _, _]) (st' := []) (cs := [(_, _)]) rfl (⟨⟨by omega, by omega⟩, trivial⟩) ?_
            rw [show p + 3 + 1 = p + 4 by omega]
            refine aw_blk oX12_pick_103 (pc' := 112) (ls' := [_, _, _, _, _, _, _, _, _, _]) (st' := [_, _]) (cs := [(_, _)]) rfl (⟨⟨by omega, by omega⟩, trivial⟩) ?_
            refine aw_icmp_eq (tgt := 139) eX12_pick_112 (by decide) (by omega) (by omega) (fun h3 => ?_) (fun h3 => ?_)
            · exact D _ (by omega)
            · exfalso; omega
      · rw [val_3] at b6
        rw [show p + 2 + 3 = p + 5 by omega] at D h5
        have g3 := b5 (p + 3) (by omega) (by omega)
        have g4 := b5 (p + 4) (by omega) (by omega)
        refine aw_blk oX12_pick_103 (pc' := 112) (ls' := [_, _, _, _, _, _, _, _, _, _]) (st' := [_, _]) (cs := [(_, _)]) rfl (⟨⟨by omega, by omega⟩, trivial⟩) ?_
        refine aw_icmp_eq (tgt := 139) eX12_pick_112 (by decide) (by omega) (by omega) (fun h1 => ?_) (fun h1 => ?_)
        · exfalso; omega
        · refine aw_blk oX12_pick_115 (pc' := 103) (ls' := [_, _, _, _, _, _, _, _, _, _]) (st' := []) (cs := [(_, _)]) rfl (⟨⟨by omega, by omega⟩, trivial⟩) ?_
          rw [show p + 2 + 1 = p + 3 by omega]
          refine aw_blk oX12_pick_103 (pc' := 112) (ls' := [_, _, _, _, _, _, _, _, _, _]) (st' := [_, _]) (cs := [(_, _)]) rfl (⟨⟨by omega, by omega⟩, trivial⟩) ?_
          refine aw_icmp_eq (tgt := 139) eX12_pick_112 (by decide) (by omega) (by omega) (fun h2 => ?_) (fun h2 => ?_)
          · exfalso; omega
          · refine aw_blk oX12_pick_115 (pc' := 103) (ls' := [_, _, _, _, _, _, _, _, _, _]) (st' := []) (cs := [(_, _)]) rfl (⟨⟨by omega, by omega⟩, trivial⟩) ?_
            rw [show p + 3 + 1 = p + 4 by omega]
            refine aw_blk oX12_pick_103 (pc' := 112) (ls' := [_, _, _, _, _, _, _, _, _, _]) (st' := [_, _]) (cs := [(_, _)]) rfl (⟨⟨by omega, by omega⟩, trivial⟩) ?_
            refine aw_icmp_eq (tgt := 139) eX12_pick_112 (by decide) (by omega) (by omega) (fun h3 => ?_) (fun h3 => ?_)
            · exfalso; omega
            · refine aw_blk oX12_pick_115 (pc' := 103) (ls' := [_, _, _, _, _, _, _, _, _, _]) (st' := []) (cs := [(_, _)]) rfl (⟨⟨by omega, by omega⟩, trivial⟩) ?_
              rw [show p + 4 + 1 = p + 5 by omega]
              refine aw_blk oX12_pick_103 (pc' := 112) (ls' := [_, _, _, _, _, _, _, _, _, _]) (st' := [_, _]) (cs := [(_, _)]) rfl (⟨⟨by omega, by omega⟩, trivial⟩) ?_
              refine aw_icmp_eq (tgt := 139) eX12_pick_112 (by decide) (by omega) (by omega) (fun h4 => ?_) (fun h4 => ?_)
              · exact D _ (by omega)
              · exfalso; omega
    refine aw_blk oX12_pick_3 (pc' := 9) (ls' := [_, _, _, _, _, _, _, _, _, _]) (st' := [_, _]) (cs := []) rfl trivial ?_
    refine aw_icmp_ge (tgt := 180) eX12_pick_9 (by decide) (by omega) (by omega) (fun h15 => ?_) (fun h15 => ?_)
    · first
      | (exfalso; omega; done)
      | (refine aw_blk oX12_pick_180 (pc' := 181) (ls' := [_, _, _, _, _, _, _, _, _, _]) (st' := [_]) (cs := []) rfl trivial ?_
         refine aw_iret eX12_pick_181 rfl (Nat.le_refl _) (Nat.le_refl _) ?_
         skip)
    · first
      | (exfalso; omega; done)
      | (refine aw_blk oX12_pick_12 (pc' := 27) (ls' := [_, _, _, _, _, _, _, _, _, _]) (st' := [_, _, _]) (cs := [(_, _)]) rfl (⟨⟨by omega, by omega⟩, trivial⟩) ?_
         refine aw_ciS (rest := []) (c_X12_in (by omega) (by omega) (by omega)) kX12_in eX12_pick_27 lX12_pick_27 rfl rfl (Nat.le_of_ble_eq_true rfl) ⟨Nat.le_of_ble_eq_true rfl, Nat.le_of_ble_eq_true rfl⟩ ⟨Nat.le_refl _, Nat.le_refl _⟩ ?_
         refine aw_if_eq (tgt := 39) eX12_pick_30 (by decide) bt_r (fun hh => have h16 := bt0 hh; ?_) (fun hh => have h16 := bt1 hh; ?_)
         · first
           | (exfalso; omega; done)
           | (refine aw_blk oX12_pick_39 (pc' := 43) (ls' := [_, _, _, _, _, _, _, _, _, _]) (st' := [_, _]) (cs := []) rfl trivial ?_
              refine aw_icmp_ne (tgt := 50) eX12_pick_43 (by decide) (by omega) (by omega) (fun h17 => ?_) (fun h17 => ?_)
              · first
                | (exfalso; omega; done)
                | (refine aw_blk oX12_pick_50 (pc' := 54) (ls' := [_, _, _, _, _, _, _, _, _, _]) (st' := [_, _]) (cs := []) rfl trivial ?_
                   refine aw_icmp_ne (tgt := 61) eX12_pick_54 (by decide) (by omega) (by omega) (fun h18 => ?_) (fun h18 => ?_)
                   · first
                     | (exfalso; omega; done)
                     | (refine aw_blk oX12_pick_61 (pc' := 65) (ls' := [_, _, _, _, _, _, _, _, _, _]) (st' := [_, _]) (cs := []) rfl trivial ?_
                        refine aw_icmp_ne (tgt := 72) eX12_pick_65 (by decide) (by omega) (by omega) (fun h19 => ?_) (fun h19 => ?_)
                        · first
                          | (exfalso; omega; done)
                          | (refine aw_blk oX12_pick_72 (pc' := 74) (ls' := [_, _, _, _, _, _, _, _, _, _]) (st' := [_]) (cs := []) rfl trivial ?_
                             refine aw_blk oX12_pick_74 (pc' := 87) (ls' := [_, _, _, _, _, _, _, _, _, _]) (st' := [_, _]) (cs := [(_, _)]) rfl (⟨⟨by omega, by omega⟩, trivial⟩) ?_
                             refine aw_icmp_ne (tgt := 94) eX12_pick_87 (by decide) (by omega) (by omega) (fun h20 => ?_) (fun h20 => ?_)
                             · first
                               | (exfalso; omega; done)
                               | (refine aw_blk oX12_pick_94 (pc' := 95) (ls' := [_, _, _, _, _, _, _, _, _, _]) (st' := [_]) (cs := []) rfl trivial ?_
                                  refine aw_blk oX12_pick_95 (pc' := 103) (ls' := [_, _, _, _, _, _, _, _, _, _]) (st' := []) (cs := []) rfl trivial ?_
                                  exact D103 _ _ _ (by unfold pkF; (repeat' split) <;> omega) (by omega) (by omega))
                             · first
                               | (exfalso; omega; done)
                               | (refine aw_blk oX12_pick_90 (pc' := 95) (ls' := [_, _, _, _, _, _, _, _, _, _]) (st' := [_]) (cs := []) rfl trivial ?_
                                  refine aw_blk oX12_pick_95 (pc' := 103) (ls' := [_, _, _, _, _, _, _, _, _, _]) (st' := []) (cs := []) rfl trivial ?_
                                  exact D103 _ _ _ (by unfold pkF; (repeat' split) <;> omega) (by omega) (by omega)))
                        · first
                          | (exfalso; omega; done)
                          | (refine aw_blk oX12_pick_68 (pc' := 74) (ls' := [_, _, _, _, _, _, _, _, _, _]) (st' := [_]) (cs := []) rfl trivial ?_
                             refine aw_blk oX12_pick_74 (pc' := 87) (ls' := [_, _, _, _, _, _, _, _, _, _]) (st' := [_, _]) (cs := [(_, _)]) rfl (⟨⟨by omega, by omega⟩, trivial⟩) ?_
                             refine aw_icmp_ne (tgt := 94) eX12_pick_87 (by decide) (by omega) (by omega) (fun h21 => ?_) (fun h21 => ?_)
                             · first
                               | (exfalso; omega; done)
                               | (refine aw_blk oX12_pick_94 (pc' := 95) (ls' := [_, _, _, _, _, _, _, _, _, _]) (st' := [_]) (cs := []) rfl trivial ?_
                                  refine aw_blk oX12_pick_95 (pc' := 103) (ls' := [_, _, _, _, _, _, _, _, _, _]) (st' := []) (cs := []) rfl trivial ?_
                                  exact D103 _ _ _ (by unfold pkF; (repeat' split) <;> omega) (by omega) (by omega))
                             · first
                               | (exfalso; omega; done)
                               | (refine aw_blk oX12_pick_90 (pc' := 95) (ls' := [_, _, _, _, _, _, _, _, _, _]) (st' := [_]) (cs := []) rfl trivial ?_
                                  refine aw_blk oX12_pick_95 (pc' := 103) (ls' := [_, _, _, _, _, _, _, _, _, _]) (st' := []) (cs := []) rfl trivial ?_
                                  exact D103 _ _ _ (by unfold pkF; (repeat' split) <;> omega) (by omega) (by omega))))
                   · first
                     | (exfalso; omega; done)
                     | (refine aw_blk oX12_pick_57 (pc' := 74) (ls' := [_, _, _, _, _, _, _, _, _, _]) (st' := [_]) (cs := []) rfl trivial ?_
                        refine aw_blk oX12_pick_74 (pc' := 87) (ls' := [_, _, _, _, _, _, _, _, _, _]) (st' := [_, _]) (cs := [(_, _)]) rfl (⟨⟨by omega, by omega⟩, trivial⟩) ?_
                        refine aw_icmp_ne (tgt := 94) eX12_pick_87 (by decide) (by omega) (by omega) (fun h22 => ?_) (fun h22 => ?_)
                        · first
                          | (exfalso; omega; done)
                          | (refine aw_blk oX12_pick_94 (pc' := 95) (ls' := [_, _, _, _, _, _, _, _, _, _]) (st' := [_]) (cs := []) rfl trivial ?_
                             refine aw_blk oX12_pick_95 (pc' := 103) (ls' := [_, _, _, _, _, _, _, _, _, _]) (st' := []) (cs := []) rfl trivial ?_
                             exact D103 _ _ _ (by unfold pkF; (repeat' split) <;> omega) (by omega) (by omega))
                        · first
                          | (exfalso; omega; done)
                          | (refine aw_blk oX12_pick_90 (pc' := 95) (ls' := [_, _, _, _, _, _, _, _, _, _]) (st' := [_]) (cs := []) rfl trivial ?_
                             refine aw_blk oX12_pick_95 (pc' := 103) (ls' := [_, _, _, _, _, _, _, _, _, _]) (st' := []) (cs := []) rfl trivial ?_
                             exact D103 _ _ _ (by unfold pkF; (repeat' split) <;> omega) (by omega) (by omega))))
              · first
                | (exfalso; omega; done)
                | (refine aw_blk oX12_pick_46 (pc' := 74) (ls' := [_, _, _, _, _, _, _, _, _, _]) (st' := [_]) (cs := []) rfl trivial ?_
                   refine aw_blk oX12_pick_74 (pc' := 87) (ls' := [_, _, _, _, _, _, _, _, _, _]) (st' := [_, _]) (cs := [(_, _)]) rfl (⟨⟨by omega, by omega⟩, trivial⟩) ?_
                   refine aw_icmp_ne (tgt := 94) eX12_pick_87 (by decide) (by omega) (by omega) (fun h23 => ?_) (fun h23 => ?_)
                   · first
                     | (exfalso; omega; done)
                     | (refine aw_blk oX12_pick_94 (pc' := 95) (ls' := [_, _, _, _, _, _, _, _, _, _]) (st' := [_]) (cs := []) rfl trivial ?_
                        refine aw_blk oX12_pick_95 (pc' := 103) (ls' := [_, _, _, _, _, _, _, _, _, _]) (st' := []) (cs := []) rfl trivial ?_
                        exact D103 _ _ _ (by unfold pkF; (repeat' split) <;> omega) (by omega) (by omega))
                   · first
                     | (exfalso; omega; done)
                     | (refine aw_blk oX12_pick_90 (pc' := 95) (ls' := [_, _, _, _, _, _, _, _, _, _]) (st' := [_]) (cs := []) rfl trivial ?_
                        refine aw_blk oX12_pick_95 (pc' := 103) (ls' := [_, _, _, _, _, _, _, _, _, _]) (st' := []) (cs := []) rfl trivial ?_
                        exact D103 _ _ _ (by unfold pkF; (repeat' split) <;> omega) (by omega) (by omega))))
         · first
           | (exfalso; omega; done)
           | (refine aw_blk oX12_pick_33 (pc' := 38) (ls' := [_, _, _, _, _, _, _, _, _, _]) (st' := [_]) (cs := []) rfl trivial ?_
              refine aw_iret eX12_pick_38 rfl (Nat.le_refl _) (Nat.le_refl _) ?_
              skip))
theorem CL.lt {sg : Int → Int} {μ : MM} {i p q : Int} (h : CL sg μ i p q) : p + 6 ≤ q := by
  obtain ⟨d, h1, h2, h3, -⟩ := h
  omega
theorem c_pickM {κ : KX} {μ : MM} {ν : ML} {w l z k : Int} (h : RA μ) (hw : R32 w) (hl : R32 l) (hz : R32 z) (hk : R32 k) : AE κ 1 mX12_pick [aR 55, aI w, aI l, aI z, aI k] μ ν (some (aI (pk μ w l z k (μ 17 6).toNat 0))) μ ν := by
  rcases h with ⟨m, h6, h7⟩ | ⟨c, p, h6, hc, ch, hm, hp, z1, z2, h7⟩
  · refine AMet.of kX12_pick.1 (Nat.le_of_ble_eq_true rfl) rfl ?_
    refine aw_blk oX12_pick_0 (pc' := 3) (ls' := [_, _, _, _, _, _, _, _, _, _]) (st' := []) (cs := []) rfl trivial ?_
    refine aw_blk oX12_pick_3 (pc' := 9) (ls' := [_, _, _, _, _, _, _, _, _, _]) (st' := [_, _]) (cs := []) rfl trivial ?_
    refine aw_icmp_ge (tgt := 180) eX12_pick_9 (by decide) (by omega) (by omega) (fun h1 => ?_) (fun h1 => ?_)
    · refine aw_blk oX12_pick_180 (pc' := 181) (ls' := [_, _, _, _, _, _, _, _, _, _]) (st' := [_]) (cs := []) rfl trivial ?_
      refine aw_iret eX12_pick_181 rfl (Nat.le_refl _) (Nat.le_refl _) ?_
      exact pe_i (by rw [h6]; exact h7.symm) rfl rfl
    · exfalso; omega
  · obtain ⟨pos, e0, e1, e2⟩ := CH.pos c p ch
    have up0 : ∀ i : Nat, i ≤ c → 0 ≤ pos i := by
      intro i
      induction i with
      | zero => intro _; rw [e0]; exact Int.le_refl 0
      | succ i ih =>
        intro hi
        have := (e1 i (by omega)).lt
        have := ih (by omega)
        omega
    have dn : ∀ (n i : Nat), i + n = c → pos i ≤ p := by
      intro n
      induction n with
      | zero => intro i hi; rw [show i = c by omega, e2]; exact Int.le_refl p
      | succ n ih =>
        intro i hi
        have := (e1 i (by omega)).lt
        have := ih (i + 1) (by omega)
        omega
    have T := fun u6 u7 u8 u9 => l_pickM (κ := κ) (ν := ν) hw hl hz hk hm hp z1 z2 h7 e1 (fun i hi => ⟨up0 i hi, dn (c - i) i (by omega)⟩) e2 c 0 u6 u7 u8 u9 (by omega)
    rw [e0] at T
    rw [show (μ 17 6).toNat = c by omega]
    refine AMet.of kX12_pick.1 (Nat.le_of_ble_eq_true rfl) rfl ?_
    refine aw_blk oX12_pick_0 (pc' := 3) (ls' := [_, _, _, _, _, _, _, _, _, _]) (st' := []) (cs := []) rfl trivial ?_
    exact T _ _ _ _
theorem RA.fr {μ μ' : MM} (h : RA μ) (e17 : μ' 17 6 = μ 17 6 ∧ μ' 17 7 = μ 17 7) (e19 : μ' 19 = μ 19) (e20 : μ' 20 = μ 20) (e21 : μ' 21 = μ 21) (e22 : μ' 22 = μ 22) (e62 : μ' 62 = μ 62) (e55 : μ' 55 10 = μ 55 10) : RA μ' := by
  rcases h with ⟨m, h6, h7⟩ | ⟨c, p, h6, hc, ch, hm, hp, z1, z2, h7⟩
  · exact Or.inl ⟨by omega, by omega, by omega⟩
  · refine Or.inr ⟨c, p, by omega, hc, ?_, by omega, hp, by rw [e62]; exact z1, by rw [e62]; exact z2, by rw [e62]; omega⟩
    refine CH.congr c p ch (fun i _ => ⟨by rw [e19], by rw [e20], by rw [e21], by rw [e22]⟩) (fun x _ _ => by rw [e62])

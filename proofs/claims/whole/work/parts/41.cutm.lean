/-! ===== the reference's cut ===== -/
def IQ (l : Int → Int → Int) (key most N B L F : Int) (w : Int → Int) : Prop :=
  (B = 1000000 ∧ L = 1000000 ∧ F = 0 ∧ ∀ a' b' c' d' : Int, okQ key a' b' c' d' → ¬ qN a' b' c' d' < N) ∨
  (okQ key (w 0) (w 1) (w 2) (w 3) ∧ B = qB (w 0) (w 1) (w 2) (w 3) ∧ L = qL l (w 0) (w 1) (w 2) (w 3) ∧ ((F = 1 ∧ B ≤ most) ∨ (F = 0 ∧ most < B)) ∧ qN (w 0) (w 1) (w 2) (w 3) < N ∧
    ∀ a' b' c' d' : Int, okQ key a' b' c' d' → qN a' b' c' d' < N →
      (F = 1 → qB a' b' c' d' ≤ most → L < qL l a' b' c' d' ∨ (L = qL l a' b' c' d' ∧ (B < qB a' b' c' d' ∨ (B = qB a' b' c' d' ∧ qN (w 0) (w 1) (w 2) (w 3) ≤ qN a' b' c' d')))) ∧
      (F = 0 → most < qB a' b' c' d' ∧ (B < qB a' b' c' d' ∨ (B = qB a' b' c' d' ∧ (L < qL l a' b' c' d' ∨ (L = qL l a' b' c' d' ∧ qN (w 0) (w 1) (w 2) (w 3) ≤ qN a' b' c' d'))))))
theorem okQ_bd {key a b c d : Int} (h : okQ key a b c d) : (0 ≤ a ∧ a < 11) ∧ (0 ≤ b ∧ b < 11) ∧ (0 ≤ c ∧ c < 11) ∧ (0 ≤ d ∧ d < 11) := by
  unfold okQ lst at h
  split at h <;> omega
theorem qN_inj {a b c d a' b' c' d' : Int} (h : (0 ≤ a ∧ a < 11) ∧ (0 ≤ b ∧ b < 11) ∧ (0 ≤ c ∧ c < 11) ∧ (0 ≤ d ∧ d < 11)) (h' : (0 ≤ a' ∧ a' < 11) ∧ (0 ≤ b' ∧ b' < 11) ∧ (0 ≤ c' ∧ c' < 11) ∧ (0 ≤ d' ∧ d' < 11)) (e : qN a' b' c' d' = qN a b c d) : a' = a ∧ b' = b ∧ c' = c ∧ d' = d := by
  unfold qN at e
  have e1 : a' = a := by omega
  subst e1
  have e2 : b' = b := by omega
  subst e2
  have e3 : c' = c := by omega
  subst e3
  omega
theorem qB_bd {a b c d : Int} : 4 ≤ qB a b c d ∧ qB a b c d ≤ 80 := by
  have h : ∀ w : Int, 1 ≤ cbt w ∧ cbt w ≤ 20 := fun w => by
    unfold cbt
    (repeat' split) <;> omega
  unfold qB
  have := h a
  have := h b
  have := h c
  have := h d
  omega
def updQ (most B L F qb ql : Int) : Prop := (qb ≤ most ∧ (F = 0 ∨ ql < L ∨ (ql = L ∧ qb < B))) ∨ (most < qb ∧ F = 0 ∧ (qb < B ∨ (qb = B ∧ ql < L)))
theorem IQ.step1 {l : Int → Int → Int} {key most B L F : Int} {w w' : Int → Int} {a b c d : Int} (h : IQ l key most (qN a b c d) B L F w) (hq : okQ key a b c d) (hu : updQ most B L F (qB a b c d) (qL l a b c d)) (e0 : w' 0 = a) (e1 : w' 1 = b) (e2 : w' 2 = c) (e3 : w' 3 = d) : IQ l key most (qN a b c d + 1) (qB a b c d) (qL l a b c d) (if qB a b c d ≤ most then 1 else 0) w' := by
  right
  rw [e0, e1, e2, e3]
  refine ⟨hq, rfl, rfl, ?_, by omega, ?_⟩
  · split <;> omega
  · intro a' b' c' d' hq' hn
    by_cases e : qN a' b' c' d' = qN a b c d
    · obtain ⟨rfl, rfl, rfl, rfl⟩ := qN_inj (okQ_bd hq) (okQ_bd hq') e
      split <;> omega
    · unfold updQ at hu
      rcases h with ⟨-, -, -, h⟩ | ⟨h1, h2, h3, h4, h5, h6⟩
      · exact absurd (show qN a' b' c' d' < qN a b c d by omega) (h a' b' c' d' hq')
      · have := h6 a' b' c' d' hq' (by omega)
        split <;> omega
theorem IQ.step0 {l : Int → Int → Int} {key most B L F : Int} {w : Int → Int} {a b c d : Int} (h : IQ l key most (qN a b c d) B L F w) (hq : okQ key a b c d) (hu : ¬ updQ most B L F (qB a b c d) (qL l a b c d)) : IQ l key most (qN a b c d + 1) B L F w := by
  have hb := qB_bd (a := a) (b := b) (c := c) (d := d)
  unfold updQ at hu
  rcases h with ⟨h1, h2, h3, h4⟩ | ⟨h1, h2, h3, h4, h5, h6⟩
  · exfalso; omega
  · right
    refine ⟨h1, h2, h3, h4, by omega, ?_⟩
    intro a' b' c' d' hq' hn
    by_cases e : qN a' b' c' d' = qN a b c d
    · obtain ⟨rfl, rfl, rfl, rfl⟩ := qN_inj (okQ_bd hq) (okQ_bd hq') e
      omega
    · exact h6 a' b' c' d' hq' (by omega)
theorem IQ.skip {l : Int → Int → Int} {key most N N' B L F : Int} {w : Int → Int} (h : IQ l key most N B L F w) (hN : N ≤ N') (hs : ∀ a' b' c' d' : Int, okQ key a' b' c' d' → qN a' b' c' d' < N' → qN a' b' c' d' < N) : IQ l key most N' B L F w := by
  rcases h with ⟨h1, h2, h3, h4⟩ | ⟨h1, h2, h3, h4, h5, h6⟩
  · exact Or.inl ⟨h1, h2, h3, fun a' b' c' d' hq hn => h4 a' b' c' d' hq (hs _ _ _ _ hq hn)⟩
  · exact Or.inr ⟨h1, h2, h3, h4, by omega, fun a' b' c' d' hq hn => h6 a' b' c' d' hq (hs _ _ _ _ hq hn)⟩
theorem IQ.done {l : Int → Int → Int} {key most B L F : Int} {w : Int → Int} (h : IQ l key most (qN 11 0 0 0) B L F w) (hk : key = 0 ∨ key = 1) : isB l key most (w 0) (w 1) (w 2) (w 3) ∧ B = qB (w 0) (w 1) (w 2) (w 3) ∧ L = qL l (w 0) (w 1) (w 2) (w 3) := by
  obtain ⟨m, M, hm, hM, hlow⟩ : ∃ m M : Int, okQ key m m m m ∧ qB m m m m = M ∧ (lmt key most = if most < M then M else most) ∧ ∀ a b c d : Int, okQ key a b c d → M ≤ qB a b c d := by
    rcases hk with rfl | rfl
    · refine ⟨4, 4, by unfold okQ; decide, by decide, rfl, fun a b c d _ => qB_bd.1⟩
    · refine ⟨9, 20, by unfold okQ; decide, by decide, rfl, fun a b c d h => ?_⟩
      have g : ∀ x : Int, 9 ≤ x ∧ x < 11 → 5 ≤ cbt x := fun x q => by
        rcases (show x = 9 ∨ x = 10 by omega) with rfl | rfl <;> decide
      have e : lst 1 = 9 := rfl
      unfold okQ at h
      rw [e] at h
      have := g a h.1
      have := g b h.2.1
      have := g c h.2.2.1
      have := g d h.2.2.2
      unfold qB
      omega
  have hlt : ∀ a b c d : Int, okQ key a b c d → qN a b c d < qN 11 0 0 0 := fun a b c d q => by
    have := okQ_bd q
    unfold qN
    omega
  rcases h with ⟨-, -, -, h4⟩ | ⟨h1, h2, h3, h4, h5, h6⟩
  · exact absurd (hlt _ _ _ _ hm) (h4 _ _ _ _ hm)
  · refine ⟨⟨h1, ?_, ?_⟩, h2, h3⟩
    · have g := h6 m m m m hm (hlt _ _ _ _ hm)
      have g2 := hlow.2 _ _ _ _ h1
      rw [hlow.1]
      split <;> omega
    · intro a' b' c' d' hq hb
      have g := h6 m m m m hm (hlt _ _ _ _ hm)
      have g2 := hlow.2 _ _ _ _ h1
      have g3 := hlow.2 _ _ _ _ hq
      have g4 := h6 a' b' c' d' hq (hlt _ _ _ _ hq)
      rw [hlow.1] at hb
      split at hb <;> omega
theorem l_openBy {κ : KX} {μ : MM} {ν : ML} {f b k : Int} {u5 : Int} (h3 : ∀ i : Int, 0 ≤ i → i < 160 → 0 ≤ μ 56 i ∧ μ 56 i ≤ 15) (hf : 0 ≤ f ∧ f < 10) (hb : 0 ≤ b ∧ b < 4) (n : Nat) : ∀ j : Nat, j + n = 4 → AX κ mX12_openBy 1 (PE (some (aI (sm (fun j => clip μ 56 16 f (dAt b j)) 4 / 4))) μ ν) 40 [aR 55, aI f, aI b, aI k, aI 9, aI u5, aI (sm (fun j => clip μ 56 16 f (dAt b j)) j), aI j] [] μ ν := by
  induction n with
  | zero =>
    intro j hj
    have e : j = 4 := by omega
    subst e
    have hb := sm_bd (g := fun j => clip μ 56 16 f (dAt b j)) (B := 15) 4 (fun k hk => clip_bd (by decide) (fun d q0 q1 => h3 _ (by omega) (by omega)) _)
    refine aw_blk oX12_openBy_40 (pc' := 43) (ls' := [_, _, _, _, _, _, _, _]) (st' := [_, _]) (cs := []) rfl trivial ?_
    refine aw_icmp_ge (tgt := 73) eX12_openBy_43 (by decide) (by omega) (by omega) (fun h1 => ?_) (fun h1 => ?_)
    · refine aw_blk oX12_openBy_73 (pc' := 77) (ls' := [_, _, _, _, _, _, _, _]) (st' := [_]) (cs := [(_, _)]) rfl (⟨⟨by omega, by omega⟩, trivial⟩) ?_
      refine aw_iret eX12_openBy_77 rfl (Nat.le_refl _) (Nat.le_refl _) ?_
      exact pe_i (bDiv_nn (by omega) (by omega)) rfl rfl
    · exfalso; omega
  | succ n ih =>
    intro j hj
    have hd := (sv b j hb (by omega)).2
    have T := ih (j + 1) (by omega)
    simp only [sm_succ (n := j)] at T
    have ed : clip μ 56 16 f (dAt b j) = μ 56 (16 * f + dAt b j) := clip_in hd.1 hd.2
    refine aw_blk oX12_openBy_40 (pc' := 43) (ls' := [_, _, _, _, _, _, _, _]) (st' := [_, _]) (cs := []) rfl trivial ?_
    refine aw_icmp_ge (tgt := 73) eX12_openBy_43 (by decide) (by omega) (by omega) (fun h1 => ?_) (fun h1 => ?_)
    · exfalso; omega
    · refine aw_blk oX12_openBy_46 (pc' := 59) (ls' := [_, _, _, _, _, _, _, _]) (st' := [_, _, _, _, _]) (cs := []) rfl trivial ?_
      refine aw_ciS (rest := [_, _, _]) (c_dotAt hb (by omega)) kX12_dotAt eX12_openBy_59 lX12_openBy_59 rfl rfl (Nat.le_of_ble_eq_true rfl) ⟨Nat.le_of_ble_eq_true rfl, Nat.le_of_ble_eq_true rfl⟩ ⟨Nat.le_refl _, Nat.le_refl _⟩ ?_
      refine aw_blk oX12_openBy_62 (pc' := 40) (ls' := [_, _, _, _, _, _, _, _]) (st' := []) (cs := [(_, _)]) rfl (⟨⟨by omega, by omega⟩, trivial⟩) ?_
      rw [← ed]
      exact T
theorem c_openBy {κ : KX} {μ : MM} {ν : ML} {f b k w : Int} (h3 : ∀ i : Int, 0 ≤ i → i < 160 → 0 ≤ μ 56 i ∧ μ 56 i ≤ 15) (hf : 0 ≤ f ∧ f < 10) (hb : 0 ≤ b ∧ b < 4) (hk : 0 ≤ k ∧ k < 4) (hw : 0 ≤ w ∧ w < 11) (hfw : f = 0 → 9 ≤ w) : AE κ 1 mX12_openBy [aR 55, aI f, aI b, aI k, aI w] μ ν (some (aI (ob (clip μ 56 16 f) (clip μ 77 16 (f - 1)) b k w))) μ ν := by
  have hd := (sv b k hb hk).2
  refine AMet.of kX12_openBy.1 (Nat.le_of_ble_eq_true rfl) rfl ?_
  refine aw_blk oX12_openBy_0 (pc' := 2) (ls' := [_, _, _, _, _, _, _, _]) (st' := [_, _]) (cs := []) rfl trivial ?_
  refine aw_ciS (rest := []) (c_dotAt hb hk) kX12_dotAt eX12_openBy_2 lX12_openBy_2 rfl rfl (Nat.le_of_ble_eq_true rfl) ⟨Nat.le_of_ble_eq_true rfl, Nat.le_of_ble_eq_true rfl⟩ ⟨Nat.le_refl _, Nat.le_refl _⟩ ?_
  refine aw_blk oX12_openBy_5 (pc' := 11) (ls' := [_, _, _, _, _, _, _, _]) (st' := [_, _]) (cs := []) rfl trivial ?_
  refine aw_icmp_ne (tgt := 27) eX12_openBy_11 (by decide) (by omega) (by omega) (fun h1 => ?_) (fun h1 => ?_)
  · refine aw_blk oX12_openBy_27 (pc' := 31) (ls' := [_, _, _, _, _, _, _, _]) (st' := [_, _]) (cs := []) rfl trivial ?_
    refine aw_icmp_ne (tgt := 78) eX12_openBy_31 (by decide) (by omega) (by omega) (fun h2 => ?_) (fun h2 => ?_)
    · have g1 := hld_bd (dAt b k / 4 + w / 3 - 1)
      have g2 := hld_bd (dAt b k % 4 + w % 3 - 1)
      have e : ob (clip μ 56 16 f) (clip μ 77 16 (f - 1)) b k w = μ 77 (16 * (f - 1) + 4 * hld (dAt b k / 4 + w / 3 - 1) + hld (dAt b k % 4 + w % 3 - 1)) := by
        unfold ob
        rw [if_neg h1, if_neg h2, clip_in (by omega) (by omega)]
        congr 1
        omega
      rw [e]
      refine aw_blk oX12_openBy_78 (pc' := 89) (ls' := [_, _, _, _, _, _, _, _]) (st' := [_]) (cs := [(_, _), (_, _)]) rfl (⟨⟨by omega, by omega⟩, ⟨by omega, by omega⟩, trivial⟩) ?_
      rw [bRem_nn (by omega) (by omega), bRem_nn (by omega) (by omega)]
      refine aw_ciS (rest := []) (c_held (by omega)) kX12_held eX12_openBy_89 lX12_openBy_89 rfl rfl (Nat.le_of_ble_eq_true rfl) ⟨Nat.le_of_ble_eq_true rfl, Nat.le_of_ble_eq_true rfl⟩ ⟨Nat.le_refl _, Nat.le_refl _⟩ ?_
      refine aw_blk oX12_openBy_92 (pc' := 105) (ls' := [_, _, _, _, _, _, _, _]) (st' := [_]) (cs := [(_, _), (_, _)]) rfl (⟨⟨by omega, by omega⟩, ⟨by omega, by omega⟩, trivial⟩) ?_
      rw [bDiv_nn (by omega) (by omega), bDiv_nn (by omega) (by omega)]
      refine aw_ciS (rest := []) (c_held (by omega)) kX12_held eX12_openBy_105 lX12_openBy_105 rfl rfl (Nat.le_of_ble_eq_true rfl) ⟨Nat.le_of_ble_eq_true rfl, Nat.le_of_ble_eq_true rfl⟩ ⟨Nat.le_refl _, Nat.le_refl _⟩ ?_
      refine aw_blk oX12_openBy_108 (pc' := 129) (ls' := [_, _, _, _, _, _, _, _]) (st' := [_]) (cs := [(_, _)]) rfl (⟨⟨by omega, by omega⟩, trivial⟩) ?_
      refine aw_iret eX12_openBy_129 rfl (Nat.le_refl _) (Nat.le_refl _) ?_
      exact pe_i rfl rfl rfl
    · have w9 : w = 9 := by omega
      subst w9
      have T := l_openBy (κ := κ) (μ := μ) (ν := ν) (f := f) (b := b) (k := k) (u5 := dAt b k) h3 hf hb 4 0 (by omega)
      rw [sm4] at T
      refine aw_blk oX12_openBy_34 (pc' := 40) (ls' := [_, _, _, _, _, _, _, _]) (st' := []) (cs := []) rfl trivial ?_
      exact T
  · have w10 : w = 10 := by omega
    subst w10
    refine aw_blk oX12_openBy_14 (pc' := 26) (ls' := [_, _, _, _, _, _, _, _]) (st' := [_]) (cs := [(_, _)]) rfl (⟨⟨by omega, by omega⟩, trivial⟩) ?_
    refine aw_iret eX12_openBy_26 rfl (Nat.le_refl _) (Nat.le_refl _) ?_
    refine pe_i ?_ rfl rfl
    show _ = clip μ 56 16 f (dAt b k)
    rw [clip_in hd.1 hd.2]

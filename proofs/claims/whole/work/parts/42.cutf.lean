/-! ===== the reference's cut of one frame ===== -/
/-- the losses are filled -/
def LF (μ : MM) (l : Int → Int → Int) (key : Int) (b w : Int) : Prop := ∀ b' w' : Int, 0 ≤ b' → lst key ≤ w' → w' < 11 → b' < 4 → (b' < b ∨ (b' = b ∧ w' < w)) → μ 80 (11 * b' + w') = l b' w'
theorem l_lossK {κ : KX} {μ : MM} {ν : ML} {P : Option AV → List SH → MM → ML → Prop} {f ls b w : Int} {u8 u9 u10 u11 u12 u13 u14 : AV} (h3 : ∀ i : Int, 0 ≤ i → i < 160 → 0 ≤ μ 56 i ∧ μ 56 i ≤ 15) (hf : 0 ≤ f ∧ f < 10) (hb : 0 ≤ b ∧ b < 4) (hw : 0 ≤ w ∧ w < 11) (hfw : f = 0 → 9 ≤ w) (K : ∀ u7 : AV, AX κ mX12_cutFrame 2 P 90 [aR 55, aI f, aI ls, aI b, aI w, aI (lss (clip μ 56 16 f) (clip μ 77 16 (f - 1)) b w), aI 4, u7, u8, u9, u10, u11, u12, u13, u14] [] μ ν) (n : Nat) : ∀ (j : Nat) (u7 : AV), j + n = 4 → AX κ mX12_cutFrame 2 P 39 [aR 55, aI f, aI ls, aI b, aI w, aI (sm (fun k => sqd (clip μ 56 16 f) (clip μ 77 16 (f - 1)) b k w) j), aI j, u7, u8, u9, u10, u11, u12, u13, u14] [] μ ν := by
  induction n with
  | zero =>
    intro j u7 hj
    have e : j = 4 := by omega
    subst e
    refine aw_blk oX12_cutFrame_39 (pc' := 42) (ls' := [_, _, _, _, _, _, _, _, _, _, _, _, _, _, _]) (st' := [_, _]) (cs := []) rfl trivial ?_
    refine aw_icmp_ge (tgt := 90) eX12_cutFrame_42 (by decide) (by omega) (by omega) (fun h1 => ?_) (fun h1 => ?_)
    · have := K u7
      unfold lss at this
      rw [sm4]
      exact this
    · exfalso; omega
  | succ n ih =>
    intro j u7 hj
    have hd := (sv b j hb (by omega)).2
    have T := fun u7 => ih (j + 1) u7 (by omega)
    simp only [sm_succ (n := j)] at T
    have ed : clip μ 56 16 f (dAt b j) = μ 56 (16 * f + dAt b j) := clip_in hd.1 hd.2
    refine aw_blk oX12_cutFrame_39 (pc' := 42) (ls' := [_, _, _, _, _, _, _, _, _, _, _, _, _, _, _]) (st' := [_, _]) (cs := []) rfl trivial ?_
    refine aw_icmp_ge (tgt := 90) eX12_cutFrame_42 (by decide) (by omega) (by omega) (fun h1 => ?_) (fun h1 => ?_)
    · exfalso; omega
    · refine aw_blk oX12_cutFrame_45 (pc' := 52) (ls' := [_, _, _, _, _, _, _, _, _, _, _, _, _, _, _]) (st' := [_, _, _, _, _]) (cs := []) rfl trivial ?_
      refine aw_ciV (rest := []) (c_openBy h3 hf hb (by omega) hw hfw) kX12_openBy eX12_cutFrame_52 lX12_cutFrame_52 rfl rfl rfl rfl (Nat.le_of_ble_eq_true rfl) ⟨Nat.le_of_ble_eq_true rfl, Nat.le_of_ble_eq_true rfl⟩ ⟨Nat.le_refl _, Nat.le_refl _⟩ ?_
      refine aw_blk oX12_cutFrame_55 (pc' := 66) (ls' := [_, _, _, _, _, _, _, _, _, _, _, _, _, _, _]) (st' := [_, _, _, _, _]) (cs := []) rfl trivial ?_
      refine aw_ciS (rest := [_, _, _]) (c_dotAt hb (by omega)) kX12_dotAt eX12_cutFrame_66 lX12_cutFrame_66 rfl rfl (Nat.le_of_ble_eq_true rfl) ⟨Nat.le_of_ble_eq_true rfl, Nat.le_of_ble_eq_true rfl⟩ ⟨Nat.le_refl _, Nat.le_refl _⟩ ?_
      refine aw_blk oX12_cutFrame_69 (pc' := 39) (ls' := [_, _, _, _, _, _, _, _, _, _, _, _, _, _, _]) (st' := []) (cs := [(_, _)]) rfl (⟨⟨by omega, by omega⟩, trivial⟩) ?_
      rw [← ed]
      exact T _
theorem l_lossW {κ : KX} {μ0 : MM} {ν : ML} {P : Option AV → List SH → MM → ML → Prop} {f key b : Int} (h3 : ∀ i : Int, 0 ≤ i → i < 160 → 0 ≤ μ0 56 i ∧ μ0 56 i ≤ 15) (hf : 0 ≤ f ∧ f < 10) (hb : 0 ≤ b ∧ b < 4) (hk : key = 0 ∨ key = 1) (hfk : f = 0 → key = 1) (K : ∀ (μ : MM) (u4 u5 u6 u7 u8 u9 u10 u11 u12 u13 u14 : AV), SR [80] μ0 μ → LF μ (lss (clip μ0 56 16 f) (clip μ0 77 16 (f - 1))) key (b + 1) 0 → AX κ mX12_cutFrame 2 P 110 [aR 55, aI f, aI (lst key), aI b, u4, u5, u6, u7, u8, u9, u10, u11, u12, u13, u14] [] μ ν) (n : Nat) : ∀ (w : Int) (μ : MM) (u5 u6 u7 u8 u9 u10 u11 u12 u13 u14 : AV), lst key ≤ w → w + n = 11 → SR [80] μ0 μ → LF μ (lss (clip μ0 56 16 f) (clip μ0 77 16 (f - 1))) key b w → AX κ mX12_cutFrame 2 P 26 [aR 55, aI f, aI (lst key), aI b, aI w, u5, u6, u7, u8, u9, u10, u11, u12, u13, u14] [] μ ν := by
  have lk : lst key = 0 ∨ (lst key = 9 ∧ key = 1) := by
    rcases hk with rfl | rfl
    · exact Or.inl rfl
    · exact Or.inr ⟨rfl, rfl⟩
  have lk2 : key = 1 → lst key = 9 := fun e => by rw [e]; rfl
  induction n with
  | zero =>
    intro w μ u5 u6 u7 u8 u9 u10 u11 u12 u13 u14 h0 hn hS hL
    refine aw_blk oX12_cutFrame_26 (pc' := 30) (ls' := [_, _, _, _, _, _, _, _, _, _, _, _, _, _, _]) (st' := [_, _]) (cs := []) rfl trivial ?_
    refine aw_icmp_ge (tgt := 110) eX12_cutFrame_30 (by decide) (by omega) (by omega) (fun h1 => ?_) (fun h1 => ?_)
    · refine K μ _ _ _ _ _ _ _ _ _ _ _ hS (fun b' w' q0 q1 q2 q3 q4 => hL b' w' q0 q1 q2 q3 (by omega))
    · exfalso; omega
  | succ n ih =>
    intro w μ u5 u6 u7 u8 u9 u10 u11 u12 u13 u14 h0 hn hS hL
    have e56 : μ 56 = μ0 56 := hS 56 (by decide)
    have e77 : μ 77 = μ0 77 := hS 77 (by decide)
    have c56 : clip μ 56 16 f = clip μ0 56 16 f := clip_congr (fun _ _ _ => by rw [e56])
    have c77 : clip μ 77 16 (f - 1) = clip μ0 77 16 (f - 1) := clip_congr (fun _ _ _ => by rw [e77])
    refine aw_blk oX12_cutFrame_26 (pc' := 30) (ls' := [_, _, _, _, _, _, _, _, _, _, _, _, _, _, _]) (st' := [_, _]) (cs := []) rfl trivial ?_
    refine aw_icmp_ge (tgt := 110) eX12_cutFrame_30 (by decide) (by omega) (by omega) (fun h1 => ?_) (fun h1 => ?_)
    · exfalso; omega
    · refine aw_blk oX12_cutFrame_33 (pc' := 39) (ls' := [_, _, _, _, _, _, _, _, _, _, _, _, _, _, _]) (st' := []) (cs := []) rfl trivial ?_
      refine l_lossK (w := w) (by rw [e56]; exact h3) hf hb (by omega) (fun e => by have := lk2 (hfk e); omega) (fun u7 => ?_) 4 0 _ (by omega)
      rw [c56, c77]
      refine aw_blk oX12_cutFrame_90 (pc' := 26) (ls' := [_, _, _, _, _, _, _, _, _, _, _, _, _, _, _]) (st' := []) (cs := [(_, _)]) rfl (⟨⟨by omega, by omega⟩, trivial⟩) ?_
      refine ih (w + 1) _ _ _ _ _ _ _ _ _ _ _ (by omega) (by omega) (hS.put (by decide)) ?_
      intro b' w' q0 q1 q2 q3 q4
      by_cases e : b' = b ∧ w' = w
      · rw [e.1, e.2, up_at]
      · rw [up_ne (Or.inr (by omega))]
        exact hL b' w' q0 q1 q2 q3 (by omega)
theorem l_lossB {κ : KX} {μ0 : MM} {ν : ML} {P : Option AV → List SH → MM → ML → Prop} {f key : Int} (h3 : ∀ i : Int, 0 ≤ i → i < 160 → 0 ≤ μ0 56 i ∧ μ0 56 i ≤ 15) (hf : 0 ≤ f ∧ f < 10) (hk : key = 0 ∨ key = 1) (hfk : f = 0 → key = 1) (K : ∀ (μ : MM) (u3 u4 u5 u6 u7 u8 u9 u10 u11 u12 u13 u14 : AV), SR [80] μ0 μ → LF μ (lss (clip μ0 56 16 f) (clip μ0 77 16 (f - 1))) key 4 0 → AX κ mX12_cutFrame 2 P 116 [aR 55, aI f, aI (lst key), u3, u4, u5, u6, u7, u8, u9, u10, u11, u12, u13, u14] [] μ ν) (n : Nat) : ∀ (b : Int) (μ : MM) (u4 u5 u6 u7 u8 u9 u10 u11 u12 u13 u14 : AV), 0 ≤ b → b + n = 4 → SR [80] μ0 μ → LF μ (lss (clip μ0 56 16 f) (clip μ0 77 16 (f - 1))) key b 0 → AX κ mX12_cutFrame 2 P 18 [aR 55, aI f, aI (lst key), aI b, u4, u5, u6, u7, u8, u9, u10, u11, u12, u13, u14] [] μ ν := by
  have lk : lst key = 0 ∨ lst key = 9 := by
    rcases hk with rfl | rfl
    · exact Or.inl rfl
    · exact Or.inr rfl
  induction n with
  | zero =>
    intro b μ u4 u5 u6 u7 u8 u9 u10 u11 u12 u13 u14 h0 hn hS hL
    refine aw_blk oX12_cutFrame_18 (pc' := 20) (ls' := [_, _, _, _, _, _, _, _, _, _, _, _, _, _, _]) (st' := [_, _]) (cs := []) rfl trivial ?_
    refine aw_icmp_ge (tgt := 116) eX12_cutFrame_20 (by decide) (by omega) (by omega) (fun h1 => ?_) (fun h1 => ?_)
    · rw [show b = 4 by omega] at hL
      exact K μ _ _ _ _ _ _ _ _ _ _ _ _ hS hL
    · exfalso; omega
  | succ n ih =>
    intro b μ u4 u5 u6 u7 u8 u9 u10 u11 u12 u13 u14 h0 hn hS hL
    refine aw_blk oX12_cutFrame_18 (pc' := 20) (ls' := [_, _, _, _, _, _, _, _, _, _, _, _, _, _, _]) (st' := [_, _]) (cs := []) rfl trivial ?_
    refine aw_icmp_ge (tgt := 116) eX12_cutFrame_20 (by decide) (by omega) (by omega) (fun h1 => ?_) (fun h1 => ?_)
    · exfalso; omega
    · refine aw_blk oX12_cutFrame_23 (pc' := 26) (ls' := [_, _, _, _, _, _, _, _, _, _, _, _, _, _, _]) (st' := []) (cs := []) rfl trivial ?_
      refine l_lossW h3 hf (by omega) hk hfk (fun μ' u4 u5 u6 u7 u8 u9 u10 u11 u12 u13 u14 hS' hL' => ?_) (11 - lst key).toNat (lst key) μ _ _ _ _ _ _ _ _ _ _ (by omega) (by omega) hS (fun b' w' q0 q1 q2 q3 q4 => hL b' w' q0 q1 q2 q3 (by omega))
      refine aw_blk oX12_cutFrame_110 (pc' := 18) (ls' := [_, _, _, _, _, _, _, _, _, _, _, _, _, _, _]) (st' := []) (cs := []) rfl trivial ?_
      exact ih (b + 1) μ' _ _ _ _ _ _ _ _ _ _ _ (by omega) (by omega) hS' hL'
/-- the memory while the ways are tried -/
def QM (μ0 μ : MM) (f : Int) : Prop := SR [76] μ0 μ ∧ ∀ x : Int, (x < 4 * f ∨ 4 * f + 4 ≤ x) → μ 76 x = μ0 76 x
theorem s_body {κ : KX} {μ : MM} {ν : ML} {P : Option AV → List SH → MM → ML → Prop} {l : Int → Int → Int} {f ls key most B L F a b c d : Int} {u10 u11 u12 u13 u14 : AV} (hf : 0 ≤ f ∧ f < 10) (hm : μ 58 0 = most ∧ R32 most) (hL : LF μ l key 4 0) (hl : ∀ x y : Int, 0 ≤ l x y ∧ l x y ≤ 900) (hq : okQ key a b c d) (hB : R32 B) (hLL : R32 L) (hF : F = 0 ∨ F = 1)
    (K1 : ∀ u10 u11 u12 u13 u14 : AV, updQ most B L F (qB a b c d) (qL l a b c d) → AX κ mX12_cutFrame 2 P 389 [aR 55, aI f, aI ls, aI (qB a b c d), aI (qL l a b c d), aI (if qB a b c d ≤ most then 1 else 0), aI a, aI b, aI c, aI d, u10, u11, u12, u13, u14] [] (up (up (up (up μ 76 (4 * f) a) 76 (4 * f + 1) b) 76 (4 * f + 2) c) 76 (4 * f + 3) d) ν)
    (K0 : ∀ u10 u11 u12 u13 u14 : AV, ¬ updQ most B L F (qB a b c d) (qL l a b c d) → AX κ mX12_cutFrame 2 P 389 [aR 55, aI f, aI ls, aI B, aI L, aI F, aI a, aI b, aI c, aI d, u10, u11, u12, u13, u14] [] μ ν) : AX κ mX12_cutFrame 2 P 166 [aR 55, aI f, aI ls, aI B, aI L, aI F, aI a, aI b, aI c, aI d, u10, u11, u12, u13, u14] [] μ ν := by
  have hbd := okQ_bd hq
  have hqb := qB_bd (a := a) (b := b) (c := c) (d := d)
  have l0 : μ 80 a = l 0 a := by
    have := hL 0 a (by omega) hq.1.1 hq.1.2 (by omega) (by omega)
    rw [show 11 * 0 + a = a by omega] at this; exact this
  have l1 : μ 80 (11 + b) = l 1 b := by
    have := hL 1 b (by omega) hq.2.1.1 hq.2.1.2 (by omega) (by omega)
    rw [show 11 * 1 + b = 11 + b by omega] at this; exact this
  have l2 : μ 80 (22 + c) = l 2 c := by
    have := hL 2 c (by omega) hq.2.2.1.1 hq.2.2.1.2 (by omega) (by omega)
    rw [show 11 * 2 + c = 22 + c by omega] at this; exact this
  have l3 : μ 80 (33 + d) = l 3 d := by
    have := hL 3 d (by omega) hq.2.2.2.1 hq.2.2.2.2 (by omega) (by omega)
    rw [show 11 * 3 + d = 33 + d by omega] at this; exact this
  have hql : 0 ≤ qL l a b c d ∧ qL l a b c d ≤ 3600 := by
    unfold qL
    have := hl 0 a
    have := hl 1 b
    have := hl 2 c
    have := hl 3 d
    omega
  have eL : μ 80 a + μ 80 (11 + b) + μ 80 (22 + c) + μ 80 (33 + d) = qL l a b c d := by rw [l0, l1, l2, l3]; rfl
  have eB : cbt a + cbt b + cbt c + cbt d = qB a b c d := rfl
  generalize hqB : qB a b c d = qb at *
  generalize hqL : qL l a b c d = ql at *
  have E302 : ∀ (z12 z13 z14 : Int) (u14 : AV), ((z12 = 1 ∧ qb ≤ most) ∨ (z12 = 0 ∧ most < qb)) → ((z13 = 1 ∧ (ql < L ∨ (ql = L ∧ qb < B))) ∨ (z13 = 0 ∧ ¬ (ql < L ∨ (ql = L ∧ qb < B)))) → ((z14 = 1 ∧ (qb < B ∨ (qb = B ∧ ql < L))) ∨ (z14 = 0 ∧ ¬ (qb < B ∨ (qb = B ∧ ql < L)))) → AX κ mX12_cutFrame 2 P 302 [aR 55, aI f, aI ls, aI B, aI L, aI F, aI a, aI b, aI c, aI d, aI qb, aI ql, aI z12, aI z13, u14] [aI z14] μ ν := fun z12 z13 z14 u14 q12 q13 q14 => by
    have U : updQ most B L F qb ql → AX κ mX12_cutFrame 2 P 332 [aR 55, aI f, aI ls, aI B, aI L, aI F, aI a, aI b, aI c, aI d, aI qb, aI ql, aI z12, aI z13, aI z14] [] μ ν := fun hu => by
      have e : z12 = if qb ≤ most then 1 else 0 := by split <;> omega
      have K := K1 (aI qb) (aI ql) (aI z12) (aI z13) (aI z14) hu
      rw [← e] at K
      refine aw_blk oX12_cutFrame_332 (pc' := 389) (ls' := [_, _, _, _, _, _, _, _, _, _, _, _, _, _, _]) (st' := []) (cs := [(_, _), (_, _), (_, _), (_, _)]) rfl (⟨⟨by omega, by omega⟩, ⟨by omega, by omega⟩, ⟨by omega, by omega⟩, ⟨by omega, by omega⟩, trivial⟩) ?_
      exact K
    have N : ¬ updQ most B L F qb ql → AX κ mX12_cutFrame 2 P 389 [aR 55, aI f, aI ls, aI B, aI L, aI F, aI a, aI b, aI c, aI d, aI qb, aI ql, aI z12, aI z13, aI z14] [] μ ν := fun hu => K0 _ _ _ _ _ hu
    unfold updQ at U N
    refine aw_blk oX12_cutFrame_302 (pc' := 306) (ls' := [_, _, _, _, _, _, _, _, _, _, _, _, _, _, _]) (st' := [_]) (cs := []) rfl trivial ?_
    refine aw_if_eq (tgt := 322) eX12_cutFrame_306 (by decide) (by omega) (fun h1 => ?_) (fun h1 => ?_)
    · first
      | (exfalso; omega; done)
      | (refine aw_blk oX12_cutFrame_322 (pc' := 324) (ls' := [_, _, _, _, _, _, _, _, _, _, _, _, _, _, _]) (st' := [_]) (cs := []) rfl trivial ?_
         refine aw_if_ne (tgt := 389) eX12_cutFrame_324 (by decide) (by omega) (fun h2 => ?_) (fun h2 => ?_)
         · first
           | (exfalso; omega; done)
           | (exact N (by omega))
         · first
           | (exfalso; omega; done)
           | (refine aw_blk oX12_cutFrame_327 (pc' := 329) (ls' := [_, _, _, _, _, _, _, _, _, _, _, _, _, _, _]) (st' := [_]) (cs := []) rfl trivial ?_
              refine aw_if_eq (tgt := 389) eX12_cutFrame_329 (by decide) (by omega) (fun h3 => ?_) (fun h3 => ?_)
              · first
                | (exfalso; omega; done)
                | (exact N (by omega))
              · first
                | (exfalso; omega; done)
                | (exact U (by omega))))
    · first
      | (exfalso; omega; done)
      | (refine aw_blk oX12_cutFrame_309 (pc' := 311) (ls' := [_, _, _, _, _, _, _, _, _, _, _, _, _, _, _]) (st' := [_]) (cs := []) rfl trivial ?_
         refine aw_if_eq (tgt := 332) eX12_cutFrame_311 (by decide) (by omega) (fun h4 => ?_) (fun h4 => ?_)
         · first
           | (exfalso; omega; done)
           | (exact U (by omega))
         · first
           | (exfalso; omega; done)
           | (refine aw_blk oX12_cutFrame_314 (pc' := 316) (ls' := [_, _, _, _, _, _, _, _, _, _, _, _, _, _, _]) (st' := [_]) (cs := []) rfl trivial ?_
              refine aw_if_eq (tgt := 389) eX12_cutFrame_316 (by decide) (by omega) (fun h5 => ?_) (fun h5 => ?_)
              · first
                | (exfalso; omega; done)
                | (exact N (by omega))
              · first
                | (exfalso; omega; done)
                | (refine aw_blk oX12_cutFrame_319 (pc' := 332) (ls' := [_, _, _, _, _, _, _, _, _, _, _, _, _, _, _]) (st' := []) (cs := []) rfl trivial ?_
                   exact U (by omega))))
  have E276 : ∀ (z12 z13 : Int) (u13 u14 : AV), ((z12 = 1 ∧ qb ≤ most) ∨ (z12 = 0 ∧ most < qb)) → ((z13 = 1 ∧ (ql < L ∨ (ql = L ∧ qb < B))) ∨ (z13 = 0 ∧ ¬ (ql < L ∨ (ql = L ∧ qb < B)))) → AX κ mX12_cutFrame 2 P 276 [aR 55, aI f, aI ls, aI B, aI L, aI F, aI a, aI b, aI c, aI d, aI qb, aI ql, aI z12, u13, u14] [aI z13] μ ν := fun z12 z13 u13 u14 q12 q13 => by
    refine aw_blk oX12_cutFrame_276 (pc' := 281) (ls' := [_, _, _, _, _, _, _, _, _, _, _, _, _, _, _]) (st' := [_, _]) (cs := []) rfl trivial ?_
    refine aw_icmp_lt (tgt := 297) eX12_cutFrame_281 (by decide) (by omega) (by omega) (fun h6 => ?_) (fun h6 => ?_)
    · first
      | (exfalso; omega; done)
      | (refine aw_blk oX12_cutFrame_297 (pc' := 302) (ls' := [_, _, _, _, _, _, _, _, _, _, _, _, _, _, _]) (st' := [_]) (cs := []) rfl trivial ?_
         exact E302 _ _ _ _ q12 q13 (by omega))
    · first
      | (exfalso; omega; done)
      | (refine aw_blk oX12_cutFrame_284 (pc' := 287) (ls' := [_, _, _, _, _, _, _, _, _, _, _, _, _, _, _]) (st' := [_, _]) (cs := []) rfl trivial ?_
         refine aw_icmp_ne (tgt := 301) eX12_cutFrame_287 (by decide) (by omega) (by omega) (fun h7 => ?_) (fun h7 => ?_)
         · first
           | (exfalso; omega; done)
           | (refine aw_blk oX12_cutFrame_301 (pc' := 302) (ls' := [_, _, _, _, _, _, _, _, _, _, _, _, _, _, _]) (st' := [_]) (cs := []) rfl trivial ?_
              exact E302 _ _ _ _ q12 q13 (by omega))
         · first
           | (exfalso; omega; done)
           | (refine aw_blk oX12_cutFrame_290 (pc' := 294) (ls' := [_, _, _, _, _, _, _, _, _, _, _, _, _, _, _]) (st' := [_, _]) (cs := []) rfl trivial ?_
              refine aw_icmp_ge (tgt := 301) eX12_cutFrame_294 (by decide) (by omega) (by omega) (fun h8 => ?_) (fun h8 => ?_)
              · first
                | (exfalso; omega; done)
                | (refine aw_blk oX12_cutFrame_301 (pc' := 302) (ls' := [_, _, _, _, _, _, _, _, _, _, _, _, _, _, _]) (st' := [_]) (cs := []) rfl trivial ?_
                   exact E302 _ _ _ _ q12 q13 (by omega))
              · first
                | (exfalso; omega; done)
                | (refine aw_blk oX12_cutFrame_297 (pc' := 302) (ls' := [_, _, _, _, _, _, _, _, _, _, _, _, _, _, _]) (st' := [_]) (cs := []) rfl trivial ?_
                   exact E302 _ _ _ _ q12 q13 (by omega))))
  have E249 : ∀ (z12 : Int) (u12 u13 u14 : AV), ((z12 = 1 ∧ qb ≤ most) ∨ (z12 = 0 ∧ most < qb)) → AX κ mX12_cutFrame 2 P 249 [aR 55, aI f, aI ls, aI B, aI L, aI F, aI a, aI b, aI c, aI d, aI qb, aI ql, u12, u13, u14] [aI z12] μ ν := fun z12 u12 u13 u14 q12 => by
    refine aw_blk oX12_cutFrame_249 (pc' := 255) (ls' := [_, _, _, _, _, _, _, _, _, _, _, _, _, _, _]) (st' := [_, _]) (cs := []) rfl trivial ?_
    refine aw_icmp_lt (tgt := 271) eX12_cutFrame_255 (by decide) (by omega) (by omega) (fun h9 => ?_) (fun h9 => ?_)
    · first
      | (exfalso; omega; done)
      | (refine aw_blk oX12_cutFrame_271 (pc' := 276) (ls' := [_, _, _, _, _, _, _, _, _, _, _, _, _, _, _]) (st' := [_]) (cs := []) rfl trivial ?_
         exact E276 _ _ _ _ q12 (by omega))
    · first
      | (exfalso; omega; done)
      | (refine aw_blk oX12_cutFrame_258 (pc' := 262) (ls' := [_, _, _, _, _, _, _, _, _, _, _, _, _, _, _]) (st' := [_, _]) (cs := []) rfl trivial ?_
         refine aw_icmp_ne (tgt := 275) eX12_cutFrame_262 (by decide) (by omega) (by omega) (fun h10 => ?_) (fun h10 => ?_)
         · first
           | (exfalso; omega; done)
           | (refine aw_blk oX12_cutFrame_275 (pc' := 276) (ls' := [_, _, _, _, _, _, _, _, _, _, _, _, _, _, _]) (st' := [_]) (cs := []) rfl trivial ?_
              exact E276 _ _ _ _ q12 (by omega))
         · first
           | (exfalso; omega; done)
           | (refine aw_blk oX12_cutFrame_265 (pc' := 268) (ls' := [_, _, _, _, _, _, _, _, _, _, _, _, _, _, _]) (st' := [_, _]) (cs := []) rfl trivial ?_
              refine aw_icmp_ge (tgt := 275) eX12_cutFrame_268 (by decide) (by omega) (by omega) (fun h11 => ?_) (fun h11 => ?_)
              · first
                | (exfalso; omega; done)
                | (refine aw_blk oX12_cutFrame_275 (pc' := 276) (ls' := [_, _, _, _, _, _, _, _, _, _, _, _, _, _, _]) (st' := [_]) (cs := []) rfl trivial ?_
                   exact E276 _ _ _ _ q12 (by omega))
              · first
                | (exfalso; omega; done)
                | (refine aw_blk oX12_cutFrame_271 (pc' := 276) (ls' := [_, _, _, _, _, _, _, _, _, _, _, _, _, _, _]) (st' := [_]) (cs := []) rfl trivial ?_
                   exact E276 _ _ _ _ q12 (by omega))))
  refine aw_blk oX12_cutFrame_166 (pc' := 168) (ls' := [_, _, _, _, _, _, _, _, _, _, _, _, _, _, _]) (st' := [_]) (cs := []) rfl trivial ?_
  refine aw_ciS (rest := []) (c_X12_costOfW (by omega)) kX12_costOf eX12_cutFrame_168 lX12_cutFrame_168 rfl rfl (Nat.le_of_ble_eq_true rfl) ⟨Nat.le_of_ble_eq_true rfl, Nat.le_of_ble_eq_true rfl⟩ ⟨Nat.le_refl _, Nat.le_refl _⟩ ?_
  refine aw_blk oX12_cutFrame_171 (pc' := 173) (ls' := [_, _, _, _, _, _, _, _, _, _, _, _, _, _, _]) (st' := [_, _]) (cs := []) rfl trivial ?_
  refine aw_ciS (rest := [_]) (c_X12_costOfW (by omega)) kX12_costOf eX12_cutFrame_173 lX12_cutFrame_173 rfl rfl (Nat.le_of_ble_eq_true rfl) ⟨Nat.le_of_ble_eq_true rfl, Nat.le_of_ble_eq_true rfl⟩ ⟨Nat.le_refl _, Nat.le_refl _⟩ ?_
  refine aw_blk oX12_cutFrame_176 (pc' := 179) (ls' := [_, _, _, _, _, _, _, _, _, _, _, _, _, _, _]) (st' := [_, _]) (cs := []) rfl trivial ?_
  refine aw_ciS (rest := [_]) (c_X12_costOfW (by omega)) kX12_costOf eX12_cutFrame_179 lX12_cutFrame_179 rfl rfl (Nat.le_of_ble_eq_true rfl) ⟨Nat.le_of_ble_eq_true rfl, Nat.le_of_ble_eq_true rfl⟩ ⟨Nat.le_refl _, Nat.le_refl _⟩ ?_
  refine aw_blk oX12_cutFrame_182 (pc' := 185) (ls' := [_, _, _, _, _, _, _, _, _, _, _, _, _, _, _]) (st' := [_, _]) (cs := []) rfl trivial ?_
  refine aw_ciS (rest := [_]) (c_X12_costOfW (by omega)) kX12_costOf eX12_cutFrame_185 lX12_cutFrame_185 rfl rfl (Nat.le_of_ble_eq_true rfl) ⟨Nat.le_of_ble_eq_true rfl, Nat.le_of_ble_eq_true rfl⟩ ⟨Nat.le_refl _, Nat.le_refl _⟩ ?_
  refine aw_blk oX12_cutFrame_188 (pc' := 241) (ls' := [_, _, _, _, _, _, _, _, _, _, _, _, _, _, _]) (st' := [_, _]) (cs := [(_, _), (_, _), (_, _), (_, _), (_, _)]) rfl (⟨⟨by omega, by omega⟩, ⟨by omega, by omega⟩, ⟨by omega, by omega⟩, ⟨by omega, by omega⟩, ⟨by omega, by omega⟩, trivial⟩) ?_
  rw [eL, eB, hm.1]
  refine aw_icmp_gt (tgt := 248) eX12_cutFrame_241 (by decide) (by omega) (by omega) (fun h1 => ?_) (fun h1 => ?_)
  · refine aw_blk oX12_cutFrame_248 (pc' := 249) (ls' := [_, _, _, _, _, _, _, _, _, _, _, _, _, _, _]) (st' := [_]) (cs := []) rfl trivial ?_
    exact E249 _ _ _ _ (by omega)
  · refine aw_blk oX12_cutFrame_244 (pc' := 249) (ls' := [_, _, _, _, _, _, _, _, _, _, _, _, _, _, _]) (st' := [_]) (cs := []) rfl trivial ?_
    exact E249 _ _ _ _ (by omega)

/-! ===== the reference's cut: all ways ===== -/
theorem IQ.bd {l : Int → Int → Int} {key most N B L F : Int} {w : Int → Int} (h : IQ l key most N B L F w) (hl : ∀ x y : Int, 0 ≤ l x y ∧ l x y ≤ 900) : R32 B ∧ R32 L ∧ (F = 0 ∨ F = 1) := by
  rcases h with ⟨h1, h2, h3, -⟩ | ⟨h1, h2, h3, h4, -⟩
  · omega
  · have := qB_bd (a := w 0) (b := w 1) (c := w 2) (d := w 3)
    have g0 := hl 0 (w 0)
    have g1 := hl 1 (w 1)
    have g2 := hl 2 (w 2)
    have g3 := hl 3 (w 3)
    unfold qL at h3
    omega
theorem QM.lf {μ0 μ : MM} {f key : Int} {l : Int → Int → Int} (h : QM μ0 μ f) (hL : LF μ0 l key 4 0) : LF μ l key 4 0 := by
  unfold LF
  rw [h.1 80 (by decide)]
  exact hL
theorem QM.put {μ0 μ : MM} {f j v : Int} (h : QM μ0 μ f) (hj : 0 ≤ j ∧ j < 4) : QM μ0 (up μ 76 (4 * f + j) v) f := ⟨h.1.put (by decide), fun x hx => by rw [up_ne (Or.inr (by omega))]; exact h.2 x hx⟩
theorem l_qd {κ : KX} {μ0 : MM} {ν : ML} {P : Option AV → List SH → MM → ML → Prop} {l : Int → Int → Int} {f key most a b c : Int} (hf : 0 ≤ f ∧ f < 10) (hm : μ0 58 0 = most ∧ R32 most) (hL : LF μ0 l key 4 0) (hl : ∀ x y : Int, 0 ≤ l x y ∧ l x y ≤ 900) (hlk : 0 ≤ lst key ∧ lst key ≤ 9) (ha : lst key ≤ a ∧ a < 11) (hb : lst key ≤ b ∧ b < 11) (hc : lst key ≤ c ∧ c < 11)
    (K : ∀ (B L F : Int) (μ : MM) (u9 u10 u11 u12 u13 u14 : AV), QM μ0 μ f → IQ l key most (qN a b c 11) B L F (fun j => μ 76 (4 * f + j)) → AX κ mX12_cutFrame 2 P 395 [aR 55, aI f, aI (lst key), aI B, aI L, aI F, aI a, aI b, aI c, u9, u10, u11, u12, u13, u14] [] μ ν) (n : Nat) : ∀ (d B L F : Int) (μ : MM) (u10 u11 u12 u13 u14 : AV), lst key ≤ d → d + n = 11 → QM μ0 μ f → IQ l key most (qN a b c d) B L F (fun j => μ 76 (4 * f + j)) → AX κ mX12_cutFrame 2 P 159 [aR 55, aI f, aI (lst key), aI B, aI L, aI F, aI a, aI b, aI c, aI d, u10, u11, u12, u13, u14] [] μ ν := by
  induction n with
  | zero =>
    intro d B L F μ u10 u11 u12 u13 u14 h0 hn hQ hI
    rw [show d = 11 by omega] at hI
    refine aw_blk oX12_cutFrame_159 (pc' := 163) (ls' := [_, _, _, _, _, _, _, _, _, _, _, _, _, _, _]) (st' := [_, _]) (cs := []) rfl trivial ?_
    refine aw_icmp_ge (tgt := 395) eX12_cutFrame_163 (by decide) (by omega) (by omega) (fun h1 => ?_) (fun h1 => ?_)
    · exact K B L F μ _ _ _ _ _ _ hQ hI
    · exfalso; omega
  | succ n ih =>
    intro d B L F μ u10 u11 u12 u13 u14 h0 hn hQ hI
    have hbd := hI.bd hl
    have hq : okQ key a b c d := ⟨ha, hb, hc, h0, by omega⟩
    have eN : qN a b c (d + 1) = qN a b c d + 1 := by unfold qN; omega
    refine aw_blk oX12_cutFrame_159 (pc' := 163) (ls' := [_, _, _, _, _, _, _, _, _, _, _, _, _, _, _]) (st' := [_, _]) (cs := []) rfl trivial ?_
    refine aw_icmp_ge (tgt := 395) eX12_cutFrame_163 (by decide) (by omega) (by omega) (fun h1 => ?_) (fun h1 => ?_)
    · exfalso; omega
    · refine s_body hf (by rw [hQ.1 58 (by decide)]; exact hm) (hQ.lf hL) hl hq hbd.1 hbd.2.1 hbd.2.2 (fun v10 v11 v12 v13 v14 hu => ?_) (fun v10 v11 v12 v13 v14 hu => ?_)
      · refine aw_blk oX12_cutFrame_389 (pc' := 159) (ls' := [_, _, _, _, _, _, _, _, _, _, _, _, _, _, _]) (st' := []) (cs := []) rfl trivial ?_
        refine ih (d + 1) _ _ _ _ _ _ _ _ _ (by omega) (by omega) ?_ ?_
        · have q := (((hQ.put (j := 0) (v := a) (by decide)).put (j := 1) (v := b) (by decide)).put (j := 2) (v := c) (by decide)).put (j := 3) (v := d) (by decide)
          rw [show 4 * f + 0 = 4 * f by omega] at q
          exact q
        · rw [eN]
          refine hI.step1 hq hu ?_ ?_ ?_ ?_
          · show up (up (up (up μ 76 (4 * f) a) 76 (4 * f + 1) b) 76 (4 * f + 2) c) 76 (4 * f + 3) d 76 (4 * f + 0) = a
            rw [show 4 * f + 0 = 4 * f by omega, up_ne (Or.inr (by omega)), up_ne (Or.inr (by omega)), up_ne (Or.inr (by omega)), up_at]
          · show up (up (up (up μ 76 (4 * f) a) 76 (4 * f + 1) b) 76 (4 * f + 2) c) 76 (4 * f + 3) d 76 (4 * f + 1) = b
            rw [up_ne (Or.inr (by omega)), up_ne (Or.inr (by omega)), up_at]
          · show up (up (up (up μ 76 (4 * f) a) 76 (4 * f + 1) b) 76 (4 * f + 2) c) 76 (4 * f + 3) d 76 (4 * f + 2) = c
            rw [up_ne (Or.inr (by omega)), up_at]
          · show up (up (up (up μ 76 (4 * f) a) 76 (4 * f + 1) b) 76 (4 * f + 2) c) 76 (4 * f + 3) d 76 (4 * f + 3) = d
            rw [up_at]
      · refine aw_blk oX12_cutFrame_389 (pc' := 159) (ls' := [_, _, _, _, _, _, _, _, _, _, _, _, _, _, _]) (st' := []) (cs := []) rfl trivial ?_
        refine ih (d + 1) _ _ _ _ _ _ _ _ _ (by omega) (by omega) hQ ?_
        rw [eN]
        exact hI.step0 hq hu
theorem l_qc {κ : KX} {μ0 : MM} {ν : ML} {P : Option AV → List SH → MM → ML → Prop} {l : Int → Int → Int} {f key most a b : Int} (hf : 0 ≤ f ∧ f < 10) (hm : μ0 58 0 = most ∧ R32 most) (hL : LF μ0 l key 4 0) (hl : ∀ x y : Int, 0 ≤ l x y ∧ l x y ≤ 900) (hlk : 0 ≤ lst key ∧ lst key ≤ 9) (ha : lst key ≤ a ∧ a < 11) (hb : lst key ≤ b ∧ b < 11)
    (K : ∀ (B L F : Int) (μ : MM) (u8 u9 u10 u11 u12 u13 u14 : AV), QM μ0 μ f → IQ l key most (qN a b 11 0) B L F (fun j => μ 76 (4 * f + j)) → AX κ mX12_cutFrame 2 P 401 [aR 55, aI f, aI (lst key), aI B, aI L, aI F, aI a, aI b, u8, u9, u10, u11, u12, u13, u14] [] μ ν) (n : Nat) : ∀ (c B L F : Int) (μ : MM) (u9 u10 u11 u12 u13 u14 : AV), lst key ≤ c → c + n = 11 → QM μ0 μ f → IQ l key most (qN a b c 0) B L F (fun j => μ 76 (4 * f + j)) → AX κ mX12_cutFrame 2 P 149 [aR 55, aI f, aI (lst key), aI B, aI L, aI F, aI a, aI b, aI c, u9, u10, u11, u12, u13, u14] [] μ ν := by
  induction n with
  | zero =>
    intro c B L F μ u9 u10 u11 u12 u13 u14 h0 hn hQ hI
    rw [show c = 11 by omega] at hI
    refine aw_blk oX12_cutFrame_149 (pc' := 153) (ls' := [_, _, _, _, _, _, _, _, _, _, _, _, _, _, _]) (st' := [_, _]) (cs := []) rfl trivial ?_
    refine aw_icmp_ge (tgt := 401) eX12_cutFrame_153 (by decide) (by omega) (by omega) (fun h1 => ?_) (fun h1 => ?_)
    · exact K B L F μ _ _ _ _ _ _ _ hQ hI
    · exfalso; omega
  | succ n ih =>
    intro c B L F μ u9 u10 u11 u12 u13 u14 h0 hn hQ hI
    refine aw_blk oX12_cutFrame_149 (pc' := 153) (ls' := [_, _, _, _, _, _, _, _, _, _, _, _, _, _, _]) (st' := [_, _]) (cs := []) rfl trivial ?_
    refine aw_icmp_ge (tgt := 401) eX12_cutFrame_153 (by decide) (by omega) (by omega) (fun h1 => ?_) (fun h1 => ?_)
    · exfalso; omega
    · refine aw_blk oX12_cutFrame_156 (pc' := 159) (ls' := [_, _, _, _, _, _, _, _, _, _, _, _, _, _, _]) (st' := []) (cs := []) rfl trivial ?_
      refine l_qd hf hm hL hl hlk ha hb ⟨h0, by omega⟩ (fun B L F μ' v9 v10 v11 v12 v13 v14 hQ' hI' => ?_) (11 - lst key).toNat (lst key) B L F μ _ _ _ _ _ (by omega) (by omega) hQ ?_
      · refine aw_blk oX12_cutFrame_395 (pc' := 149) (ls' := [_, _, _, _, _, _, _, _, _, _, _, _, _, _, _]) (st' := []) (cs := []) rfl trivial ?_
        refine ih (c + 1) B L F μ' _ _ _ _ _ _ (by omega) (by omega) hQ' ?_
        rw [show qN a b (c + 1) 0 = qN a b c 11 by unfold qN; omega]
        exact hI'
      · refine hI.skip (by unfold qN; omega) (fun a' b' c' d' hq hn => ?_)
        have := okQ_bd hq
        unfold okQ at hq
        unfold qN at hn ⊢
        omega
theorem l_qb {κ : KX} {μ0 : MM} {ν : ML} {P : Option AV → List SH → MM → ML → Prop} {l : Int → Int → Int} {f key most a : Int} (hf : 0 ≤ f ∧ f < 10) (hm : μ0 58 0 = most ∧ R32 most) (hL : LF μ0 l key 4 0) (hl : ∀ x y : Int, 0 ≤ l x y ∧ l x y ≤ 900) (hlk : 0 ≤ lst key ∧ lst key ≤ 9) (ha : lst key ≤ a ∧ a < 11)
    (K : ∀ (B L F : Int) (μ : MM) (u7 u8 u9 u10 u11 u12 u13 u14 : AV), QM μ0 μ f → IQ l key most (qN a 11 0 0) B L F (fun j => μ 76 (4 * f + j)) → AX κ mX12_cutFrame 2 P 407 [aR 55, aI f, aI (lst key), aI B, aI L, aI F, aI a, u7, u8, u9, u10, u11, u12, u13, u14] [] μ ν) (n : Nat) : ∀ (b B L F : Int) (μ : MM) (u8 u9 u10 u11 u12 u13 u14 : AV), lst key ≤ b → b + n = 11 → QM μ0 μ f → IQ l key most (qN a b 0 0) B L F (fun j => μ 76 (4 * f + j)) → AX κ mX12_cutFrame 2 P 139 [aR 55, aI f, aI (lst key), aI B, aI L, aI F, aI a, aI b, u8, u9, u10, u11, u12, u13, u14] [] μ ν := by
  induction n with
  | zero =>
    intro b B L F μ u8 u9 u10 u11 u12 u13 u14 h0 hn hQ hI
    rw [show b = 11 by omega] at hI
    refine aw_blk oX12_cutFrame_139 (pc' := 143) (ls' := [_, _, _, _, _, _, _, _, _, _, _, _, _, _, _]) (st' := [_, _]) (cs := []) rfl trivial ?_
    refine aw_icmp_ge (tgt := 407) eX12_cutFrame_143 (by decide) (by omega) (by omega) (fun h1 => ?_) (fun h1 => ?_)
    · exact K B L F μ _ _ _ _ _ _ _ _ hQ hI
    · exfalso; omega
  | succ n ih =>
    intro b B L F μ u8 u9 u10 u11 u12 u13 u14 h0 hn hQ hI
    refine aw_blk oX12_cutFrame_139 (pc' := 143) (ls' := [_, _, _, _, _, _, _, _, _, _, _, _, _, _, _]) (st' := [_, _]) (cs := []) rfl trivial ?_
    refine aw_icmp_ge (tgt := 407) eX12_cutFrame_143 (by decide) (by omega) (by omega) (fun h1 => ?_) (fun h1 => ?_)
    · exfalso; omega
    · refine aw_blk oX12_cutFrame_146 (pc' := 149) (ls' := [_, _, _, _, _, _, _, _, _, _, _, _, _, _, _]) (st' := []) (cs := []) rfl trivial ?_
      refine l_qc hf hm hL hl hlk ha ⟨h0, by omega⟩ (fun B L F μ' v8 v9 v10 v11 v12 v13 v14 hQ' hI' => ?_) (11 - lst key).toNat (lst key) B L F μ _ _ _ _ _ _ (by omega) (by omega) hQ ?_
      · refine aw_blk oX12_cutFrame_401 (pc' := 139) (ls' := [_, _, _, _, _, _, _, _, _, _, _, _, _, _, _]) (st' := []) (cs := []) rfl trivial ?_
        refine ih (b + 1) B L F μ' _ _ _ _ _ _ _ (by omega) (by omega) hQ' ?_
        rw [show qN a (b + 1) 0 0 = qN a b 11 0 by unfold qN; omega]
        exact hI'
      · refine hI.skip (by unfold qN; omega) (fun a' b' c' d' hq hn => ?_)
        have := okQ_bd hq
        unfold okQ at hq
        unfold qN at hn ⊢
        omega
theorem l_qa {κ : KX} {μ0 : MM} {ν : ML} {P : Option AV → List SH → MM → ML → Prop} {l : Int → Int → Int} {f key most : Int} (hf : 0 ≤ f ∧ f < 10) (hm : μ0 58 0 = most ∧ R32 most) (hL : LF μ0 l key 4 0) (hl : ∀ x y : Int, 0 ≤ l x y ∧ l x y ≤ 900) (hlk : 0 ≤ lst key ∧ lst key ≤ 9)
    (K : ∀ (B L F : Int) (μ : MM) (u6 u7 u8 u9 u10 u11 u12 u13 u14 : AV), QM μ0 μ f → IQ l key most (qN 11 0 0 0) B L F (fun j => μ 76 (4 * f + j)) → AX κ mX12_cutFrame 2 P 413 [aR 55, aI f, aI (lst key), aI B, aI L, aI F, u6, u7, u8, u9, u10, u11, u12, u13, u14] [] μ ν) (n : Nat) : ∀ (a B L F : Int) (μ : MM) (u7 u8 u9 u10 u11 u12 u13 u14 : AV), lst key ≤ a → a + n = 11 → QM μ0 μ f → IQ l key most (qN a 0 0 0) B L F (fun j => μ 76 (4 * f + j)) → AX κ mX12_cutFrame 2 P 129 [aR 55, aI f, aI (lst key), aI B, aI L, aI F, aI a, u7, u8, u9, u10, u11, u12, u13, u14] [] μ ν := by
  induction n with
  | zero =>
    intro a B L F μ u7 u8 u9 u10 u11 u12 u13 u14 h0 hn hQ hI
    rw [show a = 11 by omega] at hI
    refine aw_blk oX12_cutFrame_129 (pc' := 133) (ls' := [_, _, _, _, _, _, _, _, _, _, _, _, _, _, _]) (st' := [_, _]) (cs := []) rfl trivial ?_
    refine aw_icmp_ge (tgt := 413) eX12_cutFrame_133 (by decide) (by omega) (by omega) (fun h1 => ?_) (fun h1 => ?_)
    · exact K B L F μ _ _ _ _ _ _ _ _ _ hQ hI
    · exfalso; omega
  | succ n ih =>
    intro a B L F μ u7 u8 u9 u10 u11 u12 u13 u14 h0 hn hQ hI
    refine aw_blk oX12_cutFrame_129 (pc' := 133) (ls' := [_, _, _, _, _, _, _, _, _, _, _, _, _, _, _]) (st' := [_, _]) (cs := []) rfl trivial ?_
    refine aw_icmp_ge (tgt := 413) eX12_cutFrame_133 (by decide) (by omega) (by omega) (fun h1 => ?_) (fun h1 => ?_)
    · exfalso; omega
    · refine aw_blk oX12_cutFrame_136 (pc' := 139) (ls' := [_, _, _, _, _, _, _, _, _, _, _, _, _, _, _]) (st' := []) (cs := []) rfl trivial ?_
      refine l_qb hf hm hL hl hlk ⟨h0, by omega⟩ (fun B L F μ' v7 v8 v9 v10 v11 v12 v13 v14 hQ' hI' => ?_) (11 - lst key).toNat (lst key) B L F μ _ _ _ _ _ _ _ (by omega) (by omega) hQ ?_
      · refine aw_blk oX12_cutFrame_407 (pc' := 129) (ls' := [_, _, _, _, _, _, _, _, _, _, _, _, _, _, _]) (st' := []) (cs := []) rfl trivial ?_
        refine ih (a + 1) B L F μ' _ _ _ _ _ _ _ _ (by omega) (by omega) hQ' ?_
        rw [show qN (a + 1) 0 0 0 = qN a 11 0 0 by unfold qN; omega]
        exact hI'
      · refine hI.skip (by unfold qN; omega) (fun a' b' c' d' hq hn => ?_)
        have := okQ_bd hq
        unfold okQ at hq
        unfold qN at hn ⊢
        omega
theorem dAt_inv (b k : Int) (hb : 0 ≤ b ∧ b < 4) (hk : 0 ≤ k ∧ k < 4) : b = 2 * (dAt b k / 8) + dAt b k % 4 / 2 ∧ k = 2 * (dAt b k % 8 / 4) + dAt b k % 2 := by
  rcases (show b = 0 ∨ b = 1 ∨ b = 2 ∨ b = 3 by omega) with rfl | rfl | rfl | rfl <;> rcases (show k = 0 ∨ k = 1 ∨ k = 2 ∨ k = 3 by omega) with rfl | rfl | rfl | rfl <;> decide
theorem dAt_inj {b k b' k' : Int} (hb : 0 ≤ b ∧ b < 4) (hk : 0 ≤ k ∧ k < 4) (hb' : 0 ≤ b' ∧ b' < 4) (hk' : 0 ≤ k' ∧ k' < 4) (e : dAt b' k' = dAt b k) : b' = b ∧ k' = k := by
  have h1 := dAt_inv b k hb hk
  have h2 := dAt_inv b' k' hb' hk'
  rw [e] at h2
  exact ⟨h2.1.trans h1.1.symm, h2.2.trans h1.2.symm⟩

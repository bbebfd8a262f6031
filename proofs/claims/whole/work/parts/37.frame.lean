/-! ===== FRAMES: what a cut is ===== -/
def cbt (w : Int) : Int := if w = 4 then 1 else if w < 9 then 6 else if w = 9 then 5 else 20
def dAt (b k : Int) : Int := 8 * (b / 2) + 4 * (k / 2) + 2 * (b % 2) + k % 2
def hld (v : Int) : Int := if v < 0 then 0 else if 3 < v then 3 else v
def ob (dt pv : Int → Int) (b k w : Int) : Int := if w = 10 then dt (dAt b k) else if w = 9 then (dt (dAt b 0) + dt (dAt b 1) + dt (dAt b 2) + dt (dAt b 3)) / 4 else pv (4 * hld (dAt b k / 4 + w / 3 - 1) + hld (dAt b k % 4 + w % 3 - 1))
def sqd (dt pv : Int → Int) (b k w : Int) : Int := (ob dt pv b k w - dt (dAt b k)) * (ob dt pv b k w - dt (dAt b k))
def lss (dt pv : Int → Int) (b w : Int) : Int := sqd dt pv b 0 w + sqd dt pv b 1 w + sqd dt pv b 2 w + sqd dt pv b 3 w
def lst (key : Int) : Int := if key = 1 then 9 else 0
def lmt (key most : Int) : Int := if key = 1 then (if most < 20 then 20 else most) else (if most < 4 then 4 else most)
def qB (a b c d : Int) : Int := cbt a + cbt b + cbt c + cbt d
def qL (l : Int → Int → Int) (a b c d : Int) : Int := l 0 a + l 1 b + l 2 c + l 3 d
def qN (a b c d : Int) : Int := 1331 * a + 121 * b + 11 * c + d
def okQ (key a b c d : Int) : Prop := (lst key ≤ a ∧ a < 11) ∧ (lst key ≤ b ∧ b < 11) ∧ (lst key ≤ c ∧ c < 11) ∧ (lst key ≤ d ∧ d < 11)
/-- the first of the least -/
def isB (l : Int → Int → Int) (key most a b c d : Int) : Prop := okQ key a b c d ∧ qB a b c d ≤ lmt key most ∧ ∀ a' b' c' d' : Int, okQ key a' b' c' d' → qB a' b' c' d' ≤ lmt key most → qL l a b c d < qL l a' b' c' d' ∨ (qL l a b c d = qL l a' b' c' d' ∧ (qB a b c d < qB a' b' c' d' ∨ (qB a b c d = qB a' b' c' d' ∧ qN a b c d ≤ qN a' b' c' d')))
def isCut (dt pv : Int → Int) (key most : Int) (w : Int → Int) (bits loss : Int) (op : Int → Int) : Prop := isB (lss dt pv) key most (w 0) (w 1) (w 2) (w 3) ∧ bits = qB (w 0) (w 1) (w 2) (w 3) ∧ loss = qL (lss dt pv) (w 0) (w 1) (w 2) (w 3) ∧ ∀ b k : Int, 0 ≤ b → b < 4 → 0 ≤ k → k < 4 → op (dAt b k) = ob dt pv b k (w b)
def clip (μ : MM) (c : Nat) (n f : Int) : Int → Int := fun d => if 0 ≤ d ∧ d < n then μ c (n * f + d) else 0
/-- the cut of frame f, as the class keeps it -/
def CK (μ : MM) (f : Int) : Prop := isCut (clip μ 3 16 f) (clip μ 4 16 (f - 1)) (μ 5 f) (μ 1 0) (clip μ 6 4 f) (μ 7 f) (μ 8 f) (clip μ 4 16 f)
def RC (μ : MM) : Prop := (0 ≤ μ 2 8 ∧ μ 2 8 ≤ μ 2 7) ∧ ∀ f : Int, 0 ≤ f → f < μ 2 8 → CK μ f
def RF (μ : MM) : Prop := (μ 55 0 = μ 2 7 ∧ 0 ≤ μ 2 7 ∧ μ 2 7 ≤ 10) ∧ PR 3 56 160 0 15 μ ∧ PR 5 57 10 0 1 μ ∧ (∀ d : Int, 16 * μ 2 7 ≤ d → d < 160 → μ 3 d = 0) ∧ (0 < μ 2 7 → μ 5 0 = 1)
theorem clip_congr {μ μ' : MM} {c : Nat} {n f : Int} (h : ∀ d : Int, 0 ≤ d → d < n → μ' c (n * f + d) = μ c (n * f + d)) : clip μ' c n f = clip μ c n f := by
  funext d
  unfold clip
  split
  · rename_i q; exact h d q.1 q.2
  · rfl
theorem CK.congr {μ μ' : MM} {f : Int} (h : CK μ f) (e3 : ∀ d : Int, 0 ≤ d → d < 16 → μ' 3 (16 * f + d) = μ 3 (16 * f + d)) (e4 : μ' 4 = μ 4) (e5 : μ' 5 f = μ 5 f) (e1 : μ' 1 0 = μ 1 0) (e6 : μ' 6 = μ 6) (e7 : μ' 7 = μ 7) (e8 : μ' 8 = μ 8) : CK μ' f := by
  unfold CK at h ⊢
  rw [clip_congr (c := 3) e3, clip_congr (μ := μ) (μ' := μ') (c := 4) (f := f - 1) (fun _ _ _ => by rw [e4]), clip_congr (μ := μ) (μ' := μ') (c := 4) (f := f) (fun _ _ _ => by rw [e4]), clip_congr (μ := μ) (μ' := μ') (c := 6) (f := f) (fun _ _ _ => by rw [e6]), e5, e1, e7, e8]
  exact h
theorem c_X3_has {κ : KX} {μ : MM} {ν : ML} {f : Int} (hf : R32 f) (hc : 0 ≤ μ 2 7 ∧ μ 2 7 ≤ 10) : AE κ 0 mX3_has [aR 2, aI f] μ ν (some (aI (bt f 0 (μ 2 7 - 1)))) μ ν := by
  refine AMet.of kX3_has.1 (Nat.le_of_ble_eq_true rfl) rfl ?_
  refine aw_blk oX3_has_0 (pc' := 1) (ls' := [_, _]) (st' := [_]) (cs := []) rfl trivial ?_
  refine aw_if_lt (tgt := 16) eX3_has_1 (by decide) (by omega) (fun h1 => ?_) (fun h1 => ?_)
  · first
    | (exfalso; omega; done)
    | (refine aw_blk oX3_has_16 (pc' := 17) (ls' := [_, _]) (st' := [_]) (cs := []) rfl trivial ?_
       refine aw_zret eX3_has_17 rfl (by omega) (Nat.le_refl _) (Nat.le_refl _) ?_
       exact pe_i (by unfold bt; first | rw [if_neg (by omega)] | rw [if_pos (by omega)]) rfl rfl)
  · first
    | (exfalso; omega; done)
    | (refine aw_blk oX3_has_4 (pc' := 9) (ls' := [_, _]) (st' := [_, _]) (cs := []) rfl trivial ?_
       refine aw_icmp_ge (tgt := 16) eX3_has_9 (by decide) (by omega) (by omega) (fun h2 => ?_) (fun h2 => ?_)
       · first
         | (exfalso; omega; done)
         | (refine aw_blk oX3_has_16 (pc' := 17) (ls' := [_, _]) (st' := [_]) (cs := []) rfl trivial ?_
            refine aw_zret eX3_has_17 rfl (by omega) (Nat.le_refl _) (Nat.le_refl _) ?_
            exact pe_i (by unfold bt; first | rw [if_neg (by omega)] | rw [if_pos (by omega)]) rfl rfl)
       · first
         | (exfalso; omega; done)
         | (refine aw_blk oX3_has_12 (pc' := 17) (ls' := [_, _]) (st' := [_]) (cs := []) rfl trivial ?_
            refine aw_zret eX3_has_17 rfl (by omega) (Nat.le_refl _) (Nat.le_refl _) ?_
            exact pe_i (by unfold bt; first | rw [if_neg (by omega)] | rw [if_pos (by omega)]) rfl rfl))
theorem c_X12_isFrame {κ : KX} {μ : MM} {ν : ML} {f : Int} (hf : R32 f) (hc : 0 ≤ μ 55 0 ∧ μ 55 0 ≤ 10) : AE κ 1 mX12_isFrame [aR 55, aI f] μ ν (some (aI (bt f 0 (μ 55 0 - 1)))) μ ν := by
  refine AMet.of kX12_isFrame.1 (Nat.le_of_ble_eq_true rfl) rfl ?_
  refine aw_blk oX12_isFrame_0 (pc' := 8) (ls' := [_, _]) (st' := [_, _, _]) (cs := []) rfl trivial ?_
  refine aw_ciS (rest := []) (c_X12_in (by omega) (by omega) (by omega)) kX12_in eX12_isFrame_8 lX12_isFrame_8 rfl rfl (Nat.le_of_ble_eq_true rfl) ⟨Nat.le_of_ble_eq_true rfl, Nat.le_of_ble_eq_true rfl⟩ ⟨Nat.le_refl _, Nat.le_refl _⟩ ?_
  refine aw_zret eX12_isFrame_11 rfl (by exact bt_z) (Nat.le_refl _) (Nat.le_refl _) ?_
  exact pe_i rfl rfl rfl
def LawC (κ : KX) (cx cm : MX) (As : List AV) (μ : MM) (ν : ML) : Prop := LawX (fun μ2 ν2 => ν2 = ν ∧ RF μ2 ∧ RC μ2 ∧ SR [2, 3, 5, 55, 56, 57] μ μ2 ∧ SF [0] μ μ2) κ cx cm As μ ν
theorem c_X3_add {κ : KX} {μ : MM} {ν : ML} (hn : 0 ≤ μ 2 7 ∧ μ 2 7 < 10) : AE κ 0 mX3_add [aR 2] μ ν (some (aI (μ 2 7))) (up (up μ 5 (μ 2 7) (if μ 2 7 = 0 then 1 else 0)) 2 7 (μ 2 7 + 1)) ν := by
  refine AMet.of kX3_add.1 (Nat.le_of_ble_eq_true rfl) rfl ?_
  refine aw_blk oX3_add_0 (pc' := 11) (ls' := [_, _]) (st' := [_, _, _]) (cs := []) rfl trivial ?_
  refine aw_if_ne (tgt := 18) eX3_add_11 (by decide) (by omega) (fun h1 => ?_) (fun h1 => ?_)
  · refine aw_blk oX3_add_18 (pc' := 19) (ls' := [_, _]) (st' := [_, _, _]) (cs := []) rfl trivial ?_
    refine aw_blk oX3_add_19 (pc' := 31) (ls' := [_, _]) (st' := [_]) (cs := [(_, _), (_, _)]) rfl (⟨⟨by omega, by omega⟩, ⟨by omega, by omega⟩, trivial⟩) ?_
    refine aw_iret eX3_add_31 rfl (Nat.le_refl _) (Nat.le_refl _) ?_
    exact pe_i rfl (by rw [if_neg h1]; rfl) rfl
  · refine aw_blk oX3_add_14 (pc' := 19) (ls' := [_, _]) (st' := [_, _, _]) (cs := []) rfl trivial ?_
    refine aw_blk oX3_add_19 (pc' := 31) (ls' := [_, _]) (st' := [_]) (cs := [(_, _), (_, _)]) rfl (⟨⟨by omega, by omega⟩, ⟨by omega, by omega⟩, trivial⟩) ?_
    refine aw_iret eX3_add_31 rfl (Nat.le_refl _) (Nat.le_refl _) ?_
    exact pe_i rfl (by rw [if_pos h1]; rfl) rfl
theorem l_frameM {κ : KX} {ν : ML} {N : Int} (hN : 0 ≤ N ∧ N < 10) (n : Nat) : ∀ (i : Int) (μ : MM), μ 55 0 = N → 0 ≤ i → i + n = 16 → AX κ mX12_frame 60 (PE (some (aI N)) (up (fil 56 0 n (16 * N + i) μ) 55 0 (N + 1)) ν) 35 [aR 55, aI i] [] μ ν := by
  induction n with
  | zero =>
    intro i μ e0 h0 hn
    refine aw_blk oX12_frame_35 (pc' := 38) (ls' := [_, _]) (st' := [_, _]) (cs := []) rfl trivial ?_
    refine aw_icmp_ge (tgt := 62) eX12_frame_38 (by decide) (by omega) (by omega) (fun h1 => ?_) (fun h1 => ?_)
    · refine aw_blk oX12_frame_62 (pc' := 78) (ls' := [_, _]) (st' := [_]) (cs := []) rfl trivial ?_
      refine aw_iret eX12_frame_78 rfl (Nat.le_refl _) (Nat.le_refl _) ?_
      refine pe_i ?_ ?_ rfl
      · rw [up_at, e0]; omega
      · rw [e0]; rfl
    · exfalso; omega
  | succ n ih =>
    intro i μ e0 h0 hn
    refine aw_blk oX12_frame_35 (pc' := 38) (ls' := [_, _]) (st' := [_, _]) (cs := []) rfl trivial ?_
    refine aw_icmp_ge (tgt := 62) eX12_frame_38 (by decide) (by omega) (by omega) (fun h1 => ?_) (fun h1 => ?_)
    · exfalso; omega
    · refine aw_blk oX12_frame_41 (pc' := 35) (ls' := [_, _]) (st' := []) (cs := [(_, _)]) rfl (⟨⟨by omega, by omega⟩, trivial⟩) ?_
      rw [e0]
      have T := ih (i + 1) (up μ 56 (16 * N + i) 0) (by rw [up_c (by decide)]; exact e0) (by omega) (by omega)
      rw [show 16 * N + (i + 1) = 16 * N + i + 1 by omega] at T
      exact T
theorem law_frame {κ : KX} {μ : MM} {ν : ML} (h : RF μ) (hc : RC μ) : LawC κ mX11_frame mX12_frame [] μ ν := by
  obtain ⟨a, b, c, d, e⟩ := id h
  by_cases c2 : μ 2 7 = 10
  · refine ⟨-4, μ, ν, μ, ?_, ?_, by decide, rfl, h, hc, SR.rf, fun _ _ => rfl⟩
    · refine AMet.of kX11_frame.1 (Nat.le_of_ble_eq_true rfl) rfl ?_
      refine aw_blk oX11_frame_0 (pc' := 9) (ls' := [_]) (st' := [_, _]) (cs := []) rfl trivial ?_
      refine aw_icmp_ne (tgt := 15) eX11_frame_9 (by decide) (by omega) (by omega) (fun h3 => ?_) (fun h3 => ?_)
      · first
        | (exfalso; omega; done)
        | (refine aw_blk oX11_frame_15 (pc' := 19) (ls' := [_]) (st' := [_]) (cs := []) rfl trivial ?_
           refine aw_ciV (rest := []) (c_X3_add (by omega)) kX3_add eX11_frame_19 lX11_frame_19 rfl rfl rfl rfl (Nat.le_of_ble_eq_true rfl) ⟨Nat.le_of_ble_eq_true rfl, Nat.le_of_ble_eq_true rfl⟩ ⟨Nat.le_refl _, Nat.le_refl _⟩ ?_
           refine aw_iret eX11_frame_22 rfl (Nat.le_refl _) (Nat.le_refl _) ?_
           exact pe_i rfl rfl rfl)
      · first
        | (exfalso; omega; done)
        | (refine aw_blk oX11_frame_12 (pc' := 14) (ls' := [_]) (st' := [_]) (cs := []) rfl trivial ?_
           refine aw_iret eX11_frame_14 rfl (Nat.le_refl _) (Nat.le_refl _) ?_
           exact pe_i rfl rfl rfl)
    · refine AMet.of kX12_frame.1 (Nat.le_of_ble_eq_true rfl) rfl ?_
      refine aw_blk oX12_frame_0 (pc' := 6) (ls' := [_, _]) (st' := [_, _]) (cs := []) rfl trivial ?_
      refine aw_icmp_ne (tgt := 12) eX12_frame_6 (by decide) (by omega) (by omega) (fun h4 => ?_) (fun h4 => ?_)
      · first
        | (exfalso; omega; done)
        | (refine aw_blk oX12_frame_12 (pc' := 24) (ls' := [_, _]) (st' := [_, _, _]) (cs := []) rfl trivial ?_
           refine aw_if_ne (tgt := 31) eX12_frame_24 (by decide) (by omega) (fun h5 => ?_) (fun h5 => ?_)
           · first
             | (exfalso; omega; done)
             | (refine aw_blk oX12_frame_31 (pc' := 32) (ls' := [_, _]) (st' := [_, _, _]) (cs := []) rfl trivial ?_
                refine aw_blk oX12_frame_32 (pc' := 35) (ls' := [_, _]) (st' := []) (cs := [(_, _), (_, _)]) rfl (⟨⟨by omega, by omega⟩, ⟨by omega, by omega⟩, trivial⟩) ?_
                skip)
           · first
             | (exfalso; omega; done)
             | (refine aw_blk oX12_frame_27 (pc' := 32) (ls' := [_, _]) (st' := [_, _, _]) (cs := []) rfl trivial ?_
                refine aw_blk oX12_frame_32 (pc' := 35) (ls' := [_, _]) (st' := []) (cs := [(_, _), (_, _)]) rfl (⟨⟨by omega, by omega⟩, ⟨by omega, by omega⟩, trivial⟩) ?_
                skip))
      · first
        | (exfalso; omega; done)
        | (refine aw_blk oX12_frame_9 (pc' := 11) (ls' := [_, _]) (st' := [_]) (cs := []) rfl trivial ?_
           refine aw_iret eX12_frame_11 rfl (Nat.le_refl _) (Nat.le_refl _) ?_
           exact pe_i rfl rfl rfl)
  · have hX := c_X3_add (κ := κ) (μ := μ) (ν := ν) (by omega)
    generalize hN : μ 2 7 = N at a c2 d e hX
    obtain ⟨v, hv⟩ : ∃ v : Int, v = if N = 0 then 1 else 0 := ⟨_, rfl⟩
    have hv01 : 0 ≤ v ∧ v ≤ 1 := by rw [hv]; split <;> decide
    rw [← hv] at hX
    obtain ⟨μ1, hμ1⟩ : ∃ m, m = up (up μ 5 N v) 2 7 (N + 1) := ⟨_, rfl⟩
    rw [← hμ1] at hX
    have k0 : μ1 55 0 = N := by rw [hμ1]; exact a.1
    obtain ⟨μ2, hμ2⟩ : ∃ m, m = up (fil 56 0 16 (16 * N + 0) (up μ1 57 N v)) 55 0 (N + 1) := ⟨_, rfl⟩
    have e2 : ∀ k, k ≠ 55 → k ≠ 56 → k ≠ 57 → μ2 k = μ1 k := fun k q1 q2 q3 => by rw [hμ2, up_cell q1, fil_c q2, up_cell q3]
    have m27 : μ2 2 7 = N + 1 := by rw [e2 2 (by decide) (by decide) (by decide), hμ1, up_at]
    have m28 : μ2 2 8 = μ 2 8 := by rw [e2 2 (by decide) (by decide) (by decide), hμ1, up_ne (Or.inr (by decide)), up_c (by decide)]
    have m5 : ∀ x : Int, μ2 5 x = if x = N then v else μ 5 x := fun x => by
      rw [e2 5 (by decide) (by decide) (by decide), hμ1, up_c (by decide)]
      split
      · rename_i q; rw [q, up_at]
      · rename_i q; rw [up_ne (Or.inr q)]
    have m57 : ∀ x : Int, μ2 57 x = if x = N then v else μ 57 x := fun x => by
      rw [hμ2, up_c (by decide), fil_c (by decide)]
      split
      · rename_i q; rw [q, up_at]
      · rename_i q; rw [up_ne (Or.inr q), hμ1]; rfl
    have mo : ∀ k, k ≠ 55 → k ≠ 56 → k ≠ 57 → k ≠ 2 → k ≠ 5 → μ2 k = μ k := fun k q1 q2 q3 q4 q5 => by rw [e2 k q1 q2 q3, hμ1, up_cell q4, up_cell q5]
    have m3 := mo 3 (by decide) (by decide) (by decide) (by decide) (by decide)
    refine ⟨N, μ1, ν, μ2, ?_, ?_, by omega, rfl, ⟨?_, ?_, ?_, ?_, ?_⟩, ⟨?_, ?_⟩, ?_, ?_⟩
    · skip
      refine AMet.of kX11_frame.1 (Nat.le_of_ble_eq_true rfl) rfl ?_
      refine aw_blk oX11_frame_0 (pc' := 9) (ls' := [_]) (st' := [_, _]) (cs := []) rfl trivial ?_
      refine aw_icmp_ne (tgt := 15) eX11_frame_9 (by decide) (by omega) (by omega) (fun h6 => ?_) (fun h6 => ?_)
      · first
        | (exfalso; omega; done)
        | (refine aw_blk oX11_frame_15 (pc' := 19) (ls' := [_]) (st' := [_]) (cs := []) rfl trivial ?_
           refine aw_ciV (rest := []) (hX) kX3_add eX11_frame_19 lX11_frame_19 rfl rfl rfl rfl (Nat.le_of_ble_eq_true rfl) ⟨Nat.le_of_ble_eq_true rfl, Nat.le_of_ble_eq_true rfl⟩ ⟨Nat.le_refl _, Nat.le_refl _⟩ ?_
           refine aw_iret eX11_frame_22 rfl (Nat.le_refl _) (Nat.le_refl _) ?_
           exact pe_i rfl rfl rfl)
      · first
        | (exfalso; omega; done)
        | (refine aw_blk oX11_frame_12 (pc' := 14) (ls' := [_]) (st' := [_]) (cs := []) rfl trivial ?_
           refine aw_iret eX11_frame_14 rfl (Nat.le_refl _) (Nat.le_refl _) ?_
           exact pe_i rfl rfl rfl)
    · skip
      have K := l_frameM (κ := κ) (ν := ν) (N := N) (by omega) 16 0 (up μ1 57 N v) (by rw [up_c (by decide)]; exact k0) (by omega) (by omega)
      rw [← hμ2] at K
      have E32 : AX κ mX12_frame 60 (PE (some (aI N)) μ2 ν) 32 [aR 55, aU] [aI v, aI N, aR 57] μ1 ν := by
        refine aw_blk oX12_frame_32 (pc' := 35) (ls' := [_, _]) (st' := []) (cs := [(_, _), (_, _)]) rfl (⟨⟨by omega, by omega⟩, ⟨by omega, by omega⟩, trivial⟩) ?_
        exact K
      refine AMet.of kX12_frame.1 (Nat.le_of_ble_eq_true rfl) rfl ?_
      refine aw_blk oX12_frame_0 (pc' := 6) (ls' := [_, _]) (st' := [_, _]) (cs := []) rfl trivial ?_
      refine aw_icmp_ne (tgt := 12) eX12_frame_6 (by decide) (by omega) (by omega) (fun h1 => ?_) (fun h1 => ?_)
      · refine aw_blk oX12_frame_12 (pc' := 24) (ls' := [_, _]) (st' := [_, _, _]) (cs := []) rfl trivial ?_
        rw [k0]
        refine aw_if_ne (tgt := 31) eX12_frame_24 (by decide) (by omega) (fun h2 => ?_) (fun h2 => ?_)
        · refine aw_blk oX12_frame_31 (pc' := 32) (ls' := [_, _]) (st' := [_, _, _]) (cs := []) rfl trivial ?_
          rw [if_neg h2] at hv
          rw [← hv]
          exact E32
        · refine aw_blk oX12_frame_27 (pc' := 32) (ls' := [_, _]) (st' := [_, _, _]) (cs := []) rfl trivial ?_
          rw [if_pos h2] at hv
          rw [← hv]
          exact E32
      · exfalso; omega
    · refine ⟨?_, ?_, ?_⟩
      · rw [m27, hμ2, up_at]
      · rw [m27]; omega
      · rw [m27]; omega
    · intro x h0 h1
      rw [m3]
      have g := b x h0 h1
      refine ⟨?_, g.2⟩
      rw [hμ2, up_c (by decide)]
      by_cases q : 16 * N + 0 ≤ x ∧ x < 16 * N + 0 + ((16 : Nat) : Int)
      · rw [fil_in 16 _ _ q.1 q.2, d x (by omega) h1]
      · rw [fil_out 16 _ _ (by omega), up_c (by decide), hμ1]
        exact g.1
    · intro x h0 h1
      rw [m5, m57]
      split
      · exact ⟨rfl, hv01⟩
      · exact c x h0 h1
    · intro x h0 h1
      rw [m3]
      rw [m27] at h0
      exact d x (by omega) h1
    · intro _
      rw [m5]
      split
      · rename_i q
        rw [hv, if_pos q.symm]
      · exact e (by omega)
    · rw [m27, m28]
      have := hc.1
      omega
    · intro f h0 h1
      rw [m28] at h1
      have := hc.1
      refine (hc.2 f h0 h1).congr (fun _ _ _ => by rw [m3]) (mo 4 (by decide) (by decide) (by decide) (by decide) (by decide)) ?_ (by rw [mo 1 (by decide) (by decide) (by decide) (by decide) (by decide)]) (mo 6 (by decide) (by decide) (by decide) (by decide) (by decide)) (mo 7 (by decide) (by decide) (by decide) (by decide) (by decide)) (mo 8 (by decide) (by decide) (by decide) (by decide) (by decide))
      rw [m5, if_neg (by omega)]
    · intro k hk
      exact mo k (fun q => hk (by rw [q]; decide)) (fun q => hk (by rw [q]; decide)) (fun q => hk (by rw [q]; decide)) (fun q => hk (by rw [q]; decide)) (fun q => hk (by rw [q]; decide))
    · intro j hj
      rw [hμ2, up_ne (Or.inr (fun q => hj (by rw [q]; decide))), fil_c (by decide), up_c (by decide), hμ1]
      rfl
theorem c_forgetCuts {κ : KX} {μ : MM} {ν : ML} {f : Int} (hf : R32 f) (hc : R32 (μ 2 8)) : AE κ 1 mX3_forgetCutsFrom [aR 2, aI f] μ ν none (up μ 2 8 (mn (μ 2 8) f)) ν := by
  refine AMet.of kX3_forgetCutsFrom.1 (Nat.le_of_ble_eq_true rfl) rfl ?_
  refine aw_blk oX3_forgetCutsFrom_0 (pc' := 6) (ls' := [_, _]) (st' := [_, _, _]) (cs := []) rfl trivial ?_
  refine aw_mmin eX3_forgetCutsFrom_6 lX3_forgetCutsFrom_6 (by omega) (by omega) (Nat.le_of_ble_eq_true rfl) ⟨Nat.le_of_ble_eq_true rfl, Nat.le_of_ble_eq_true rfl⟩ ⟨Nat.le_refl _, Nat.le_refl _⟩ ?_
  refine aw_blk oX3_forgetCutsFrom_9 (pc' := 12) (ls' := [_, _]) (st' := []) (cs := []) rfl trivial ?_
  refine aw_vret eX3_forgetCutsFrom_12 rfl (Nat.le_refl _) (Nat.le_refl _) ?_
  exact pe_v rfl rfl
theorem c_changeDot {κ : KX} {μ : MM} {ν : ML} {f d v : Int} (hf : 0 ≤ f ∧ f < 10) (hd : 0 ≤ d ∧ d < 16) (hc : R32 (μ 2 8)) : AE κ 2 mX3_changeDot [aR 2, aI f, aI d, aI v] μ ν (some (aI (μ 3 (f * 16 + d)))) (up (up μ 3 (f * 16 + d) v) 2 8 (mn (μ 2 8) f)) ν := by
  have hc' : R32 (up μ 3 (f * 16 + d) v 2 8) := hc
  refine AMet.of kX3_changeDot.1 (Nat.le_of_ble_eq_true rfl) rfl ?_
  refine aw_blk oX3_changeDot_0 (pc' := 27) (ls' := [_, _, _, _, _]) (st' := [_, _]) (cs := [(_, _), (_, _)]) rfl (⟨⟨by omega, by omega⟩, ⟨by omega, by omega⟩, trivial⟩) ?_
  refine aw_cvV (rest := []) (c_forgetCuts (by omega) (by omega)) kX3_forgetCutsFrom eX3_changeDot_27 lX3_changeDot_27 rfl rfl rfl rfl (Nat.le_of_ble_eq_true rfl) ⟨Nat.le_of_ble_eq_true rfl, Nat.le_of_ble_eq_true rfl⟩ ⟨Nat.le_refl _, Nat.le_refl _⟩ ?_
  refine aw_blk oX3_changeDot_30 (pc' := 32) (ls' := [_, _, _, _, _]) (st' := [_]) (cs := []) rfl trivial ?_
  refine aw_iret eX3_changeDot_32 rfl (Nat.le_refl _) (Nat.le_refl _) ?_
  exact pe_i rfl rfl rfl
theorem law_dot {κ : KX} {μ : MM} {ν : ML} {f d v : Int} (h : RF μ) (hc : RC μ) (hf : R32 f) (hd : R32 d) (hv : R32 v) : LawC κ mX11_dot mX12_dot [aI f, aI d, aI v] μ ν := by
  obtain ⟨a, b, c, dz, e⟩ := id h
  have r28 := hc.1
  by_cases c1 : 0 ≤ f ∧ f < μ 2 7
  · by_cases c2 : (0 ≤ d ∧ d ≤ 15) ∧ (0 ≤ v ∧ v ≤ 15)
    · have g := b (f * 16 + d) (by omega) (by omega)
      have g' : μ 56 (16 * f + d) = μ 3 (f * 16 + d) := by rw [show 16 * f + d = f * 16 + d by omega]; exact g.1
      have q := mn_sp (μ 2 8) f
      generalize hx : mn (μ 2 8) f = x at q
      obtain ⟨μ2, hμ2⟩ : ∃ m, m = up (up (up μ 3 (f * 16 + d) v) 2 8 x) 56 (16 * f + d) v := ⟨_, rfl⟩
      have m28 : μ2 2 8 = x := by rw [hμ2]; rfl
      have m27 : μ2 2 7 = μ 2 7 := by rw [hμ2]; rfl
      have m3 : ∀ y : Int, y ≠ f * 16 + d → μ2 3 y = μ 3 y := fun y hy => by rw [hμ2, up_c (by decide), up_c (by decide), up_ne (Or.inr hy)]
      refine ⟨μ 3 (f * 16 + d), up (up μ 3 (f * 16 + d) v) 2 8 x, ν, μ2, ?_, ?_, by omega, rfl, ⟨?_, ?_, ?_, ?_, ?_⟩, ⟨?_, ?_⟩, ?_, ?_⟩
      · rw [← hx]
        refine AMet.of kX11_dot.1 (Nat.le_of_ble_eq_true rfl) rfl ?_
        refine aw_blk oX11_dot_0 (pc' := 5) (ls' := [_, _, _, _]) (st' := [_, _]) (cs := []) rfl trivial ?_
        refine aw_ciV (rest := []) (c_X3_has (by omega) (by omega)) kX3_has eX11_dot_5 lX11_dot_5 rfl rfl rfl rfl (Nat.le_of_ble_eq_true rfl) ⟨Nat.le_of_ble_eq_true rfl, Nat.le_of_ble_eq_true rfl⟩ ⟨Nat.le_refl _, Nat.le_refl _⟩ ?_
        refine aw_if_ne (tgt := 13) eX11_dot_8 (by decide) bt_r (fun hh => have h7 := bt1 hh; ?_) (fun hh => have h7 := bt0 hh; ?_)
        · first
          | (exfalso; omega; done)
          | (refine aw_blk oX11_dot_13 (pc' := 17) (ls' := [_, _, _, _]) (st' := [_, _, _]) (cs := []) rfl trivial ?_
             refine aw_ciS (rest := []) (c_X11_between (by omega) (by omega) (by omega)) kX11_between eX11_dot_17 lX11_dot_17 rfl rfl (Nat.le_of_ble_eq_true rfl) ⟨Nat.le_of_ble_eq_true rfl, Nat.le_of_ble_eq_true rfl⟩ ⟨Nat.le_refl _, Nat.le_refl _⟩ ?_
             refine aw_if_eq (tgt := 33) eX11_dot_20 (by decide) bt_r (fun hh => have h8 := bt0 hh; ?_) (fun hh => have h8 := bt1 hh; ?_)
             · first
               | (exfalso; omega; done)
               | (refine aw_blk oX11_dot_33 (pc' := 35) (ls' := [_, _, _, _]) (st' := [_]) (cs := []) rfl trivial ?_
                  refine aw_iret eX11_dot_35 rfl (Nat.le_refl _) (Nat.le_refl _) ?_
                  exact pe_i rfl rfl rfl)
             · first
               | (exfalso; omega; done)
               | (refine aw_blk oX11_dot_23 (pc' := 27) (ls' := [_, _, _, _]) (st' := [_, _, _]) (cs := []) rfl trivial ?_
                  refine aw_ciS (rest := []) (c_X11_between (by omega) (by omega) (by omega)) kX11_between eX11_dot_27 lX11_dot_27 rfl rfl (Nat.le_of_ble_eq_true rfl) ⟨Nat.le_of_ble_eq_true rfl, Nat.le_of_ble_eq_true rfl⟩ ⟨Nat.le_refl _, Nat.le_refl _⟩ ?_
                  refine aw_if_ne (tgt := 36) eX11_dot_30 (by decide) bt_r (fun hh => have h9 := bt1 hh; ?_) (fun hh => have h9 := bt0 hh; ?_)
                  · first
                    | (exfalso; omega; done)
                    | (refine aw_blk oX11_dot_36 (pc' := 43) (ls' := [_, _, _, _]) (st' := [_, _, _, _]) (cs := []) rfl trivial ?_
                       refine aw_ciV (rest := []) (c_changeDot (by omega) (by omega) (by omega)) kX3_changeDot eX11_dot_43 lX11_dot_43 rfl rfl rfl rfl (Nat.le_of_ble_eq_true rfl) ⟨Nat.le_of_ble_eq_true rfl, Nat.le_of_ble_eq_true rfl⟩ ⟨Nat.le_refl _, Nat.le_refl _⟩ ?_
                       refine aw_iret eX11_dot_46 rfl (Nat.le_refl _) (Nat.le_refl _) ?_
                       exact pe_i rfl rfl rfl)
                  · first
                    | (exfalso; omega; done)
                    | (refine aw_blk oX11_dot_33 (pc' := 35) (ls' := [_, _, _, _]) (st' := [_]) (cs := []) rfl trivial ?_
                       refine aw_iret eX11_dot_35 rfl (Nat.le_refl _) (Nat.le_refl _) ?_
                       exact pe_i rfl rfl rfl)))
        · first
          | (exfalso; omega; done)
          | (refine aw_blk oX11_dot_11 (pc' := 12) (ls' := [_, _, _, _]) (st' := [_]) (cs := []) rfl trivial ?_
             refine aw_iret eX11_dot_12 rfl (Nat.le_refl _) (Nat.le_refl _) ?_
             exact pe_i rfl rfl rfl)
      · rw [hμ2]
        have a0 : up (up μ 3 (f * 16 + d) v) 2 8 x 55 0 = μ 2 7 := a.1
        refine AMet.of kX12_dot.1 (Nat.le_of_ble_eq_true rfl) rfl ?_
        refine aw_blk oX12_dot_0 (pc' := 2) (ls' := [_, _, _, _, _]) (st' := [_, _]) (cs := []) rfl trivial ?_
        refine aw_ciV (rest := []) (c_X12_isFrame (by omega) (by omega)) kX12_isFrame eX12_dot_2 lX12_dot_2 rfl rfl rfl rfl (Nat.le_of_ble_eq_true rfl) ⟨Nat.le_of_ble_eq_true rfl, Nat.le_of_ble_eq_true rfl⟩ ⟨Nat.le_refl _, Nat.le_refl _⟩ ?_
        refine aw_if_ne (tgt := 10) eX12_dot_5 (by decide) bt_r (fun hh => have h10 := bt1 hh; ?_) (fun hh => have h10 := bt0 hh; ?_)
        · first
          | (exfalso; omega; done)
          | (refine aw_blk oX12_dot_10 (pc' := 14) (ls' := [_, _, _, _, _]) (st' := [_, _, _]) (cs := []) rfl trivial ?_
             refine aw_ciS (rest := []) (c_X12_in (by omega) (by omega) (by omega)) kX12_in eX12_dot_14 lX12_dot_14 rfl rfl (Nat.le_of_ble_eq_true rfl) ⟨Nat.le_of_ble_eq_true rfl, Nat.le_of_ble_eq_true rfl⟩ ⟨Nat.le_refl _, Nat.le_refl _⟩ ?_
             refine aw_if_eq (tgt := 30) eX12_dot_17 (by decide) bt_r (fun hh => have h11 := bt0 hh; ?_) (fun hh => have h11 := bt1 hh; ?_)
             · first
               | (exfalso; omega; done)
               | (refine aw_blk oX12_dot_30 (pc' := 32) (ls' := [_, _, _, _, _]) (st' := [_]) (cs := []) rfl trivial ?_
                  refine aw_iret eX12_dot_32 rfl (Nat.le_refl _) (Nat.le_refl _) ?_
                  exact pe_i g' rfl rfl)
             · first
               | (exfalso; omega; done)
               | (refine aw_blk oX12_dot_20 (pc' := 24) (ls' := [_, _, _, _, _]) (st' := [_, _, _]) (cs := []) rfl trivial ?_
                  refine aw_ciS (rest := []) (c_X12_in (by omega) (by omega) (by omega)) kX12_in eX12_dot_24 lX12_dot_24 rfl rfl (Nat.le_of_ble_eq_true rfl) ⟨Nat.le_of_ble_eq_true rfl, Nat.le_of_ble_eq_true rfl⟩ ⟨Nat.le_refl _, Nat.le_refl _⟩ ?_
                  refine aw_if_ne (tgt := 33) eX12_dot_27 (by decide) bt_r (fun hh => have h12 := bt1 hh; ?_) (fun hh => have h12 := bt0 hh; ?_)
                  · first
                    | (exfalso; omega; done)
                    | (refine aw_blk oX12_dot_33 (pc' := 60) (ls' := [_, _, _, _, _]) (st' := [_]) (cs := [(_, _), (_, _)]) rfl (⟨⟨by omega, by omega⟩, ⟨by omega, by omega⟩, trivial⟩) ?_
                       refine aw_iret eX12_dot_60 rfl (Nat.le_refl _) (Nat.le_refl _) ?_
                       exact pe_i g' rfl rfl)
                  · first
                    | (exfalso; omega; done)
                    | (refine aw_blk oX12_dot_30 (pc' := 32) (ls' := [_, _, _, _, _]) (st' := [_]) (cs := []) rfl trivial ?_
                       refine aw_iret eX12_dot_32 rfl (Nat.le_refl _) (Nat.le_refl _) ?_
                       exact pe_i g' rfl rfl)))
        · first
          | (exfalso; omega; done)
          | (refine aw_blk oX12_dot_8 (pc' := 9) (ls' := [_, _, _, _, _]) (st' := [_]) (cs := []) rfl trivial ?_
             refine aw_iret eX12_dot_9 rfl (Nat.le_refl _) (Nat.le_refl _) ?_
             exact pe_i g' rfl rfl)
      · rw [m27]
        refine ⟨?_, a.2⟩
        rw [hμ2]; exact a.1
      · refine b.up2' (i := f * 16 + d) (v := v) (by decide) c2.2.1 c2.2.2 ?_ ?_
        · rw [hμ2]; rfl
        · rw [hμ2, show 16 * f + d = f * 16 + d by omega]; rfl
      · rw [hμ2]; exact c
      · intro y h0 h1
        rw [m27] at h0
        rw [m3 y (by omega)]
        exact dz y h0 h1
      · rw [m27, hμ2]; exact e
      · rw [m28, m27]; omega
      · intro k h0 h1
        rw [m28] at h1
        refine (hc.2 k h0 (by omega)).congr (fun y y0 y1 => m3 _ (by omega)) ?_ ?_ ?_ ?_ ?_ ?_ <;> rw [hμ2] <;> rfl
      · rw [hμ2]
        exact (((SR.rf.put (by decide)).put (by decide)).put (by decide))
      · intro j hj
        rw [hμ2]; rfl
    · refine ⟨-2, μ, ν, μ, ?_, ?_, by decide, rfl, h, hc, SR.rf, fun _ _ => rfl⟩
      · refine AMet.of kX11_dot.1 (Nat.le_of_ble_eq_true rfl) rfl ?_
        refine aw_blk oX11_dot_0 (pc' := 5) (ls' := [_, _, _, _]) (st' := [_, _]) (cs := []) rfl trivial ?_
        refine aw_ciV (rest := []) (c_X3_has (by omega) (by omega)) kX3_has eX11_dot_5 lX11_dot_5 rfl rfl rfl rfl (Nat.le_of_ble_eq_true rfl) ⟨Nat.le_of_ble_eq_true rfl, Nat.le_of_ble_eq_true rfl⟩ ⟨Nat.le_refl _, Nat.le_refl _⟩ ?_
        refine aw_if_ne (tgt := 13) eX11_dot_8 (by decide) bt_r (fun hh => have h13 := bt1 hh; ?_) (fun hh => have h13 := bt0 hh; ?_)
        · first
          | (exfalso; omega; done)
          | (refine aw_blk oX11_dot_13 (pc' := 17) (ls' := [_, _, _, _]) (st' := [_, _, _]) (cs := []) rfl trivial ?_
             refine aw_ciS (rest := []) (c_X11_between (by omega) (by omega) (by omega)) kX11_between eX11_dot_17 lX11_dot_17 rfl rfl (Nat.le_of_ble_eq_true rfl) ⟨Nat.le_of_ble_eq_true rfl, Nat.le_of_ble_eq_true rfl⟩ ⟨Nat.le_refl _, Nat.le_refl _⟩ ?_
             refine aw_if_eq (tgt := 33) eX11_dot_20 (by decide) bt_r (fun hh => have h14 := bt0 hh; ?_) (fun hh => have h14 := bt1 hh; ?_)
             · first
               | (exfalso; omega; done)
               | (refine aw_blk oX11_dot_33 (pc' := 35) (ls' := [_, _, _, _]) (st' := [_]) (cs := []) rfl trivial ?_
                  refine aw_iret eX11_dot_35 rfl (Nat.le_refl _) (Nat.le_refl _) ?_
                  exact pe_i rfl rfl rfl)
             · first
               | (exfalso; omega; done)
               | (refine aw_blk oX11_dot_23 (pc' := 27) (ls' := [_, _, _, _]) (st' := [_, _, _]) (cs := []) rfl trivial ?_
                  refine aw_ciS (rest := []) (c_X11_between (by omega) (by omega) (by omega)) kX11_between eX11_dot_27 lX11_dot_27 rfl rfl (Nat.le_of_ble_eq_true rfl) ⟨Nat.le_of_ble_eq_true rfl, Nat.le_of_ble_eq_true rfl⟩ ⟨Nat.le_refl _, Nat.le_refl _⟩ ?_
                  refine aw_if_ne (tgt := 36) eX11_dot_30 (by decide) bt_r (fun hh => have h15 := bt1 hh; ?_) (fun hh => have h15 := bt0 hh; ?_)
                  · first
                    | (exfalso; omega; done)
                    | (refine aw_blk oX11_dot_36 (pc' := 43) (ls' := [_, _, _, _]) (st' := [_, _, _, _]) (cs := []) rfl trivial ?_
                       refine aw_ciV (rest := []) (c_changeDot (by omega) (by omega) (by omega)) kX3_changeDot eX11_dot_43 lX11_dot_43 rfl rfl rfl rfl (Nat.le_of_ble_eq_true rfl) ⟨Nat.le_of_ble_eq_true rfl, Nat.le_of_ble_eq_true rfl⟩ ⟨Nat.le_refl _, Nat.le_refl _⟩ ?_
                       refine aw_iret eX11_dot_46 rfl (Nat.le_refl _) (Nat.le_refl _) ?_
                       exact pe_i rfl rfl rfl)
                  · first
                    | (exfalso; omega; done)
                    | (refine aw_blk oX11_dot_33 (pc' := 35) (ls' := [_, _, _, _]) (st' := [_]) (cs := []) rfl trivial ?_
                       refine aw_iret eX11_dot_35 rfl (Nat.le_refl _) (Nat.le_refl _) ?_
                       exact pe_i rfl rfl rfl)))
        · first
          | (exfalso; omega; done)
          | (refine aw_blk oX11_dot_11 (pc' := 12) (ls' := [_, _, _, _]) (st' := [_]) (cs := []) rfl trivial ?_
             refine aw_iret eX11_dot_12 rfl (Nat.le_refl _) (Nat.le_refl _) ?_
             exact pe_i rfl rfl rfl)
      · refine AMet.of kX12_dot.1 (Nat.le_of_ble_eq_true rfl) rfl ?_
        refine aw_blk oX12_dot_0 (pc' := 2) (ls' := [_, _, _, _, _]) (st' := [_, _]) (cs := []) rfl trivial ?_
        refine aw_ciV (rest := []) (c_X12_isFrame (by omega) (by omega)) kX12_isFrame eX12_dot_2 lX12_dot_2 rfl rfl rfl rfl (Nat.le_of_ble_eq_true rfl) ⟨Nat.le_of_ble_eq_true rfl, Nat.le_of_ble_eq_true rfl⟩ ⟨Nat.le_refl _, Nat.le_refl _⟩ ?_
        refine aw_if_ne (tgt := 10) eX12_dot_5 (by decide) bt_r (fun hh => have h16 := bt1 hh; ?_) (fun hh => have h16 := bt0 hh; ?_)
        · first
          | (exfalso; omega; done)
          | (refine aw_blk oX12_dot_10 (pc' := 14) (ls' := [_, _, _, _, _]) (st' := [_, _, _]) (cs := []) rfl trivial ?_
             refine aw_ciS (rest := []) (c_X12_in (by omega) (by omega) (by omega)) kX12_in eX12_dot_14 lX12_dot_14 rfl rfl (Nat.le_of_ble_eq_true rfl) ⟨Nat.le_of_ble_eq_true rfl, Nat.le_of_ble_eq_true rfl⟩ ⟨Nat.le_refl _, Nat.le_refl _⟩ ?_
             refine aw_if_eq (tgt := 30) eX12_dot_17 (by decide) bt_r (fun hh => have h17 := bt0 hh; ?_) (fun hh => have h17 := bt1 hh; ?_)
             · first
               | (exfalso; omega; done)
               | (refine aw_blk oX12_dot_30 (pc' := 32) (ls' := [_, _, _, _, _]) (st' := [_]) (cs := []) rfl trivial ?_
                  refine aw_iret eX12_dot_32 rfl (Nat.le_refl _) (Nat.le_refl _) ?_
                  exact pe_i rfl rfl rfl)
             · first
               | (exfalso; omega; done)
               | (refine aw_blk oX12_dot_20 (pc' := 24) (ls' := [_, _, _, _, _]) (st' := [_, _, _]) (cs := []) rfl trivial ?_
                  refine aw_ciS (rest := []) (c_X12_in (by omega) (by omega) (by omega)) kX12_in eX12_dot_24 lX12_dot_24 rfl rfl (Nat.le_of_ble_eq_true rfl) ⟨Nat.le_of_ble_eq_true rfl, Nat.le_of_ble_eq_true rfl⟩ ⟨Nat.le_refl _, Nat.le_refl _⟩ ?_
                  refine aw_if_ne (tgt := 33) eX12_dot_27 (by decide) bt_r (fun hh => have h18 := bt1 hh; ?_) (fun hh => have h18 := bt0 hh; ?_)
                  · first
                    | (exfalso; omega; done)
                    | (refine aw_blk oX12_dot_33 (pc' := 60) (ls' := [_, _, _, _, _]) (st' := [_]) (cs := [(_, _), (_, _)]) rfl (⟨⟨by omega, by omega⟩, ⟨by omega, by omega⟩, trivial⟩) ?_
                       refine aw_iret eX12_dot_60 rfl (Nat.le_refl _) (Nat.le_refl _) ?_
                       exact pe_i rfl rfl rfl)
                  · first
                    | (exfalso; omega; done)
                    | (refine aw_blk oX12_dot_30 (pc' := 32) (ls' := [_, _, _, _, _]) (st' := [_]) (cs := []) rfl trivial ?_
                       refine aw_iret eX12_dot_32 rfl (Nat.le_refl _) (Nat.le_refl _) ?_
                       exact pe_i rfl rfl rfl)))
        · first
          | (exfalso; omega; done)
          | (refine aw_blk oX12_dot_8 (pc' := 9) (ls' := [_, _, _, _, _]) (st' := [_]) (cs := []) rfl trivial ?_
             refine aw_iret eX12_dot_9 rfl (Nat.le_refl _) (Nat.le_refl _) ?_
             exact pe_i rfl rfl rfl)
  · refine ⟨-1, μ, ν, μ, ?_, ?_, by decide, rfl, h, hc, SR.rf, fun _ _ => rfl⟩
    · refine AMet.of kX11_dot.1 (Nat.le_of_ble_eq_true rfl) rfl ?_
      refine aw_blk oX11_dot_0 (pc' := 5) (ls' := [_, _, _, _]) (st' := [_, _]) (cs := []) rfl trivial ?_
      refine aw_ciV (rest := []) (c_X3_has (by omega) (by omega)) kX3_has eX11_dot_5 lX11_dot_5 rfl rfl rfl rfl (Nat.le_of_ble_eq_true rfl) ⟨Nat.le_of_ble_eq_true rfl, Nat.le_of_ble_eq_true rfl⟩ ⟨Nat.le_refl _, Nat.le_refl _⟩ ?_
      refine aw_if_ne (tgt := 13) eX11_dot_8 (by decide) bt_r (fun hh => have h19 := bt1 hh; ?_) (fun hh => have h19 := bt0 hh; ?_)
      · first
        | (exfalso; omega; done)
        | (refine aw_blk oX11_dot_13 (pc' := 17) (ls' := [_, _, _, _]) (st' := [_, _, _]) (cs := []) rfl trivial ?_
           refine aw_ciS (rest := []) (c_X11_between (by omega) (by omega) (by omega)) kX11_between eX11_dot_17 lX11_dot_17 rfl rfl (Nat.le_of_ble_eq_true rfl) ⟨Nat.le_of_ble_eq_true rfl, Nat.le_of_ble_eq_true rfl⟩ ⟨Nat.le_refl _, Nat.le_refl _⟩ ?_
           refine aw_if_eq (tgt := 33) eX11_dot_20 (by decide) bt_r (fun hh => have h20 := bt0 hh; ?_) (fun hh => have h20 := bt1 hh; ?_)
           · first
             | (exfalso; omega; done)
             | (refine aw_blk oX11_dot_33 (pc' := 35) (ls' := [_, _, _, _]) (st' := [_]) (cs := []) rfl trivial ?_
                refine aw_iret eX11_dot_35 rfl (Nat.le_refl _) (Nat.le_refl _) ?_
                exact pe_i rfl rfl rfl)
           · first
             | (exfalso; omega; done)
             | (refine aw_blk oX11_dot_23 (pc' := 27) (ls' := [_, _, _, _]) (st' := [_, _, _]) (cs := []) rfl trivial ?_
                refine aw_ciS (rest := []) (c_X11_between (by omega) (by omega) (by omega)) kX11_between eX11_dot_27 lX11_dot_27 rfl rfl (Nat.le_of_ble_eq_true rfl) ⟨Nat.le_of_ble_eq_true rfl, Nat.le_of_ble_eq_true rfl⟩ ⟨Nat.le_refl _, Nat.le_refl _⟩ ?_
                refine aw_if_ne (tgt := 36) eX11_dot_30 (by decide) bt_r (fun hh => have h21 := bt1 hh; ?_) (fun hh => have h21 := bt0 hh; ?_)
                · first
                  | (exfalso; omega; done)
                  | (refine aw_blk oX11_dot_36 (pc' := 43) (ls' := [_, _, _, _]) (st' := [_, _, _, _]) (cs := []) rfl trivial ?_
                     refine aw_ciV (rest := []) (c_changeDot (by omega) (by omega) (by omega)) kX3_changeDot eX11_dot_43 lX11_dot_43 rfl rfl rfl rfl (Nat.le_of_ble_eq_true rfl) ⟨Nat.le_of_ble_eq_true rfl, Nat.le_of_ble_eq_true rfl⟩ ⟨Nat.le_refl _, Nat.le_refl _⟩ ?_
                     refine aw_iret eX11_dot_46 rfl (Nat.le_refl _) (Nat.le_refl _) ?_
                     exact pe_i rfl rfl rfl)
                · first
                  | (exfalso; omega; done)
                  | (refine aw_blk oX11_dot_33 (pc' := 35) (ls' := [_, _, _, _]) (st' := [_]) (cs := []) rfl trivial ?_
                     refine aw_iret eX11_dot_35 rfl (Nat.le_refl _) (Nat.le_refl _) ?_
                     exact pe_i rfl rfl rfl)))
      · first
        | (exfalso; omega; done)
        | (refine aw_blk oX11_dot_11 (pc' := 12) (ls' := [_, _, _, _]) (st' := [_]) (cs := []) rfl trivial ?_
           refine aw_iret eX11_dot_12 rfl (Nat.le_refl _) (Nat.le_refl _) ?_
           exact pe_i rfl rfl rfl)
    · refine AMet.of kX12_dot.1 (Nat.le_of_ble_eq_true rfl) rfl ?_
      refine aw_blk oX12_dot_0 (pc' := 2) (ls' := [_, _, _, _, _]) (st' := [_, _]) (cs := []) rfl trivial ?_
      refine aw_ciV (rest := []) (c_X12_isFrame (by omega) (by omega)) kX12_isFrame eX12_dot_2 lX12_dot_2 rfl rfl rfl rfl (Nat.le_of_ble_eq_true rfl) ⟨Nat.le_of_ble_eq_true rfl, Nat.le_of_ble_eq_true rfl⟩ ⟨Nat.le_refl _, Nat.le_refl _⟩ ?_
      refine aw_if_ne (tgt := 10) eX12_dot_5 (by decide) bt_r (fun hh => have h22 := bt1 hh; ?_) (fun hh => have h22 := bt0 hh; ?_)
      · first
        | (exfalso; omega; done)
        | (refine aw_blk oX12_dot_10 (pc' := 14) (ls' := [_, _, _, _, _]) (st' := [_, _, _]) (cs := []) rfl trivial ?_
           refine aw_ciS (rest := []) (c_X12_in (by omega) (by omega) (by omega)) kX12_in eX12_dot_14 lX12_dot_14 rfl rfl (Nat.le_of_ble_eq_true rfl) ⟨Nat.le_of_ble_eq_true rfl, Nat.le_of_ble_eq_true rfl⟩ ⟨Nat.le_refl _, Nat.le_refl _⟩ ?_
           refine aw_if_eq (tgt := 30) eX12_dot_17 (by decide) bt_r (fun hh => have h23 := bt0 hh; ?_) (fun hh => have h23 := bt1 hh; ?_)
           · first
             | (exfalso; omega; done)
             | (refine aw_blk oX12_dot_30 (pc' := 32) (ls' := [_, _, _, _, _]) (st' := [_]) (cs := []) rfl trivial ?_
                refine aw_iret eX12_dot_32 rfl (Nat.le_refl _) (Nat.le_refl _) ?_
                exact pe_i rfl rfl rfl)
           · first
             | (exfalso; omega; done)
             | (refine aw_blk oX12_dot_20 (pc' := 24) (ls' := [_, _, _, _, _]) (st' := [_, _, _]) (cs := []) rfl trivial ?_
                refine aw_ciS (rest := []) (c_X12_in (by omega) (by omega) (by omega)) kX12_in eX12_dot_24 lX12_dot_24 rfl rfl (Nat.le_of_ble_eq_true rfl) ⟨Nat.le_of_ble_eq_true rfl, Nat.le_of_ble_eq_true rfl⟩ ⟨Nat.le_refl _, Nat.le_refl _⟩ ?_
                refine aw_if_ne (tgt := 33) eX12_dot_27 (by decide) bt_r (fun hh => have h24 := bt1 hh; ?_) (fun hh => have h24 := bt0 hh; ?_)
                · first
                  | (exfalso; omega; done)
                  | (refine aw_blk oX12_dot_33 (pc' := 60) (ls' := [_, _, _, _, _]) (st' := [_]) (cs := [(_, _), (_, _)]) rfl (⟨⟨by omega, by omega⟩, ⟨by omega, by omega⟩, trivial⟩) ?_
                     refine aw_iret eX12_dot_60 rfl (Nat.le_refl _) (Nat.le_refl _) ?_
                     exact pe_i rfl rfl rfl)
                · first
                  | (exfalso; omega; done)
                  | (refine aw_blk oX12_dot_30 (pc' := 32) (ls' := [_, _, _, _, _]) (st' := [_]) (cs := []) rfl trivial ?_
                     refine aw_iret eX12_dot_32 rfl (Nat.le_refl _) (Nat.le_refl _) ?_
                     exact pe_i rfl rfl rfl)))
      · first
        | (exfalso; omega; done)
        | (refine aw_blk oX12_dot_8 (pc' := 9) (ls' := [_, _, _, _, _]) (st' := [_]) (cs := []) rfl trivial ?_
           refine aw_iret eX12_dot_9 rfl (Nat.le_refl _) (Nat.le_refl _) ?_
           exact pe_i rfl rfl rfl)
theorem c_changeKey {κ : KX} {μ : MM} {ν : ML} {f v : Int} (hf : 0 ≤ f ∧ f < 10) (hv : 0 ≤ v ∧ v ≤ 1) (hk : 0 ≤ μ 5 f ∧ μ 5 f ≤ 1) (hc : R32 (μ 2 8)) : AE κ 2 mX3_changeKey [aR 2, aI f, aI v] μ ν (some (aI (μ 5 f))) (up (up μ 5 f v) 2 8 (mn (μ 2 8) f)) ν := by
  have hc' : R32 (up μ 5 f v 2 8) := hc
  refine AMet.of kX3_changeKey.1 (Nat.le_of_ble_eq_true rfl) rfl ?_
  refine aw_blk oX3_changeKey_0 (pc' := 16) (ls' := [_, _, _, _]) (st' := [_, _]) (cs := [(_, _), (_, _), (_, _)]) rfl (⟨⟨by omega, by omega⟩, ⟨by omega, by omega⟩, ⟨by omega, by omega⟩, trivial⟩) ?_
  refine aw_cvV (rest := []) (c_forgetCuts (by omega) (by omega)) kX3_forgetCutsFrom eX3_changeKey_16 lX3_changeKey_16 rfl rfl rfl rfl (Nat.le_of_ble_eq_true rfl) ⟨Nat.le_of_ble_eq_true rfl, Nat.le_of_ble_eq_true rfl⟩ ⟨Nat.le_refl _, Nat.le_refl _⟩ ?_
  refine aw_blk oX3_changeKey_19 (pc' := 20) (ls' := [_, _, _, _]) (st' := [_]) (cs := []) rfl trivial ?_
  refine aw_zret eX3_changeKey_20 rfl (by omega) (Nat.le_refl _) (Nat.le_refl _) ?_
  exact pe_i rfl rfl rfl
theorem law_key {κ : KX} {μ : MM} {ν : ML} {f v : Int} (h : RF μ) (hc : RC μ) (hf : R32 f) (hv : 0 ≤ v ∧ v ≤ 1) : LawC κ mX11_key mX12_key [aI f, aI v] μ ν := by
  obtain ⟨a, b, c, dz, e⟩ := id h
  have r28 := hc.1
  by_cases c1 : 0 ≤ f ∧ f < μ 2 7
  · by_cases c2 : f = 0
    · refine ⟨-5, μ, ν, μ, ?_, ?_, by decide, rfl, h, hc, SR.rf, fun _ _ => rfl⟩
      · refine AMet.of kX11_key.1 (Nat.le_of_ble_eq_true rfl) rfl ?_
        refine aw_blk oX11_key_0 (pc' := 5) (ls' := [_, _, _]) (st' := [_, _]) (cs := []) rfl trivial ?_
        refine aw_ciV (rest := []) (c_X3_has (by omega) (by omega)) kX3_has eX11_key_5 lX11_key_5 rfl rfl rfl rfl (Nat.le_of_ble_eq_true rfl) ⟨Nat.le_of_ble_eq_true rfl, Nat.le_of_ble_eq_true rfl⟩ ⟨Nat.le_refl _, Nat.le_refl _⟩ ?_
        refine aw_if_ne (tgt := 13) eX11_key_8 (by decide) bt_r (fun hh => have h25 := bt1 hh; ?_) (fun hh => have h25 := bt0 hh; ?_)
        · first
          | (exfalso; omega; done)
          | (refine aw_blk oX11_key_13 (pc' := 14) (ls' := [_, _, _]) (st' := [_]) (cs := []) rfl trivial ?_
             refine aw_if_ne (tgt := 20) eX11_key_14 (by decide) (by omega) (fun h26 => ?_) (fun h26 => ?_)
             · first
               | (exfalso; omega; done)
               | (refine aw_blk oX11_key_20 (pc' := 26) (ls' := [_, _, _]) (st' := [_, _, _]) (cs := []) rfl trivial ?_
                  refine aw_ciV (rest := []) (c_changeKey (by omega) (by omega) (by omega) (by omega)) kX3_changeKey eX11_key_26 lX11_key_26 rfl rfl rfl rfl (Nat.le_of_ble_eq_true rfl) ⟨Nat.le_of_ble_eq_true rfl, Nat.le_of_ble_eq_true rfl⟩ ⟨Nat.le_refl _, Nat.le_refl _⟩ ?_
                  refine aw_if_eq (tgt := 36) eX11_key_29 (by decide) (by omega) (fun h27 => ?_) (fun h27 => ?_)
                  · first
                    | (exfalso; omega; done)
                    | (refine aw_blk oX11_key_36 (pc' := 37) (ls' := [_, _, _]) (st' := [_]) (cs := []) rfl trivial ?_
                       refine aw_iret eX11_key_37 rfl (Nat.le_refl _) (Nat.le_refl _) ?_
                       exact pe_i rfl rfl rfl)
                  · first
                    | (exfalso; omega; done)
                    | (refine aw_blk oX11_key_32 (pc' := 37) (ls' := [_, _, _]) (st' := [_]) (cs := []) rfl trivial ?_
                       refine aw_iret eX11_key_37 rfl (Nat.le_refl _) (Nat.le_refl _) ?_
                       exact pe_i rfl rfl rfl))
             · first
               | (exfalso; omega; done)
               | (refine aw_blk oX11_key_17 (pc' := 19) (ls' := [_, _, _]) (st' := [_]) (cs := []) rfl trivial ?_
                  refine aw_iret eX11_key_19 rfl (Nat.le_refl _) (Nat.le_refl _) ?_
                  exact pe_i rfl rfl rfl))
        · first
          | (exfalso; omega; done)
          | (refine aw_blk oX11_key_11 (pc' := 12) (ls' := [_, _, _]) (st' := [_]) (cs := []) rfl trivial ?_
             refine aw_iret eX11_key_12 rfl (Nat.le_refl _) (Nat.le_refl _) ?_
             exact pe_i rfl rfl rfl)
      · refine AMet.of kX12_key.1 (Nat.le_of_ble_eq_true rfl) rfl ?_
        refine aw_blk oX12_key_0 (pc' := 2) (ls' := [_, _, _, _]) (st' := [_, _]) (cs := []) rfl trivial ?_
        refine aw_ciV (rest := []) (c_X12_isFrame (by omega) (by omega)) kX12_isFrame eX12_key_2 lX12_key_2 rfl rfl rfl rfl (Nat.le_of_ble_eq_true rfl) ⟨Nat.le_of_ble_eq_true rfl, Nat.le_of_ble_eq_true rfl⟩ ⟨Nat.le_refl _, Nat.le_refl _⟩ ?_
        refine aw_if_ne (tgt := 10) eX12_key_5 (by decide) bt_r (fun hh => have h28 := bt1 hh; ?_) (fun hh => have h28 := bt0 hh; ?_)
        · first
          | (exfalso; omega; done)
          | (refine aw_blk oX12_key_10 (pc' := 11) (ls' := [_, _, _, _]) (st' := [_]) (cs := []) rfl trivial ?_
             refine aw_if_ne (tgt := 17) eX12_key_11 (by decide) (by omega) (fun h29 => ?_) (fun h29 => ?_)
             · first
               | (exfalso; omega; done)
               | (refine aw_blk oX12_key_17 (pc' := 23) (ls' := [_, _, _, _]) (st' := [_]) (cs := [(_, _)]) rfl (⟨⟨by omega, by omega⟩, trivial⟩) ?_
                  refine aw_if_eq (tgt := 30) eX12_key_23 (by decide) (by omega) (fun h30 => ?_) (fun h30 => ?_)
                  · first
                    | (exfalso; omega; done)
                    | (refine aw_blk oX12_key_30 (pc' := 31) (ls' := [_, _, _, _]) (st' := [_]) (cs := []) rfl trivial ?_
                       refine aw_blk oX12_key_31 (pc' := 40) (ls' := [_, _, _, _]) (st' := [_]) (cs := [(_, _), (_, _)]) rfl (⟨⟨by omega, by omega⟩, ⟨by omega, by omega⟩, trivial⟩) ?_
                       refine aw_iret eX12_key_40 rfl (Nat.le_refl _) (Nat.le_refl _) ?_
                       exact pe_i rfl rfl rfl)
                  · first
                    | (exfalso; omega; done)
                    | (refine aw_blk oX12_key_26 (pc' := 31) (ls' := [_, _, _, _]) (st' := [_]) (cs := []) rfl trivial ?_
                       refine aw_blk oX12_key_31 (pc' := 40) (ls' := [_, _, _, _]) (st' := [_]) (cs := [(_, _), (_, _)]) rfl (⟨⟨by omega, by omega⟩, ⟨by omega, by omega⟩, trivial⟩) ?_
                       refine aw_iret eX12_key_40 rfl (Nat.le_refl _) (Nat.le_refl _) ?_
                       exact pe_i rfl rfl rfl))
             · first
               | (exfalso; omega; done)
               | (refine aw_blk oX12_key_14 (pc' := 16) (ls' := [_, _, _, _]) (st' := [_]) (cs := []) rfl trivial ?_
                  refine aw_iret eX12_key_16 rfl (Nat.le_refl _) (Nat.le_refl _) ?_
                  exact pe_i rfl rfl rfl))
        · first
          | (exfalso; omega; done)
          | (refine aw_blk oX12_key_8 (pc' := 9) (ls' := [_, _, _, _]) (st' := [_]) (cs := []) rfl trivial ?_
             refine aw_iret eX12_key_9 rfl (Nat.le_refl _) (Nat.le_refl _) ?_
             exact pe_i rfl rfl rfl)
    · have g := c f (by omega) (by omega)
      have q := mn_sp (μ 2 8) f
      generalize hx : mn (μ 2 8) f = x at q
      obtain ⟨μ2, hμ2⟩ : ∃ m, m = up (up (up μ 5 f v) 2 8 x) 57 f v := ⟨_, rfl⟩
      have m28 : μ2 2 8 = x := by rw [hμ2]; rfl
      have m27 : μ2 2 7 = μ 2 7 := by rw [hμ2]; rfl
      have m5 : ∀ y : Int, y ≠ f → μ2 5 y = μ 5 y := fun y hy => by rw [hμ2, up_c (by decide), up_c (by decide), up_ne (Or.inr hy)]
      refine ⟨μ 5 f, up (up μ 5 f v) 2 8 x, ν, μ2, ?_, ?_, by omega, rfl, ⟨?_, ?_, ?_, ?_, ?_⟩, ⟨?_, ?_⟩, ?_, ?_⟩
      · rw [← hx]
        refine AMet.of kX11_key.1 (Nat.le_of_ble_eq_true rfl) rfl ?_
        refine aw_blk oX11_key_0 (pc' := 5) (ls' := [_, _, _]) (st' := [_, _]) (cs := []) rfl trivial ?_
        refine aw_ciV (rest := []) (c_X3_has (by omega) (by omega)) kX3_has eX11_key_5 lX11_key_5 rfl rfl rfl rfl (Nat.le_of_ble_eq_true rfl) ⟨Nat.le_of_ble_eq_true rfl, Nat.le_of_ble_eq_true rfl⟩ ⟨Nat.le_refl _, Nat.le_refl _⟩ ?_
        refine aw_if_ne (tgt := 13) eX11_key_8 (by decide) bt_r (fun hh => have h31 := bt1 hh; ?_) (fun hh => have h31 := bt0 hh; ?_)
        · first
          | (exfalso; omega; done)
          | (refine aw_blk oX11_key_13 (pc' := 14) (ls' := [_, _, _]) (st' := [_]) (cs := []) rfl trivial ?_
             refine aw_if_ne (tgt := 20) eX11_key_14 (by decide) (by omega) (fun h32 => ?_) (fun h32 => ?_)
             · first
               | (exfalso; omega; done)
               | (refine aw_blk oX11_key_20 (pc' := 26) (ls' := [_, _, _]) (st' := [_, _, _]) (cs := []) rfl trivial ?_
                  refine aw_ciV (rest := []) (c_changeKey (by omega) (by omega) (by omega) (by omega)) kX3_changeKey eX11_key_26 lX11_key_26 rfl rfl rfl rfl (Nat.le_of_ble_eq_true rfl) ⟨Nat.le_of_ble_eq_true rfl, Nat.le_of_ble_eq_true rfl⟩ ⟨Nat.le_refl _, Nat.le_refl _⟩ ?_
                  refine aw_if_eq (tgt := 36) eX11_key_29 (by decide) (by omega) (fun h33 => ?_) (fun h33 => ?_)
                  · first
                    | (exfalso; omega; done)
                    | (refine aw_blk oX11_key_36 (pc' := 37) (ls' := [_, _, _]) (st' := [_]) (cs := []) rfl trivial ?_
                       refine aw_iret eX11_key_37 rfl (Nat.le_refl _) (Nat.le_refl _) ?_
                       exact pe_i (by omega) rfl rfl)
                  · first
                    | (exfalso; omega; done)
                    | (refine aw_blk oX11_key_32 (pc' := 37) (ls' := [_, _, _]) (st' := [_]) (cs := []) rfl trivial ?_
                       refine aw_iret eX11_key_37 rfl (Nat.le_refl _) (Nat.le_refl _) ?_
                       exact pe_i (by omega) rfl rfl))
             · first
               | (exfalso; omega; done)
               | (refine aw_blk oX11_key_17 (pc' := 19) (ls' := [_, _, _]) (st' := [_]) (cs := []) rfl trivial ?_
                  refine aw_iret eX11_key_19 rfl (Nat.le_refl _) (Nat.le_refl _) ?_
                  exact pe_i (by omega) rfl rfl))
        · first
          | (exfalso; omega; done)
          | (refine aw_blk oX11_key_11 (pc' := 12) (ls' := [_, _, _]) (st' := [_]) (cs := []) rfl trivial ?_
             refine aw_iret eX11_key_12 rfl (Nat.le_refl _) (Nat.le_refl _) ?_
             exact pe_i (by omega) rfl rfl)
      · rw [hμ2]
        have a0 : up (up μ 5 f v) 2 8 x 55 0 = μ 2 7 := a.1
        have a57 : up (up μ 5 f v) 2 8 x 57 f = μ 5 f := g.1
        refine AMet.of kX12_key.1 (Nat.le_of_ble_eq_true rfl) rfl ?_
        refine aw_blk oX12_key_0 (pc' := 2) (ls' := [_, _, _, _]) (st' := [_, _]) (cs := []) rfl trivial ?_
        refine aw_ciV (rest := []) (c_X12_isFrame (by omega) (by omega)) kX12_isFrame eX12_key_2 lX12_key_2 rfl rfl rfl rfl (Nat.le_of_ble_eq_true rfl) ⟨Nat.le_of_ble_eq_true rfl, Nat.le_of_ble_eq_true rfl⟩ ⟨Nat.le_refl _, Nat.le_refl _⟩ ?_
        refine aw_if_ne (tgt := 10) eX12_key_5 (by decide) bt_r (fun hh => have h34 := bt1 hh; ?_) (fun hh => have h34 := bt0 hh; ?_)
        · first
          | (exfalso; omega; done)
          | (refine aw_blk oX12_key_10 (pc' := 11) (ls' := [_, _, _, _]) (st' := [_]) (cs := []) rfl trivial ?_
             refine aw_if_ne (tgt := 17) eX12_key_11 (by decide) (by omega) (fun h35 => ?_) (fun h35 => ?_)
             · first
               | (exfalso; omega; done)
               | (refine aw_blk oX12_key_17 (pc' := 23) (ls' := [_, _, _, _]) (st' := [_]) (cs := [(_, _)]) rfl (⟨⟨by omega, by omega⟩, trivial⟩) ?_
                  refine aw_if_eq (tgt := 30) eX12_key_23 (by decide) (by omega) (fun h36 => ?_) (fun h36 => ?_)
                  · first
                    | (exfalso; omega; done)
                    | (refine aw_blk oX12_key_30 (pc' := 31) (ls' := [_, _, _, _]) (st' := [_]) (cs := []) rfl trivial ?_
                       refine aw_blk oX12_key_31 (pc' := 40) (ls' := [_, _, _, _]) (st' := [_]) (cs := [(_, _), (_, _)]) rfl (⟨⟨by omega, by omega⟩, ⟨by omega, by omega⟩, trivial⟩) ?_
                       refine aw_iret eX12_key_40 rfl (Nat.le_refl _) (Nat.le_refl _) ?_
                       exact pe_i (by omega) rfl rfl)
                  · first
                    | (exfalso; omega; done)
                    | (refine aw_blk oX12_key_26 (pc' := 31) (ls' := [_, _, _, _]) (st' := [_]) (cs := []) rfl trivial ?_
                       refine aw_blk oX12_key_31 (pc' := 40) (ls' := [_, _, _, _]) (st' := [_]) (cs := [(_, _), (_, _)]) rfl (⟨⟨by omega, by omega⟩, ⟨by omega, by omega⟩, trivial⟩) ?_
                       refine aw_iret eX12_key_40 rfl (Nat.le_refl _) (Nat.le_refl _) ?_
                       exact pe_i (by omega) rfl rfl))
             · first
               | (exfalso; omega; done)
               | (refine aw_blk oX12_key_14 (pc' := 16) (ls' := [_, _, _, _]) (st' := [_]) (cs := []) rfl trivial ?_
                  refine aw_iret eX12_key_16 rfl (Nat.le_refl _) (Nat.le_refl _) ?_
                  exact pe_i (by omega) rfl rfl))
        · first
          | (exfalso; omega; done)
          | (refine aw_blk oX12_key_8 (pc' := 9) (ls' := [_, _, _, _]) (st' := [_]) (cs := []) rfl trivial ?_
             refine aw_iret eX12_key_9 rfl (Nat.le_refl _) (Nat.le_refl _) ?_
             exact pe_i (by omega) rfl rfl)
      · rw [m27]
        refine ⟨?_, a.2⟩
        rw [hμ2]; exact a.1
      · rw [hμ2]; exact b
      · refine c.up2' (i := f) (v := v) (by decide) hv.1 hv.2 ?_ ?_
        · rw [hμ2]; rfl
        · rw [hμ2]; rfl
      · rw [m27, hμ2]; exact dz
      · rw [m27, m5 0 (by omega)]; exact e
      · rw [m28, m27]; omega
      · intro k h0 h1
        rw [m28] at h1
        refine (hc.2 k h0 (by omega)).congr (fun y y0 y1 => ?_) ?_ (m5 k (by omega)) ?_ ?_ ?_ ?_ <;> rw [hμ2] <;> rfl
      · rw [hμ2]
        exact (((SR.rf.put (by decide)).put (by decide)).put (by decide))
      · intro j hj
        rw [hμ2]; rfl
  · refine ⟨-1, μ, ν, μ, ?_, ?_, by decide, rfl, h, hc, SR.rf, fun _ _ => rfl⟩
    · refine AMet.of kX11_key.1 (Nat.le_of_ble_eq_true rfl) rfl ?_
      refine aw_blk oX11_key_0 (pc' := 5) (ls' := [_, _, _]) (st' := [_, _]) (cs := []) rfl trivial ?_
      refine aw_ciV (rest := []) (c_X3_has (by omega) (by omega)) kX3_has eX11_key_5 lX11_key_5 rfl rfl rfl rfl (Nat.le_of_ble_eq_true rfl) ⟨Nat.le_of_ble_eq_true rfl, Nat.le_of_ble_eq_true rfl⟩ ⟨Nat.le_refl _, Nat.le_refl _⟩ ?_
      refine aw_if_ne (tgt := 13) eX11_key_8 (by decide) bt_r (fun hh => have h37 := bt1 hh; ?_) (fun hh => have h37 := bt0 hh; ?_)
      · first
        | (exfalso; omega; done)
        | (refine aw_blk oX11_key_13 (pc' := 14) (ls' := [_, _, _]) (st' := [_]) (cs := []) rfl trivial ?_
           refine aw_if_ne (tgt := 20) eX11_key_14 (by decide) (by omega) (fun h38 => ?_) (fun h38 => ?_)
           · first
             | (exfalso; omega; done)
             | (refine aw_blk oX11_key_20 (pc' := 26) (ls' := [_, _, _]) (st' := [_, _, _]) (cs := []) rfl trivial ?_
                refine aw_ciV (rest := []) (c_changeKey (by omega) (by omega) (by omega) (by omega)) kX3_changeKey eX11_key_26 lX11_key_26 rfl rfl rfl rfl (Nat.le_of_ble_eq_true rfl) ⟨Nat.le_of_ble_eq_true rfl, Nat.le_of_ble_eq_true rfl⟩ ⟨Nat.le_refl _, Nat.le_refl _⟩ ?_
                refine aw_if_eq (tgt := 36) eX11_key_29 (by decide) (by omega) (fun h39 => ?_) (fun h39 => ?_)
                · first
                  | (exfalso; omega; done)
                  | (refine aw_blk oX11_key_36 (pc' := 37) (ls' := [_, _, _]) (st' := [_]) (cs := []) rfl trivial ?_
                     refine aw_iret eX11_key_37 rfl (Nat.le_refl _) (Nat.le_refl _) ?_
                     exact pe_i rfl rfl rfl)
                · first
                  | (exfalso; omega; done)
                  | (refine aw_blk oX11_key_32 (pc' := 37) (ls' := [_, _, _]) (st' := [_]) (cs := []) rfl trivial ?_
                     refine aw_iret eX11_key_37 rfl (Nat.le_refl _) (Nat.le_refl _) ?_
                     exact pe_i rfl rfl rfl))
           · first
             | (exfalso; omega; done)
             | (refine aw_blk oX11_key_17 (pc' := 19) (ls' := [_, _, _]) (st' := [_]) (cs := []) rfl trivial ?_
                refine aw_iret eX11_key_19 rfl (Nat.le_refl _) (Nat.le_refl _) ?_
                exact pe_i rfl rfl rfl))
      · first
        | (exfalso; omega; done)
        | (refine aw_blk oX11_key_11 (pc' := 12) (ls' := [_, _, _]) (st' := [_]) (cs := []) rfl trivial ?_
           refine aw_iret eX11_key_12 rfl (Nat.le_refl _) (Nat.le_refl _) ?_
           exact pe_i rfl rfl rfl)
    · refine AMet.of kX12_key.1 (Nat.le_of_ble_eq_true rfl) rfl ?_
      refine aw_blk oX12_key_0 (pc' := 2) (ls' := [_, _, _, _]) (st' := [_, _]) (cs := []) rfl trivial ?_
      refine aw_ciV (rest := []) (c_X12_isFrame (by omega) (by omega)) kX12_isFrame eX12_key_2 lX12_key_2 rfl rfl rfl rfl (Nat.le_of_ble_eq_true rfl) ⟨Nat.le_of_ble_eq_true rfl, Nat.le_of_ble_eq_true rfl⟩ ⟨Nat.le_refl _, Nat.le_refl _⟩ ?_
      refine aw_if_ne (tgt := 10) eX12_key_5 (by decide) bt_r (fun hh => have h40 := bt1 hh; ?_) (fun hh => have h40 := bt0 hh; ?_)
      · first
        | (exfalso; omega; done)
        | (refine aw_blk oX12_key_10 (pc' := 11) (ls' := [_, _, _, _]) (st' := [_]) (cs := []) rfl trivial ?_
           refine aw_if_ne (tgt := 17) eX12_key_11 (by decide) (by omega) (fun h41 => ?_) (fun h41 => ?_)
           · first
             | (exfalso; omega; done)
             | (refine aw_blk oX12_key_17 (pc' := 23) (ls' := [_, _, _, _]) (st' := [_]) (cs := [(_, _)]) rfl (⟨⟨by omega, by omega⟩, trivial⟩) ?_
                refine aw_if_eq (tgt := 30) eX12_key_23 (by decide) (by omega) (fun h42 => ?_) (fun h42 => ?_)
                · first
                  | (exfalso; omega; done)
                  | (refine aw_blk oX12_key_30 (pc' := 31) (ls' := [_, _, _, _]) (st' := [_]) (cs := []) rfl trivial ?_
                     refine aw_blk oX12_key_31 (pc' := 40) (ls' := [_, _, _, _]) (st' := [_]) (cs := [(_, _), (_, _)]) rfl (⟨⟨by omega, by omega⟩, ⟨by omega, by omega⟩, trivial⟩) ?_
                     refine aw_iret eX12_key_40 rfl (Nat.le_refl _) (Nat.le_refl _) ?_
                     exact pe_i rfl rfl rfl)
                · first
                  | (exfalso; omega; done)
                  | (refine aw_blk oX12_key_26 (pc' := 31) (ls' := [_, _, _, _]) (st' := [_]) (cs := []) rfl trivial ?_
                     refine aw_blk oX12_key_31 (pc' := 40) (ls' := [_, _, _, _]) (st' := [_]) (cs := [(_, _), (_, _)]) rfl (⟨⟨by omega, by omega⟩, ⟨by omega, by omega⟩, trivial⟩) ?_
                     refine aw_iret eX12_key_40 rfl (Nat.le_refl _) (Nat.le_refl _) ?_
                     exact pe_i rfl rfl rfl))
           · first
             | (exfalso; omega; done)
             | (refine aw_blk oX12_key_14 (pc' := 16) (ls' := [_, _, _, _]) (st' := [_]) (cs := []) rfl trivial ?_
                refine aw_iret eX12_key_16 rfl (Nat.le_refl _) (Nat.le_refl _) ?_
                exact pe_i rfl rfl rfl))
      · first
        | (exfalso; omega; done)
        | (refine aw_blk oX12_key_8 (pc' := 9) (ls' := [_, _, _, _]) (st' := [_]) (cs := []) rfl trivial ?_
           refine aw_iret eX12_key_9 rfl (Nat.le_refl _) (Nat.le_refl _) ?_
           exact pe_i rfl rfl rfl)

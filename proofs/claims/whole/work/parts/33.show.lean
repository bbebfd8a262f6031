/-! ===== a show: what is asked ===== -/
abbrev WS := (Int × Int × Int × Int) × (Int × Int) × (Int → Int)
abbrev WS.seen (W : WS) : Int := W.1.1
abbrev WS.still (W : WS) : Int := W.1.2.1
abbrev WS.sum (W : WS) : Int := W.1.2.2.1
abbrev WS.last (W : WS) : Int := W.1.2.2.2
abbrev WS.whole (W : WS) : Int := W.2.1.1
abbrev WS.miss (W : WS) : Int := W.2.1.2
abbrev WS.row (W : WS) : Int → Int := W.2.2
abbrev FD := (Int → Int) × (Int → Int) × Int × Int × (Int → Int → Int → Int → Int)
abbrev FD.line (D : FD) : Int → Int := D.1
abbrev FD.bits (D : FD) : Int → Int := D.2.1
abbrev FD.cnt (D : FD) : Int := D.2.2.1
abbrev FD.start (D : FD) : Int := D.2.2.2.1
abbrev FD.ch (D : FD) : Int → Int → Int → Int → Int := D.2.2.2.2
def FD.ok (D : FD) : Prop := (1 ≤ D.cnt ∧ D.cnt ≤ 8) ∧ (1 ≤ D.start ∧ D.start ≤ 8) ∧ (∀ t : Int, 0 ≤ t → t < 60 → 0 ≤ D.line t ∧ D.line t ≤ 1000) ∧ (∀ i : Int, 0 ≤ i → i < 24 → 1 ≤ D.bits i ∧ D.bits i ≤ 1000) ∧ (∀ p seen t now : Int, 0 ≤ p → p < D.cnt → 0 ≤ seen → seen ≤ p → 0 ≤ t → t < 60 → 0 ≤ now → now ≤ 2 → 0 ≤ D.ch p seen t now ∧ D.ch p seen t now ≤ 2)
def nowOf (W : WS) : Int := if 0 < W.whole then W.row (W.whole - 1) else 0
def bgn (D : FD) (t : Int) (W : WS) : WS := (W.1, (W.whole, D.bits (W.whole * 3 + D.ch W.whole W.seen t (nowOf W))), rowU W.row W.whole (D.ch W.whole W.seen t (nowOf W)))
def bgnQ (D : FD) (t : Int) (W : WS) : WS := if W.miss = 0 then bgn D t W else W
def mn (a b : Int) : Int := if b < a then b else a
def tkn (left : Int) (W : WS) : WS := (W.1, (if W.miss - mn left W.miss = 0 then W.whole + 1 else W.whole, W.miss - mn left W.miss), W.row)
def lod (D : FD) (t : Int) : Nat → Int → WS → WS
  | 0, _, W => W
  | n + 1, left, W => if 0 < left ∧ W.whole < D.cnt then lod D t n (left - mn left (bgnQ D t W).miss) (tkn left (bgnQ D t W)) else W
def wat (D : FD) (t : Int) (W : WS) : WS := if W.whole ≤ W.seen then ((W.seen, W.still + 1, W.sum, W.last), W.2) else ((W.seen + 1, W.still, W.sum + W.row W.seen, if W.seen + 1 = D.cnt then t else W.last), W.2)
def wtc (D : FD) (t : Int) (W : WS) : WS := if mn D.start D.cnt ≤ W.whole then wat D t W else W
def shw (D : FD) : Nat → Int → WS → WS
  | 0, _, W => W
  | n + 1, t, W => if W.seen < D.cnt then shw D n (t + 1) (wtc D t (lod D t 8 (D.line t) W)) else W
def W0 : WS := ((0, 0, 0, -6), (0, 0), fun _ => -6)
def WI (D : FD) (W : WS) : Prop := (0 ≤ W.seen ∧ W.seen ≤ W.whole ∧ W.whole ≤ D.cnt) ∧ (0 ≤ W.miss ∧ W.miss ≤ 1000) ∧ (∀ i : Int, 0 ≤ i → i < W.whole → 0 ≤ W.row i ∧ W.row i ≤ 2) ∧ (∀ i : Int, W.whole < i → i < 8 → W.row i = -6) ∧ ((W.miss = 0 ∧ (W.whole < 8 → W.row W.whole = -6)) ∨ (0 < W.miss ∧ W.whole < D.cnt ∧ 0 ≤ W.row W.whole ∧ W.row W.whole ≤ 2))
/-- the answers' bounds, at second t -/
def WB (D : FD) (t : Int) (W : WS) : Prop := (0 ≤ W.still ∧ W.still ≤ t) ∧ (0 ≤ W.sum ∧ W.sum ≤ 2 * W.seen) ∧ (-6 ≤ W.last ∧ W.last ≤ 60) ∧ (W.seen < D.cnt → W.last = -6)
theorem rowU_at {f : Int → Int} {i v : Int} : rowU f i v i = v := by unfold rowU; rw [if_pos rfl]
theorem rowU_ne {f : Int → Int} {i v x : Int} (h : x ≠ i) : rowU f i v x = f x := by unfold rowU; rw [if_neg h]
theorem WI.now {D : FD} {W : WS} (h : WI D W) : 0 ≤ nowOf W ∧ nowOf W ≤ 2 := by
  unfold nowOf
  split
  · exact h.2.2.1 _ (by omega) (by omega)
  · decide
theorem WI_bgn {D : FD} {W : WS} {t : Int} (hD : D.ok) (h : WI D W) (ht : 0 ≤ t ∧ t < 60) (hw : W.whole < D.cnt) (hm : W.miss = 0) : WI D (bgn D t W) ∧ 0 < (bgn D t W).miss ∧ (0 ≤ D.ch W.whole W.seen t (nowOf W) ∧ D.ch W.whole W.seen t (nowOf W) ≤ 2) := by
  have hn := h.now
  obtain ⟨⟨a1, a2, a3⟩, b, c, d, e⟩ := h
  obtain ⟨o1, o2, o3, o4, o5⟩ := hD
  have hs := o5 W.whole W.seen t (nowOf W) (by omega) hw a1 a2 ht.1 ht.2 hn.1 hn.2
  have hb := o4 (W.whole * 3 + D.ch W.whole W.seen t (nowOf W)) (by omega) (by omega)
  refine ⟨⟨⟨a1, a2, a3⟩, ?_, ?_, ?_, Or.inr ⟨?_, hw, ?_⟩⟩, ?_, hs⟩
  · show 0 ≤ D.bits _ ∧ D.bits _ ≤ 1000
    omega
  · intro i h0 h1
    have h1 : i < W.whole := h1
    show 0 ≤ rowU W.row W.whole _ i ∧ rowU W.row W.whole _ i ≤ 2
    rw [rowU_ne (by omega)]; exact c i h0 h1
  · intro i h0 h1
    have h0 : W.whole < i := h0
    show rowU W.row W.whole _ i = -6
    rw [rowU_ne (by omega)]; exact d i h0 h1
  · show 0 < D.bits _
    omega
  · show 0 ≤ rowU W.row W.whole _ W.whole ∧ rowU W.row W.whole _ W.whole ≤ 2
    rw [rowU_at]; exact hs
  · show 0 < D.bits _
    omega
theorem bgnQ_same {D : FD} {W : WS} {t : Int} : (bgnQ D t W).whole = W.whole ∧ (bgnQ D t W).seen = W.seen ∧ (bgnQ D t W).still = W.still ∧ (bgnQ D t W).sum = W.sum ∧ (bgnQ D t W).last = W.last := by
  unfold bgnQ
  split <;> exact ⟨rfl, rfl, rfl, rfl, rfl⟩
theorem WI_bgnQ {D : FD} {W : WS} {t : Int} (hD : D.ok) (h : WI D W) (ht : 0 ≤ t ∧ t < 60) (hw : W.whole < D.cnt) : WI D (bgnQ D t W) ∧ 0 < (bgnQ D t W).miss := by
  unfold bgnQ
  split
  · rename_i e
    exact ⟨(WI_bgn hD h ht hw e).1, (WI_bgn hD h ht hw e).2.1⟩
  · exact ⟨h, by have := h.2.1; omega⟩
theorem mn_sp (a b : Int) : (mn a b = a ∧ a ≤ b) ∨ (mn a b = b ∧ b < a) := by
  unfold mn
  split <;> omega
theorem WI_tkn {D : FD} {W : WS} {left : Int} (hD : D.ok) (h : WI D W) (hm : 0 < W.miss) (hl : 0 < left) : WI D (tkn left W) := by
  obtain ⟨⟨a1, a2, a3⟩, b, c, d, e⟩ := h
  have hq := mn_sp left W.miss
  rcases e with ⟨e, -⟩ | ⟨e1, e2, e3⟩
  · omega
  by_cases k : W.miss - mn left W.miss = 0
  · have ew : (tkn left W).whole = W.whole + 1 := by unfold tkn; simp only [k, if_true]
    have em : (tkn left W).miss = 0 := k
    have o1 := hD.1
    refine ⟨?_, ?_, ?_, ?_, Or.inl ⟨em, ?_⟩⟩
    · rw [ew]
      show 0 ≤ W.seen ∧ W.seen ≤ _ ∧ _
      omega
    · rw [em]; decide
    · rw [ew]
      intro i h0 h1
      show 0 ≤ W.row i ∧ W.row i ≤ 2
      by_cases q : i = W.whole
      · rw [q]; exact e3
      · exact c i h0 (by omega)
    · rw [ew]
      intro i h0 h1
      exact d i (by omega) h1
    · rw [ew]
      intro h8
      exact d (W.whole + 1) (by omega) h8
  · have ew : (tkn left W).whole = W.whole := by unfold tkn; simp only [k, if_false]
    have em : (tkn left W).miss = W.miss - mn left W.miss := rfl
    refine ⟨?_, ?_, ?_, ?_, Or.inr ⟨?_, ?_, ?_⟩⟩
    · rw [ew]; exact ⟨a1, a2, a3⟩
    · rw [em]; omega
    · rw [ew]; exact c
    · rw [ew]; exact d
    · rw [em]; omega
    · rw [ew]; exact e2
    · rw [ew]; exact e3
theorem lod_stop {D : FD} {t left : Int} {W : WS} (h : ¬ (0 < left ∧ W.whole < D.cnt)) : ∀ n : Nat, lod D t n left W = W
  | 0 => rfl
  | n + 1 => by rw [lod, if_neg h]
theorem lod_inv {D : FD} {t : Int} (hD : D.ok) (ht : 0 ≤ t ∧ t < 60) : ∀ (n : Nat) (left : Int) (W : WS), 0 ≤ left → WI D W → WI D (lod D t n left W) ∧ (lod D t n left W).seen = W.seen ∧ (lod D t n left W).still = W.still ∧ (lod D t n left W).sum = W.sum ∧ (lod D t n left W).last = W.last ∧ W.whole ≤ (lod D t n left W).whole
  | 0, _, W, _, h => ⟨h, rfl, rfl, rfl, rfl, Int.le_refl _⟩
  | n + 1, left, W, hl, h => by
    rw [lod]
    split
    · rename_i k
      have B := WI_bgnQ hD h ht k.2
      have S := bgnQ_same (D := D) (W := W) (t := t)
      have q := mn_sp left (bgnQ D t W).miss
      have R := lod_inv hD ht n (left - mn left (bgnQ D t W).miss) (tkn left (bgnQ D t W)) (by omega) (WI_tkn hD B.1 B.2 k.1)
      have ew : (bgnQ D t W).whole ≤ (tkn left (bgnQ D t W)).whole := by
        unfold tkn
        show (bgnQ D t W).whole ≤ if (bgnQ D t W).miss - mn left (bgnQ D t W).miss = 0 then (bgnQ D t W).whole + 1 else (bgnQ D t W).whole
        split <;> omega
      have e1 : (tkn left (bgnQ D t W)).seen = W.seen := S.2.1
      have e2 : (tkn left (bgnQ D t W)).still = W.still := S.2.2.1
      have e3 : (tkn left (bgnQ D t W)).sum = W.sum := S.2.2.2.1
      have e4 : (tkn left (bgnQ D t W)).last = W.last := S.2.2.2.2
      exact ⟨R.1, R.2.1.trans e1, R.2.2.1.trans e2, R.2.2.2.1.trans e3, R.2.2.2.2.1.trans e4, by omega⟩
    · exact ⟨h, rfl, rfl, rfl, rfl, Int.le_refl _⟩
theorem wtc_inv {D : FD} {t : Int} {W : WS} (hD : D.ok) (ht : 0 ≤ t ∧ t < 60) (h : WI D W) (hb : WB D t W) (hs : W.seen < D.cnt) : WI D (wtc D t W) ∧ WB D (t + 1) (wtc D t W) ∧ (wtc D t W).whole = W.whole := by
  obtain ⟨⟨a1, a2, a3⟩, b, c, d, e⟩ := id h
  obtain ⟨b1, b2, b3, b4⟩ := id hb
  unfold wtc
  split
  · unfold wat
    split
    · refine ⟨⟨⟨a1, a2, a3⟩, b, c, d, e⟩, ⟨?_, b2, b3, b4⟩, rfl⟩
      show 0 ≤ W.still + 1 ∧ W.still + 1 ≤ t + 1
      omega
    · have r := c W.seen a1 (by omega)
      refine ⟨⟨⟨?_, ?_, a3⟩, b, c, d, e⟩, ⟨?_, ?_, ?_, ?_⟩, rfl⟩
      · show 0 ≤ W.seen + 1; omega
      · show W.seen + 1 ≤ W.whole; omega
      · show 0 ≤ W.still ∧ W.still ≤ t + 1; omega
      · show 0 ≤ W.sum + W.row W.seen ∧ W.sum + W.row W.seen ≤ 2 * (W.seen + 1); omega
      · show -6 ≤ (if W.seen + 1 = D.cnt then t else W.last) ∧ (if W.seen + 1 = D.cnt then t else W.last) ≤ 60
        split <;> omega
      · intro q
        have q : W.seen + 1 < D.cnt := q
        show (if W.seen + 1 = D.cnt then t else W.last) = -6
        rw [if_neg (by omega)]; exact b4 hs
  · exact ⟨h, ⟨by omega, b2, b3, b4⟩, rfl⟩
theorem shw_inv {D : FD} (hD : D.ok) : ∀ (n : Nat) (t : Int) (W : WS), 0 ≤ t → t + n = 60 → WI D W → WB D t W → WI D (shw D n t W) ∧ WB D 60 (shw D n t W)
  | 0, t, W, _, hn, h, hb => by
    rw [show t = 60 by omega] at hb
    exact ⟨h, hb⟩
  | n + 1, t, W, h0, hn, h, hb => by
    rw [shw]
    split
    · rename_i k
      have hl := (hD.2.2.1 t h0 (by omega)).1
      have L := lod_inv hD ⟨h0, by omega⟩ 8 (D.line t) W hl h
      have B : WB D t (lod D t 8 (D.line t) W) := by
        unfold WB
        rw [L.2.1, L.2.2.1, L.2.2.2.1, L.2.2.2.2.1]
        exact hb
      have C := wtc_inv hD ⟨h0, by omega⟩ L.1 B (by rw [L.2.1]; exact k)
      exact shw_inv hD n (t + 1) _ (by omega) (by omega) C.1 C.2.1
    · refine ⟨h, ?_⟩
      obtain ⟨b1, b2, b3, b4⟩ := hb
      exact ⟨by omega, b2, b3, b4⟩
theorem WI.w0 {D : FD} (hD : D.ok) : WI D W0 := ⟨⟨Int.le_refl 0, Int.le_refl 0, by have := hD.1; show (0 : Int) ≤ _; omega⟩, ⟨Int.le_refl 0, by decide⟩, fun i h0 h1 => by have h1 : i < 0 := h1; omega, fun _ _ _ => rfl, Or.inl ⟨rfl, fun _ => rfl⟩⟩
theorem WB.w0 {D : FD} : WB D 0 W0 := ⟨⟨Int.le_refl 0, Int.le_refl 0⟩, ⟨Int.le_refl 0, by decide⟩, ⟨by decide, by decide⟩, fun _ => rfl⟩
/-! how the class holds it -/
def eC (μ : MM) (W : WS) : Prop := μ 23 1 = W.seen ∧ μ 23 2 = W.still ∧ μ 23 3 = W.sum ∧ μ 23 4 = W.last ∧ μ 23 5 = W.whole ∧ μ 23 6 = W.miss ∧ ∀ i : Int, 0 ≤ i → i < 8 → μ 24 i = W.row i
abbrev dor (d p : Int) : Prop := p = 0 ∨ bitk d p = 1
def fdS (μ : MM) : FD := ⟨μ 15, μ 16, μ 14 2, μ 1 2, fun p seen t now => if dor (μ 14 3) p then pk μ (p - seen) (if t = 0 then 0 else μ 15 (t - 1)) now p (μ 17 6).toNat 0 else now⟩
/-- what a show leans on -/
def FS (μ : MM) : Prop := RFi μ ∧ RA μ ∧ (1 ≤ μ 1 2 ∧ μ 1 2 ≤ 8 ∧ μ 58 2 = μ 1 2)
theorem FS.ok {μ : MM} (h : FS μ) : (fdS μ).ok := by
  obtain ⟨⟨a, b, c, d⟩, r, s⟩ := h
  refine ⟨a.2, ⟨s.1, s.2.1⟩, fun t h0 h1 => (d t h0 h1).2, fun i h0 h1 => (c i h0 h1).2, ?_⟩
  intro p seen t now h1 h2 h3 h4 h5 h6 h7 h8
  have e : (fdS μ).ch p seen t now = if dor (μ 14 3) p then pk μ (p - seen) (if t = 0 then 0 else μ 15 (t - 1)) now p (μ 17 6).toNat 0 else now := rfl
  rw [e]
  have := pk_bd (w := p - seen) (l := if t = 0 then 0 else μ 15 (t - 1)) (z := now) (k := p) r.kc (μ 17 6).toNat 0 (by omega) (by have := r.kc.1; omega)
  split
  · exact this
  · exact ⟨h7, h8⟩
theorem c_isDoor {κ : KX} {μ : MM} {ν : ML} {p : Int} (hp : R32 p) : AE κ 0 mX2_isDoor [aR 14, aI p] μ ν (some (aI (if dor (μ 14 3) p then 1 else 0))) μ ν := by
  refine AMet.of kX2_isDoor.1 (Nat.le_of_ble_eq_true rfl) rfl ?_
  refine aw_blk oX2_isDoor_0 (pc' := 1) (ls' := [_, _]) (st' := [_]) (cs := []) rfl trivial ?_
  refine aw_if_eq (tgt := 16) eX2_isDoor_1 (by decide) (by first | exact bitk_R (μ 14 3) p | omega) (fun h1 => ?_) (fun h1 => ?_)
  · first
    | (exfalso; omega; done)
    | (refine aw_blk oX2_isDoor_16 (pc' := 21) (ls' := [_, _]) (st' := [_]) (cs := []) rfl trivial ?_
       refine aw_zret eX2_isDoor_21 rfl (by first | exact bitk_R (μ 14 3) p | omega) (Nat.le_refl _) (Nat.le_refl _) ?_
       exact pe_i (by first | rw [if_pos (Or.inl (by assumption))] | rw [if_pos (Or.inr (by assumption))] | (rw [if_neg (fun q => by rcases q with q | q <;> contradiction)])) rfl rfl)
  · first
    | (exfalso; omega; done)
    | (refine aw_blk oX2_isDoor_4 (pc' := 13) (ls' := [_, _]) (st' := [_, _]) (cs := []) rfl trivial ?_
       refine aw_icmp_ne (tgt := 20) eX2_isDoor_13 (by decide) (by first | exact bitk_R (μ 14 3) p | omega) (by first | exact bitk_R (μ 14 3) p | omega) (fun h2 => ?_) (fun h2 => ?_)
       · first
         | (exfalso; omega; done)
         | (refine aw_blk oX2_isDoor_20 (pc' := 21) (ls' := [_, _]) (st' := [_]) (cs := []) rfl trivial ?_
            refine aw_zret eX2_isDoor_21 rfl (by first | exact bitk_R (μ 14 3) p | omega) (Nat.le_refl _) (Nat.le_refl _) ?_
            exact pe_i (by first | rw [if_pos (Or.inl (by assumption))] | rw [if_pos (Or.inr (by assumption))] | (rw [if_neg (fun q => by rcases q with q | q <;> contradiction)])) rfl rfl)
       · first
         | (exfalso; omega; done)
         | (refine aw_blk oX2_isDoor_16 (pc' := 21) (ls' := [_, _]) (st' := [_]) (cs := []) rfl trivial ?_
            refine aw_zret eX2_isDoor_21 rfl (by first | exact bitk_R (μ 14 3) p | omega) (Nat.le_refl _) (Nat.le_refl _) ?_
            exact pe_i (by first | rw [if_pos (Or.inl (by assumption))] | rw [if_pos (Or.inr (by assumption))] | (rw [if_neg (fun q => by rcases q with q | q <;> contradiction)])) rfl rfl))
theorem c_bitsOf {κ : KX} {μ : MM} {ν : ML} {p s : Int} (hp : 0 ≤ p ∧ p < 8) (hs : 0 ≤ s ∧ s < 3) : AE κ 0 mX2_bitsOf [aR 14, aI p, aI s] μ ν (some (aI (μ 16 (p * 3 + s)))) μ ν := by
  refine AMet.of kX2_bitsOf.1 (Nat.le_of_ble_eq_true rfl) rfl ?_
  refine aw_blk oX2_bitsOf_0 (pc' := 10) (ls' := [_, _, _]) (st' := [_]) (cs := [(_, _)]) rfl (⟨⟨by omega, by omega⟩, trivial⟩) ?_
  refine aw_iret eX2_bitsOf_10 rfl (Nat.le_refl _) (Nat.le_refl _) ?_
  exact pe_i rfl rfl rfl

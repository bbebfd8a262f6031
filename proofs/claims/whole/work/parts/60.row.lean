/-! ===== BEST: the show of a row ===== -/
def ps (g : Int → Int) : Nat → Int
  | 0 => 0
  | n + 1 => ps g n + g n
def psI (g : Int → Int) (i : Int) : Int := ps g i.toNat
theorem psI_0 {g : Int → Int} : psI g 0 = 0 := rfl
theorem psI_s {g : Int → Int} {i : Int} (h : 0 ≤ i) : psI g (i + 1) = psI g i + g i := by
  unfold psI
  rw [show (i + 1).toNat = i.toNat + 1 by omega, ps, show ((i.toNat : Nat) : Int) = i by omega]
theorem psI_up {g : Int → Int} {a b N : Int} (h : ∀ q : Int, 0 ≤ q → q < N → a ≤ g q ∧ g q ≤ b) {i : Int} (hi : 0 ≤ i) : ∀ (n : Nat), i + n ≤ N → psI g i + a * n ≤ psI g (i + n) ∧ psI g (i + n) ≤ psI g i + b * n := by
  intro n
  induction n with
  | zero => intro _; rw [show i + ((0 : Nat) : Int) = i by omega]; simp
  | succ n ih =>
    intro hn
    have A := ih (by omega)
    have G := h (i + n) (by omega) (by omega)
    have e := psI_s (g := g) (i := i + n) (by omega)
    rw [show i + ((n + 1 : Nat) : Int) = i + n + 1 by omega, e, show ((n + 1 : Nat) : Int) = (n : Int) + 1 by omega, Int.mul_add, Int.mul_add, Int.mul_one, Int.mul_one]
    omega
theorem psI_mono {g : Int → Int} {a b N : Int} (h : ∀ q : Int, 0 ≤ q → q < N → a ≤ g q ∧ g q ≤ b) {i j : Int} (hi : 0 ≤ i) (hij : i ≤ j) (hj : j ≤ N) : psI g i + a * (j - i) ≤ psI g j ∧ psI g j ≤ psI g i + b * (j - i) := by
  have := psI_up h hi (j - i).toNat (by omega)
  rw [show (((j - i).toNat : Nat) : Int) = j - i by omega, show i + (j - i) = j by omega] at this
  exact this
theorem psI_congr {g g' : Int → Int} {N : Int} (h : ∀ q : Int, 0 ≤ q → q < N → g' q = g q) : ∀ n : Nat, (n : Int) ≤ N → ps g' n = ps g n
  | 0, _ => rfl
  | n + 1, hn => by rw [ps, ps, psI_congr h n (by omega), h n (by omega) (by omega)]
/-- the first second by whose end b bits have come -/
def isW (c : Int → Int) (b a : Int) : Prop := 0 ≤ a ∧ a ≤ 60 ∧ (a < 60 → b ≤ c (a + 1)) ∧ ∀ t : Int, 0 ≤ t → t < a → c (t + 1) < b
def fsa (c : Int → Int) (b : Int) : Nat → Int → Int
  | 0, t => t
  | n + 1, t => if c (t + 1) < b then fsa c b n (t + 1) else t
theorem fsa_W {c : Int → Int} {b : Int} : ∀ (n : Nat) (t : Int), 0 ≤ t → t + n = 60 → (∀ x : Int, 0 ≤ x → x < t → c (x + 1) < b) → isW c b (fsa c b n t)
  | 0, t, h0, hn, hx => ⟨h0, by show t ≤ 60; omega, fun q => by have q : t < 60 := q; omega, hx⟩
  | n + 1, t, h0, hn, hx => by
    rw [fsa]
    split
    · rename_i q
      refine fsa_W n (t + 1) (by omega) (by omega) (fun x x0 x1 => ?_)
      by_cases e : x = t
      · rw [e]; exact q
      · exact hx x x0 (by omega)
    · rename_i q
      exact ⟨h0, by omega, fun _ => by omega, hx⟩
theorem isW.uniq {c : Int → Int} {b a a' : Int} (h : isW c b a) (h' : isW c b a') : a' = a := by
  obtain ⟨h0, h1, h2, h3⟩ := h
  obtain ⟨g0, g1, g2, g3⟩ := h'
  rcases (show a' < a ∨ a' = a ∨ a < a' by omega) with k | k | k
  · have := h3 a' g0 k; have := g2 (by omega); omega
  · exact k
  · have := g3 a h0 k; have := h2 (by omega); omega
def Cm (D : FD) (t : Int) : Int := psI D.line t
def Bw (D : FD) (w : Int → Int) (i : Int) : Int := psI (fun q => D.bits (q * 3 + w q)) i
def RWD (D : FD) (w : Int → Int) : Prop := D.ok ∧ (∀ p s t n : Int, D.ch p s t n = w p) ∧ ∀ p : Int, 0 ≤ p → p < D.cnt → 0 ≤ w p ∧ w p ≤ 2
theorem Cm_mono {D : FD} (hD : D.ok) {i j : Int} (hi : 0 ≤ i) (hij : i ≤ j) (hj : j ≤ 60) : Cm D i ≤ Cm D j ∧ Cm D j ≤ Cm D i + 1000 * (j - i) := by
  have := psI_mono (g := D.line) (a := 0) (b := 1000) (N := 60) hD.2.2.1 hi hij hj
  unfold Cm
  omega
theorem Bw_mono {D : FD} {w : Int → Int} (h : RWD D w) {i j : Int} (hi : 0 ≤ i) (hij : i ≤ j) (hj : j ≤ D.cnt) : Bw D w i + (j - i) ≤ Bw D w j ∧ Bw D w j ≤ Bw D w i + 1000 * (j - i) := by
  have o1 := h.1.1
  have := psI_mono (g := fun q => D.bits (q * 3 + w q)) (a := 1) (b := 1000) (N := D.cnt) (fun q q0 q1 => by
    have := h.2.2 q q0 q1
    exact h.1.2.2.2.1 (q * 3 + w q) (by omega) (by omega)) hi hij hj
  unfold Bw
  omega
def wtA (D : FD) (w : Int → Int) (p : Int) : Int := fsa (Cm D) (Bw D w (p + 1)) 60 0
theorem wtA_W {D : FD} {w : Int → Int} {p : Int} : isW (Cm D) (Bw D w (p + 1)) (wtA D w p) := fsa_W 60 0 (by omega) (by omega) (fun x x0 x1 => by omega)
theorem isW.le {D : FD} (hD : D.ok) {b a t : Int} (h : isW (Cm D) b a) (h0 : 0 ≤ t) (h1 : t < 60) : (a ≤ t ∧ b ≤ Cm D (t + 1)) ∨ (t < a ∧ Cm D (t + 1) < b) := by
  obtain ⟨a0, a1, a2, a3⟩ := h
  by_cases k : a ≤ t
  · have := a2 (by omega)
    have := Cm_mono hD (i := a + 1) (j := t + 1) (by omega) (by omega) (by omega)
    exact Or.inl ⟨k, by omega⟩
  · exact Or.inr ⟨by omega, a3 t h0 (by omega)⟩
def ndd (D : FD) : Int := mn D.start D.cnt
def fsT (D : FD) (w : Int → Int) : Int := wtA D w (ndd D - 1)
def sAN (D : FD) (w : Int → Int) : Nat → Int
  | 0 => fsT D w
  | n + 1 => mx (wtA D w (n + 1)) (sAN D w n + 1)
def sA (D : FD) (w : Int → Int) (i : Int) : Int := sAN D w i.toNat
theorem sA_0 {D : FD} {w : Int → Int} : sA D w 0 = fsT D w := rfl
theorem sA_s {D : FD} {w : Int → Int} {i : Int} (h : 0 ≤ i) : sA D w (i + 1) = mx (wtA D w (i + 1)) (sA D w i + 1) := by
  unfold sA
  rw [show (i + 1).toNat = i.toNat + 1 by omega, sAN, show ((i.toNat : Nat) : Int) = i by omega]
theorem sA_up {D : FD} {w : Int → Int} {i : Int} (hi : 0 ≤ i) : ∀ n : Nat, sA D w i + n ≤ sA D w (i + n)
  | 0 => by rw [show i + ((0 : Nat) : Int) = i by omega]; omega
  | n + 1 => by
    have A := sA_up (D := D) (w := w) hi n
    have q := mx_sp (wtA D w (i + n + 1)) (sA D w (i + n) + 1)
    rw [show i + ((n + 1 : Nat) : Int) = i + n + 1 by omega, sA_s (by omega)]
    omega
theorem sA_mono {D : FD} {w : Int → Int} {i j : Int} (hi : 0 ≤ i) (hij : i ≤ j) : sA D w i + (j - i) ≤ sA D w j := by
  have := sA_up (D := D) (w := w) hi (j - i).toNat
  rw [show (((j - i).toNat : Nat) : Int) = j - i by omega, show i + (j - i) = j by omega] at this
  exact this
theorem ndd_bd {D : FD} (hD : D.ok) : 1 ≤ ndd D ∧ ndd D ≤ D.cnt ∧ D.cnt ≤ 8 := by
  have := hD.1
  have := hD.2.1
  have := mn_sp D.start D.cnt
  unfold ndd
  omega
theorem wtA_mono {D : FD} {w : Int → Int} (h : RWD D w) {i j : Int} (hi : 0 ≤ i) (hij : i ≤ j) (hj : j < D.cnt) : wtA D w i ≤ wtA D w j := by
  obtain ⟨a0, a1, a2, a3⟩ := wtA_W (D := D) (w := w) (p := i)
  obtain ⟨b0, b1, b2, b3⟩ := wtA_W (D := D) (w := w) (p := j)
  have := Bw_mono h (i := i + 1) (j := j + 1) (by omega) (by omega) (by omega)
  rcases (show wtA D w i ≤ wtA D w j ∨ wtA D w j < wtA D w i by omega) with k | k
  · exact k
  · have := a3 _ b0 k
    have := b2 (by omega)
    omega
/-- up to the first second of the show the pieces are seen one by one -/
theorem sA_lo {D : FD} {w : Int → Int} (h : RWD D w) : ∀ (n : Nat), (n : Int) < ndd D → sA D w n = fsT D w + n
  | 0, _ => by rw [show ((0 : Nat) : Int) = 0 by rfl, sA_0]; omega
  | n + 1, hn => by
    have A := sA_lo h n (by omega)
    have nb := ndd_bd h.1
    have q := mx_sp (wtA D w ((n : Int) + 1)) (sA D w n + 1)
    have m := wtA_mono h (i := (n : Int) + 1) (j := ndd D - 1) (by omega) (by omega) (by omega)
    have e : fsT D w = wtA D w (ndd D - 1) := rfl
    rw [show ((n + 1 : Nat) : Int) = (n : Int) + 1 by omega, sA_s (by omega)]
    omega
/-- what has come and what is whole, behind c bits -/
def LdS (D : FD) (w : Int → Int) (c : Int) (W : WS) : Prop := (0 ≤ W.whole ∧ W.whole ≤ D.cnt) ∧ Bw D w W.whole ≤ c ∧ (W.whole < D.cnt → c < Bw D w (W.whole + 1)) ∧ ((W.miss = 0 ∧ (W.whole = D.cnt ∨ c = Bw D w W.whole)) ∨ (W.whole < D.cnt ∧ Bw D w W.whole < c ∧ W.miss = Bw D w (W.whole + 1) - c)) ∧ ∀ i : Int, 0 ≤ i → i < 8 → W.row i = if i < D.cnt ∧ Bw D w i < c then w i else -6
theorem LdS.up {D : FD} {w : Int → Int} {c c' : Int} {W : WS} (hR : RWD D w) (h : LdS D w c W) (he : W.whole = D.cnt) (hc : c ≤ c') : LdS D w c' W := by
  obtain ⟨a, b, d, e, f⟩ := h
  refine ⟨a, by omega, fun q => by omega, Or.inl ⟨?_, Or.inl he⟩, fun i h0 h1 => ?_⟩
  · rcases e with e | e
    · exact e.1
    · omega
  · rw [f i h0 h1]
    by_cases k : i < D.cnt
    · have := Bw_mono hR h0 (show i ≤ W.whole by omega) (by omega)
      rw [if_pos ⟨k, by omega⟩, if_pos ⟨k, by omega⟩]
    · rw [if_neg (fun q => k q.1), if_neg (fun q => k q.1)]
theorem LdS.wh {D : FD} {w : Int → Int} {c : Int} {W : WS} (hR : RWD D w) (h : LdS D w c W) {p : Int} (h0 : 0 ≤ p) (h1 : p < D.cnt) : (p < W.whole ∧ Bw D w (p + 1) ≤ c) ∨ (W.whole ≤ p ∧ c < Bw D w (p + 1)) := by
  obtain ⟨a, b, d, e, f⟩ := h
  by_cases k : p < W.whole
  · have := Bw_mono hR (i := p + 1) (j := W.whole) (by omega) (by omega) (by omega)
    exact Or.inl ⟨k, by omega⟩
  · have := Bw_mono hR (i := W.whole + 1) (j := p + 1) (by omega) (by omega) (by omega)
    have := d (by omega)
    exact Or.inr ⟨by omega, by omega⟩
theorem lod_LS {D : FD} {w : Int → Int} {t : Int} (hR : RWD D w) : ∀ (n : Nat) (left c : Int) (W : WS), LdS D w c W → 0 ≤ left → (left = 0 ∨ D.cnt ≤ W.whole + n) → LdS D w (c + left) (lod D t n left W)
  | 0, left, c, W, h, h0, hn => by
    rw [lod]
    by_cases k : left = 0
    · rw [k, show c + 0 = c by omega]; exact h
    · exact h.up hR (by have := h.1; omega) (by omega)
  | n + 1, left, c, W, h, h0, hn => by
    rw [lod]
    split
    · rename_i k
      obtain ⟨a, b, d, e, f⟩ := id h
      have e1 := psI_s (g := fun q => D.bits (q * 3 + w q)) (i := W.whole) a.1
      have hB1 : Bw D w (W.whole + 1) = Bw D w W.whole + D.bits (W.whole * 3 + w W.whole) := e1
      have hd := d k.2
      obtain ⟨V, hV⟩ : ∃ V, V = bgnQ D t W := ⟨_, rfl⟩
      rw [← hV]
      have vw : V.whole = W.whole := by rw [hV]; exact bgnQ_same.1
      have vm : V.miss = Bw D w (W.whole + 1) - c := by
        rw [hV]
        unfold bgnQ
        rcases e with ⟨e, e'⟩ | ⟨e, e', e2⟩
        · rw [if_pos e]
          show D.bits (W.whole * 3 + D.ch W.whole W.seen t (nowOf W)) = _
          rw [hR.2.1]
          omega
        · rw [if_neg (by omega)]
          exact e2
      have vr : ∀ i : Int, 0 ≤ i → i < 8 → V.row i = if i ≤ W.whole then w i else -6 := fun i i0 i1 => by
        have F := f i i0 i1
        have lo : i < W.whole → Bw D w i < c := fun q => by
          have := Bw_mono hR (i := i) (j := W.whole) i0 (by omega) (by omega)
          omega
        have hi : W.whole < i → i < D.cnt → ¬ Bw D w i < c := fun q q2 => by
          have := Bw_mono hR (i := W.whole + 1) (j := i) (by omega) (by omega) (by omega)
          omega
        have gen : i ≠ W.whole → W.row i = if i ≤ W.whole then w i else -6 := fun ne => by
          rw [F]
          by_cases q : i < W.whole
          · rw [if_pos ⟨by omega, lo q⟩, if_pos (by omega)]
          · rw [if_neg (fun z => hi (by omega) z.1 z.2), if_neg (by omega)]
        rw [hV]
        unfold bgnQ
        rcases e with ⟨e, e'⟩ | ⟨e, e', e2⟩
        · rw [if_pos e]
          show rowU W.row W.whole (D.ch W.whole W.seen t (nowOf W)) i = _
          rw [hR.2.1]
          by_cases q : i = W.whole
          · rw [q, rowU_at, if_pos (by omega)]
          · rw [rowU_ne q]; exact gen q
        · rw [if_neg (by omega)]
          by_cases q : i = W.whole
          · subst q
            rw [F, if_pos ⟨k.2, e'⟩, if_pos (by omega)]
          · exact gen q
      have q := mn_sp left V.miss
      have B2 := fun i (i0 : 0 ≤ i) (i1 : i ≤ W.whole) => Bw_mono hR (i := i) (j := W.whole + 1) i0 (by omega) (by omega)
      have T : LdS D w (c + mn left V.miss) (tkn left V) ∧ (left - mn left V.miss = 0 ∨ D.cnt ≤ (tkn left V).whole + n) := by
        by_cases z : V.miss - mn left V.miss = 0
        · have ew : (tkn left V).whole = W.whole + 1 := by unfold tkn; simp only [z, if_true]; show V.whole + 1 = W.whole + 1; omega
          have em : (tkn left V).miss = 0 := z
          refine ⟨⟨?_, ?_, ?_, Or.inl ⟨em, ?_⟩, ?_⟩, ?_⟩
          · rw [ew]; omega
          · rw [ew]; omega
          · rw [ew]
            intro q2
            have := Bw_mono hR (i := W.whole + 1) (j := W.whole + 1 + 1) (by omega) (by omega) (by omega)
            omega
          · rw [ew]; exact Or.inr (by omega)
          · intro i i0 i1
            show V.row i = _
            rw [vr i i0 i1]
            by_cases q2 : i ≤ W.whole
            · have := B2 i i0 q2
              rw [if_pos q2, if_pos ⟨by omega, by omega⟩]
            · rw [if_neg q2, if_neg (fun q3 => ?_)]
              have := Bw_mono hR (i := W.whole + 1) (j := i) (by omega) (by omega) (by omega)
              omega
          · rw [ew]; omega
        · have ew : (tkn left V).whole = W.whole := by unfold tkn; simp only [z, if_false]; exact vw
          have em : (tkn left V).miss = V.miss - mn left V.miss := rfl
          refine ⟨⟨?_, ?_, ?_, Or.inr ⟨?_, ?_, ?_⟩, ?_⟩, ?_⟩
          · rw [ew]; omega
          · rw [ew]; omega
          · rw [ew]; omega
          · rw [ew]; omega
          · rw [ew]; omega
          · rw [em, ew]; omega
          · intro i i0 i1
            show V.row i = _
            rw [vr i i0 i1]
            by_cases q2 : i ≤ W.whole
            · have : Bw D w i ≤ Bw D w W.whole := by
                have := Bw_mono hR (i := i) (j := W.whole) i0 (by omega) (by omega)
                omega
              rw [if_pos q2, if_pos ⟨by omega, by omega⟩]
            · rw [if_neg q2, if_neg (fun q3 => ?_)]
              have := Bw_mono hR (i := W.whole + 1) (j := i) (by omega) (by omega) (by omega)
              omega
          · left; omega
      have R := lod_LS (t := t) hR n (left - mn left V.miss) (c + mn left V.miss) (tkn left V) T.1 (by omega) T.2
      rw [show c + mn left V.miss + (left - mn left V.miss) = c + left by omega] at R
      exact R
    · rename_i k
      by_cases k2 : left = 0
      · rw [k2, show c + 0 = c by omega]; exact h
      · exact h.up hR (by have := h.1; omega) (by omega)
/-- what has been seen ahead of second t -/
def WT (D : FD) (w : Int → Int) (t : Int) (W : WS) : Prop := (t ≤ fsT D w ∧ W.seen = 0 ∧ W.still = 0 ∧ W.sum = 0 ∧ W.last = -6) ∨ (fsT D w < t ∧ (1 ≤ W.seen ∧ W.seen ≤ D.cnt) ∧ sA D w (W.seen - 1) < t ∧ W.sum = psI w W.seen ∧ ((W.seen < D.cnt ∧ t ≤ sA D w W.seen ∧ W.still = t - fsT D w - W.seen ∧ W.last = -6) ∨ (W.seen = D.cnt ∧ W.still = sA D w (D.cnt - 1) + 1 - fsT D w - D.cnt ∧ W.last = sA D w (D.cnt - 1))))
theorem wat_WT {D : FD} {w : Int → Int} {t : Int} {W : WS} (hR : RWD D w) (h0 : 0 ≤ t) (h1 : t < 60) (hL : LdS D w (Cm D (t + 1)) W) (hW : WT D w t W) (hs : 0 ≤ W.seen ∧ W.seen < D.cnt) (hrow : W.seen < W.whole → W.row W.seen = w W.seen) : WT D w (t + 1) (wtc D t W) := by
  have nd := ndd_bd hR.1
  have F : isW (Cm D) (Bw D w (ndd D - 1 + 1)) (fsT D w) := wtA_W
  have f1 := F.le hR.1 h0 h1
  have w1 := hL.wh hR (p := ndd D - 1) (by omega) (by omega)
  have sW := (wtA_W (D := D) (w := w) (p := W.seen)).le hR.1 h0 h1
  have w2 := hL.wh hR (p := W.seen) hs.1 hs.2
  unfold wtc
  by_cases g : ndd D ≤ W.whole
  · rw [if_pos (show mn D.start D.cnt ≤ W.whole from g)]
    have ft : fsT D w ≤ t := by omega
    unfold wat
    by_cases k : W.whole ≤ W.seen
    · rw [if_pos k]
      have tw : t < wtA D w W.seen := by omega
      rcases hW with ⟨a1, a2, a3, a4, a5⟩ | ⟨a1, a2, a3, a4, a5⟩
      · omega
      · rcases a5 with ⟨b1, b2, b3, b4⟩ | ⟨b1, b2⟩
        · have e := sA_s (D := D) (w := w) (i := W.seen - 1) (by omega)
          have q := mx_sp (wtA D w (W.seen - 1 + 1)) (sA D w (W.seen - 1) + 1)
          rw [show W.seen - 1 + 1 = W.seen by omega] at e q
          refine Or.inr ⟨by omega, a2, ?_, a4, Or.inl ⟨b1, ?_, ?_, b4⟩⟩
          · show sA D w (W.seen - 1) < t + 1
            omega
          · show t + 1 ≤ sA D w W.seen
            omega
          · show W.still + 1 = t + 1 - fsT D w - W.seen
            omega
        · omega
    · rw [if_neg k]
      have tw : wtA D w W.seen ≤ t := by omega
      have hr := hrow (by omega)
      have es : sA D w W.seen = t := by
        rcases hW with ⟨a1, a2, a3, a4, a5⟩ | ⟨a1, a2, a3, a4, a5⟩
        · rw [a2, sA_0]; omega
        · rcases a5 with ⟨b1, b2, b3, b4⟩ | ⟨b1, b2⟩
          · have e := sA_s (D := D) (w := w) (i := W.seen - 1) (by omega)
            have q := mx_sp (wtA D w (W.seen - 1 + 1)) (sA D w (W.seen - 1) + 1)
            rw [show W.seen - 1 + 1 = W.seen by omega] at e q
            omega
          · omega
      have up := sA_mono (D := D) (w := w) (i := W.seen) (j := W.seen + 1) hs.1 (by omega)
      have esum := psI_s (g := w) (i := W.seen) hs.1
      have st : W.still = t - fsT D w - W.seen ∧ W.sum = psI w W.seen ∧ W.last = -6 := by
        rcases hW with ⟨a1, a2, a3, a4, a5⟩ | ⟨a1, a2, a3, a4, a5⟩
        · rw [a2]
          refine ⟨by omega, ?_, a5⟩
          rw [a4]; rfl
        · rcases a5 with ⟨b1, b2, b3, b4⟩ | ⟨b1, b2⟩
          · exact ⟨b3, a4, b4⟩
          · omega
      refine Or.inr ⟨by omega, ?_, ?_, ?_, ?_⟩
      · show 1 ≤ W.seen + 1 ∧ W.seen + 1 ≤ D.cnt
        omega
      · show sA D w (W.seen + 1 - 1) < t + 1
        rw [show W.seen + 1 - 1 = W.seen by omega]
        omega
      · show W.sum + W.row W.seen = psI w (W.seen + 1)
        omega
      · by_cases z : W.seen + 1 = D.cnt
        · refine Or.inr ⟨z, ?_, ?_⟩
          · show W.still = _
            rw [← z, show W.seen + 1 - 1 = W.seen by omega]
            omega
          · show (if W.seen + 1 = D.cnt then t else W.last) = _
            rw [if_pos z, ← z, show W.seen + 1 - 1 = W.seen by omega]
            omega
        · refine Or.inl ⟨?_, ?_, ?_, ?_⟩
          · show W.seen + 1 < D.cnt
            omega
          · show t + 1 ≤ sA D w (W.seen + 1)
            omega
          · show W.still = t + 1 - fsT D w - (W.seen + 1)
            omega
          · show (if W.seen + 1 = D.cnt then t else W.last) = -6
            rw [if_neg z]
            exact st.2.2
  · rw [if_neg (show ¬ mn D.start D.cnt ≤ W.whole from g)]
    have ft : t < fsT D w := by omega
    rcases hW with ⟨a1, a2⟩ | ⟨a1, a2⟩
    · exact Or.inl ⟨by omega, a2⟩
    · omega
theorem shw_fin {D : FD} {w : Int → Int} (hR : RWD D w) : ∀ (n : Nat) (t : Int) (W : WS), 0 ≤ t → t + n = 60 → WI D W → WB D t W → LdS D w (Cm D t) W → WT D w t W → LdS D w (Cm D 60) (shw D n t W) ∧ WT D w 60 (shw D n t W)
  | 0, t, W, h0, hn, hI, hB, hL, hT => by
    have e : t = 60 := by omega
    subst e
    exact ⟨hL, hT⟩
  | n + 1, t, W, h0, hn, hI, hB, hL, hT => by
    rw [shw]
    by_cases k : W.seen < D.cnt
    · rw [if_pos k]
      have hl := (hR.1.2.2.1 t h0 (by omega)).1
      have L := lod_inv hR.1 ⟨h0, by omega⟩ 8 (D.line t) W hl hI
      have nd := ndd_bd hR.1
      have L2 := lod_LS (t := t) hR 8 (D.line t) (Cm D t) W hL hl (Or.inr (by have := hL.1; omega))
      have e : Cm D t + D.line t = Cm D (t + 1) := (psI_s (g := D.line) h0).symm
      rw [e] at L2
      generalize lod D t 8 (D.line t) W = V at L L2
      have hT' : WT D w t V := by
        unfold WT
        rw [L.2.1, L.2.2.1, L.2.2.2.1, L.2.2.2.2.1]
        exact hT
      have B : WB D t V := by
        unfold WB
        rw [L.2.1, L.2.2.1, L.2.2.2.1, L.2.2.2.2.1]
        exact hB
      have C := wtc_inv hR.1 ⟨h0, by omega⟩ L.1 B (by rw [L.2.1]; exact k)
      have hrow : V.seen < V.whole → V.row V.seen = w V.seen := fun q => by
        have a := L2.1
        have i := L.1.1
        have := Bw_mono hR (i := V.seen) (j := V.whole) (by omega) (by omega) (by omega)
        have b := L2.2.1
        rw [L2.2.2.2.2 V.seen (by omega) (by omega), if_pos ⟨by omega, by omega⟩]
      have T := wat_WT hR h0 (by omega) L2 hT' ⟨by have := L.1.1; omega, by rw [L.2.1]; exact k⟩ hrow
      have LL : LdS D w (Cm D (t + 1)) (wtc D t V) := by
        have em : (wtc D t V).2 = V.2 := by
          unfold wtc wat
          split
          · split <;> rfl
          · rfl
        have e1 : (wtc D t V).miss = V.miss := congrArg (fun x => x.1.2) em
        have e2 : (wtc D t V).row = V.row := congrArg (fun x => x.2) em
        unfold LdS
        rw [C.2.2, e1, e2]
        exact L2
      exact shw_fin hR n (t + 1) _ (by omega) (by omega) C.1 C.2.1 LL T
    · rw [if_neg k]
      have i := hI.1
      have c := Cm_mono hR.1 (i := t) (j := 60) h0 (by omega) (by omega)
      refine ⟨hL.up hR (by omega) c.1, ?_⟩
      rcases hT with ⟨a1, a2, a3⟩ | ⟨a1, a2, a3, a4, a5⟩
      · have := hR.1.1
        omega
      · rcases a5 with ⟨b1, b2⟩ | b
        · omega
        · exact Or.inr ⟨by omega, a2, by omega, a4, Or.inr b⟩
theorem row_fin {D : FD} {w : Int → Int} (hR : RWD D w) : LdS D w (Cm D 60) (shw D 60 0 W0) ∧ WT D w 60 (shw D 60 0 W0) := by
  have o := hR.1.1
  have F : isW (Cm D) (Bw D w (ndd D - 1 + 1)) (fsT D w) := wtA_W
  refine shw_fin hR 60 0 W0 (by omega) (by omega) (WI.w0 hR.1) WB.w0 ⟨⟨Int.le_refl _, by show (0 : Int) ≤ D.cnt; omega⟩, Int.le_refl _, fun q => ?_, Or.inl ⟨rfl, Or.inr rfl⟩, fun i i0 i1 => ?_⟩ (Or.inl ⟨F.1, rfl, rfl, rfl, rfl⟩)
  · have q : (0 : Int) < D.cnt := q
    have := Bw_mono hR (i := 0) (j := 1) (by omega) (by omega) (by omega)
    have e0 : Bw D w 0 = 0 := rfl
    show (0 : Int) < Bw D w (0 + 1)
    rw [show (0 : Int) + 1 = 1 by omega]
    omega
  · show (-6 : Int) = _
    rw [if_neg (fun q => ?_)]
    have := Bw_mono hR (i := 0) (j := i) (by omega) i0 (by omega)
    have e0 : Bw D w 0 = 0 := rfl
    have e1 : Cm D 0 = 0 := rfl
    omega

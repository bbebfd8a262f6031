/-! ===== BEST: the best of all rows ===== -/
abbrev FV := (Int × Int × Int × Int) × (Int → Int)
def vw (W : WS) : FV := (W.1, fun i => if 0 ≤ i ∧ i < 8 then W.row i else 0)
def nb (a b : FV) : Bool := decide (b.1.1 < a.1.1 ∨ (a.1.1 = b.1.1 ∧ (a.1.2.1 < b.1.2.1 ∨ (a.1.2.1 = b.1.2.1 ∧ b.1.2.2.1 ≤ a.1.2.2.1))))
theorem nb1 {a b : FV} (h : nb a b = true) : b.1.1 < a.1.1 ∨ (a.1.1 = b.1.1 ∧ (a.1.2.1 < b.1.2.1 ∨ (a.1.2.1 = b.1.2.1 ∧ b.1.2.2.1 ≤ a.1.2.2.1))) := of_decide_eq_true h
theorem nb0 {a b : FV} (h : nb a b = false) : ¬ (b.1.1 < a.1.1 ∨ (a.1.1 = b.1.1 ∧ (a.1.2.1 < b.1.2.1 ∨ (a.1.2.1 = b.1.2.1 ∧ b.1.2.2.1 ≤ a.1.2.2.1)))) := of_decide_eq_false h
theorem nb_t {a b : FV} (h : b.1.1 < a.1.1 ∨ (a.1.1 = b.1.1 ∧ (a.1.2.1 < b.1.2.1 ∨ (a.1.2.1 = b.1.2.1 ∧ b.1.2.2.1 ≤ a.1.2.2.1)))) : nb a b = true := decide_eq_true h
theorem nb_f {a b : FV} (h : ¬ (b.1.1 < a.1.1 ∨ (a.1.1 = b.1.1 ∧ (a.1.2.1 < b.1.2.1 ∨ (a.1.2.1 = b.1.2.1 ∧ b.1.2.2.1 ≤ a.1.2.2.1))))) : nb a b = false := decide_eq_false h
theorem nb_rf {a : FV} : nb a a = true := nb_t (by omega)
theorem nb_tr {a b c : FV} (h : nb a b = true) (h2 : nb b c = true) : nb a c = true := by
  have := nb1 h
  have := nb1 h2
  exact nb_t (by omega)
theorem nb_tot {a b : FV} (h : nb a b = false) : nb b a = true := by
  have := nb0 h
  exact nb_t (by omega)
def ud (F V : FV) : FV := if nb V F = true then V else F
theorem ud_idem {F V : FV} : ud (ud F V) V = ud F V := by
  unfold ud
  by_cases h : nb V F = true
  · rw [if_pos h, if_pos nb_rf]
  · rw [if_neg h, if_neg h]
def dn (S : Int → FV) : Nat → Int → FV → FV
  | 0, _, F => F
  | n + 1, lo, F => dn S n lo (ud F (S (lo + n)))
theorem dn_add {S : Int → FV} {a : Nat} {lo : Int} : ∀ (b : Nat) (F : FV), dn S (a + b) lo F = dn S a lo (dn S b (lo + a) F)
  | 0, _ => rfl
  | b + 1, F => by
    rw [show a + (b + 1) = (a + b) + 1 by omega, dn, dn, dn_add b, show lo + ((a + b : Nat) : Int) = lo + a + b by omega]
theorem dn_same {S : Int → FV} {V : FV} {lo : Int} : ∀ (n : Nat) (F : FV), (∀ c : Int, lo ≤ c → c < lo + (n + 1 : Nat) → S c = V) → dn S (n + 1) lo F = ud F V
  | 0, F, h => by rw [dn, h (lo + (0 : Nat)) (by omega) (by omega)]; rfl
  | n + 1, F, h => by
    rw [dn, h (lo + (n + 1 : Nat)) (by omega) (by omega), dn_same n _ (fun c c0 c1 => h c c0 (by omega)), ud_idem]
theorem dn_skip {S : Int → FV} {lo : Int} {F : FV} : ∀ (n : Nat), (∀ c : Int, lo ≤ c → c < lo + n → nb (S c) F = false) → dn S n lo F = F
  | 0, _ => rfl
  | n + 1, h => by
    have e : ud F (S (lo + n)) = F := by
      unfold ud
      rw [if_neg (by rw [h (lo + n) (by omega) (by omega)]; decide)]
    rw [dn, e, dn_skip n (fun c c0 c1 => h c c0 (by omega))]
theorem dn_nb {S : Int → FV} {X : FV} {lo : Int} : ∀ (n : Nat) (F : FV), nb X F = true → (∀ c : Int, lo ≤ c → c < lo + n → nb X (S c) = true) → nb X (dn S n lo F) = true
  | 0, _, h, _ => h
  | n + 1, F, h, hc => by
    rw [dn]
    refine dn_nb n _ ?_ (fun c c0 c1 => hc c c0 (by omega))
    unfold ud
    split
    · exact hc (lo + n) (by omega) (by omega)
    · exact h
theorem dn_best {S : Int → FV} {F : FV} {C b : Nat} (hb : b < C) (h1 : ∀ c : Int, 0 ≤ c → c < C → nb (S b) (S c) = true) (h2 : ∀ c : Int, 0 ≤ c → c < b → nb (S c) (S b) = false) (h0 : nb (S b) F = true) : dn S C 0 F = S b := by
  obtain ⟨r, rfl⟩ : ∃ r, C = (b + 1) + r := ⟨C - (b + 1), by omega⟩
  have k := dn_nb (S := S) (X := S b) (lo := 0 + ((b + 1 : Nat) : Int)) r F h0 (fun c c0 c1 => h1 c (by omega) (by omega))
  rw [dn_add]
  generalize dn S r (0 + ((b + 1 : Nat) : Int)) F = F1 at k ⊢
  have e : ud F1 (S (0 + (b : Int))) = S b := by
    rw [show (0 : Int) + (b : Int) = b by omega]
    unfold ud
    rw [if_pos k]
  rw [dn, e, dn_skip b (fun c c0 c1 => h2 c c0 (by omega))]
def FB (F : FV) : Prop := (0 ≤ F.1.1 ∧ F.1.1 ≤ 8) ∧ (0 ≤ F.1.2.1 ∧ F.1.2.1 ≤ 60) ∧ (0 ≤ F.1.2.2.1 ∧ F.1.2.2.1 ≤ 16) ∧ (-6 ≤ F.1.2.2.2 ∧ F.1.2.2.2 ≤ 60) ∧ ∀ i : Int, 0 ≤ i → i < 8 → -6 ≤ F.2 i ∧ F.2 i ≤ 2
theorem ud_FB {F V : FV} (h : FB F) (h2 : FB V) : FB (ud F V) := by
  unfold ud
  split
  · exact h2
  · exact h
theorem dn_FB {S : Int → FV} {lo : Int} : ∀ (n : Nat) (F : FV), FB F → (∀ c : Int, lo ≤ c → c < lo + n → FB (S c)) → FB (dn S n lo F)
  | 0, _, h, _ => h
  | n + 1, F, h, hc => by
    rw [dn]
    exact dn_FB n _ (ud_FB h (hc (lo + n) (by omega) (by omega))) (fun c c0 c1 => hc c c0 (by omega))
def rD (D : FD) (w : Int → Int) : FD := (D.1, D.2.1, D.2.2.1, D.2.2.2.1, fun p _ _ _ => w p)
def okW (D : FD) (w : Int → Int) : Prop := ∀ p : Int, 0 ≤ p → p < D.cnt → 0 ≤ w p ∧ w p ≤ 2
def SW (D : FD) (w : Int → Int) : FV := vw (shw (rD D w) 60 0 W0)
theorem rD_ok {D : FD} {w : Int → Int} (hD : D.ok) (hw : okW D w) : (rD D w).ok := ⟨hD.1, hD.2.1, hD.2.2.1, hD.2.2.2.1, fun p _ _ _ h0 h1 _ _ _ _ _ _ => hw p h0 h1⟩
theorem rwd {D : FD} {w : Int → Int} (hD : D.ok) (hw : okW D w) : RWD (rD D w) w := ⟨rD_ok hD hw, fun _ _ _ _ => rfl, hw⟩
theorem Bw_m {D : FD} {w : Int → Int} (hD : D.ok) (hw : okW D w) {i j : Int} (hi : 0 ≤ i) (hij : i ≤ j) (hj : j ≤ D.cnt) : Bw D w i + (j - i) ≤ Bw D w j ∧ Bw D w j ≤ Bw D w i + 1000 * (j - i) := Bw_mono (rwd hD hw) hi hij hj
theorem wtA_m {D : FD} {w : Int → Int} (hD : D.ok) (hw : okW D w) {i j : Int} (hi : 0 ≤ i) (hij : i ≤ j) (hj : j < D.cnt) : wtA D w i ≤ wtA D w j := wtA_mono (rwd hD hw) hi hij hj
theorem sAN_rD {D : FD} {w v : Int → Int} : ∀ n : Nat, sAN (rD D v) w n = sAN D w n
  | 0 => rfl
  | n + 1 => by
    rw [sAN, sAN, sAN_rD n]
    rfl
theorem sA_l {D : FD} {w : Int → Int} (hD : D.ok) (hw : okW D w) {n : Int} (h0 : 0 ≤ n) (hn : n < ndd D) : sA D w n = fsT D w + n := by
  have e : sA (rD D w) w n = sA D w n := sAN_rD _
  have := sA_lo (rwd hD hw) n.toNat (by show ((n.toNat : Nat) : Int) < ndd D; omega)
  rw [show ((n.toNat : Nat) : Int) = n by omega, e] at this
  exact this
def WT4 (D : FD) (w : Int → Int) (seen still sum last : Int) : Prop := (60 ≤ fsT D w ∧ seen = 0 ∧ still = 0 ∧ sum = 0 ∧ last = -6) ∨ (fsT D w < 60 ∧ (1 ≤ seen ∧ seen ≤ D.cnt) ∧ sA D w (seen - 1) < 60 ∧ sum = psI w seen ∧ ((seen < D.cnt ∧ 60 ≤ sA D w seen ∧ still = 60 - fsT D w - seen ∧ last = -6) ∨ (seen = D.cnt ∧ still = sA D w (D.cnt - 1) + 1 - fsT D w - D.cnt ∧ last = sA D w (D.cnt - 1))))
def FIN (D : FD) (w : Int → Int) (v : FV) : Prop := (∀ i : Int, 0 ≤ i → i < 8 → v.2 i = if i < D.cnt ∧ Bw D w i < Cm D 60 then w i else -6) ∧ (∀ i : Int, ¬ (0 ≤ i ∧ i < 8) → v.2 i = 0) ∧ WT4 D w v.1.1 v.1.2.1 v.1.2.2.1 v.1.2.2.2
theorem SW_fin {D : FD} {w : Int → Int} (hD : D.ok) (hw : okW D w) : FIN D w (SW D w) := by
  obtain ⟨h1, h2⟩ := row_fin (rwd hD hw)
  refine ⟨fun i i0 i1 => ?_, fun i hi => ?_, ?_⟩
  · show (if 0 ≤ i ∧ i < 8 then (shw (rD D w) 60 0 W0).row i else 0) = _
    rw [if_pos ⟨i0, i1⟩]
    exact h1.2.2.2.2 i i0 i1
  · show (if 0 ≤ i ∧ i < 8 then (shw (rD D w) 60 0 W0).row i else 0) = 0
    rw [if_neg hi]
  · have e : ∀ x : Int, sA (rD D w) w x = sA D w x := fun x => sAN_rD _
    unfold WT at h2
    rw [e, e, e] at h2
    exact h2
theorem SW_FB {D : FD} {w : Int → Int} (hD : D.ok) (hw : okW D w) : FB (SW D w) := by
  obtain ⟨h1, h2⟩ := shw_inv (rD_ok hD hw) 60 0 W0 (by omega) (by omega) (WI.w0 (rD_ok hD hw)) WB.w0
  obtain ⟨f1, f2, f3⟩ := SW_fin hD hw
  have o := hD.1
  have a := h1.1
  obtain ⟨b1, b2, b3, b4⟩ := h2
  have e : (rD D w).cnt = D.cnt := rfl
  refine ⟨?_, b1, ?_, b3, fun i i0 i1 => ?_⟩
  · show 0 ≤ (shw (rD D w) 60 0 W0).seen ∧ (shw (rD D w) 60 0 W0).seen ≤ 8
    omega
  · show 0 ≤ (shw (rD D w) 60 0 W0).sum ∧ (shw (rD D w) 60 0 W0).sum ≤ 16
    omega
  · rw [f1 i i0 i1]
    split
    · rename_i q
      have := hw i i0 q.1
      omega
    · decide
theorem FIN.nb0 {D : FD} {w : Int → Int} {v : FV} (h : FIN D w v) : nb v (vw W0) = true := by
  have e1 : (vw W0).1.1 = 0 := rfl
  have e2 : (vw W0).1.2.1 = 0 := rfl
  have e3 : (vw W0).1.2.2.1 = 0 := rfl
  rcases h.2.2 with ⟨-, a, b, c, -⟩ | ⟨-, a, -⟩
  · exact nb_t (by omega)
  · exact nb_t (by omega)
/-- rows with one begin have one show -/
theorem fin_uniq {D : FD} {w w' : Int → Int} {v v' : FV} {b : Int} (hD : D.ok) (hw : okW D w) (hw' : okW D w') (hb : 0 ≤ b ∧ b ≤ D.cnt) (ha : ∀ p : Int, 0 ≤ p → p < b → w' p = w p) (hc : b = D.cnt ∨ Cm D 60 ≤ Bw D w b) (h : FIN D w v) (h' : FIN D w' v') : v' = v := by
  have o := hD.1
  have nd := ndd_bd hD
  have eB : ∀ i : Int, 0 ≤ i → i ≤ b → Bw D w' i = Bw D w i := fun i i0 i1 => psI_congr (N := b) (fun q q0 q1 => by show D.bits (q * 3 + w' q) = D.bits (q * 3 + w q); rw [ha q q0 q1]) i.toNat (by omega)
  have far : ∀ (u : Int → Int), okW D u → (∀ i : Int, 0 ≤ i → i ≤ b → Bw D u i = Bw D w i) → ∀ p : Int, b ≤ p → p < D.cnt → wtA D u p = 60 := fun u hu hB p p0 p1 => by
    obtain ⟨a0, a1, a2, a3⟩ := wtA_W (D := D) (w := u) (p := p)
    by_cases k : wtA D u p < 60
    · have := a2 k
      have := Cm_mono hD (i := wtA D u p + 1) (j := 60) (by omega) (by omega) (by omega)
      have := Bw_m hD hu (i := b) (j := p + 1) (by omega) (by omega) (by omega)
      have := hB b (by omega) (by omega)
      omega
    · omega
  have eW : ∀ p : Int, 0 ≤ p → p < D.cnt → wtA D w' p = wtA D w p := fun p p0 p1 => by
    by_cases k : p < b
    · unfold wtA
      rw [eB (p + 1) (by omega) (by omega)]
    · rw [far w' hw' eB p (by omega) p1, far w hw (fun _ _ _ => rfl) p (by omega) p1]
  have eF : fsT D w' = fsT D w := eW _ (by omega) (by omega)
  have eS : ∀ n : Nat, (n : Int) < D.cnt → sA D w' n = sA D w n := by
    intro n
    induction n with
    | zero => intro _; exact eF
    | succ n ih =>
      intro hn
      rw [show ((n + 1 : Nat) : Int) = (n : Int) + 1 by omega, sA_s (by omega), sA_s (by omega), eW _ (by omega) (by omega), ih (by omega)]
  have eS' : ∀ p : Int, 0 ≤ p → p < D.cnt → sA D w' p = sA D w p := fun p p0 p1 => by
    have := eS p.toNat (by omega)
    rw [show ((p.toNat : Nat) : Int) = p by omega] at this
    exact this
  have near : ∀ (p : Int), 0 ≤ p → p < D.cnt → sA D w p < 60 → fsT D w < 60 → p < b := fun p p0 p1 p2 p3 => by
    by_cases k : p < b
    · exact k
    · have e := far w hw (fun _ _ _ => rfl) p (by omega) p1
      by_cases z : p = 0
      · have := far w hw (fun _ _ _ => rfl) (ndd D - 1) (by omega) (by omega)
        have e : fsT D w = wtA D w (ndd D - 1) := rfl
        omega
      · have e2 := sA_s (D := D) (w := w) (i := p - 1) (by omega)
        have q := mx_sp (wtA D w (p - 1 + 1)) (sA D w (p - 1) + 1)
        rw [show p - 1 + 1 = p by omega] at e2 q
        omega
  obtain ⟨f1, f2, f3⟩ := h
  obtain ⟨g1, g2, g3⟩ := h'
  have rows : v'.2 = v.2 := by
    funext i
    by_cases k : 0 ≤ i ∧ i < 8
    · rw [f1 i k.1 k.2, g1 i k.1 k.2]
      by_cases z : i < b
      · rw [eB i k.1 (by omega), ha i k.1 z]
      · by_cases y : i < D.cnt
        · have := Bw_m hD hw (i := b) (j := i) (by omega) (by omega) (by omega)
          have := Bw_m hD hw' (i := b) (j := i) (by omega) (by omega) (by omega)
          have := eB b (by omega) (by omega)
          rw [if_neg (fun q => by omega), if_neg (fun q => by omega)]
        · rw [if_neg (fun q => y q.1), if_neg (fun q => y q.1)]
    · rw [f2 i k, g2 i k]
  have vals : v'.1.1 = v.1.1 ∧ v'.1.2.1 = v.1.2.1 ∧ v'.1.2.2.1 = v.1.2.2.1 ∧ v'.1.2.2.2 = v.1.2.2.2 := by
    unfold WT4 at f3 g3
    rw [eF] at g3
    rcases f3 with ⟨a0, a1, a2, a3, a4⟩ | ⟨a0, a1, a2, a3, a4⟩
    · rcases g3 with ⟨c0, c1, c2, c3, c4⟩ | ⟨c0, c1⟩
      · omega
      · omega
    · rcases g3 with ⟨c0, c1⟩ | ⟨c0, c1, c2, c3, c4⟩
      · omega
      · have d1 := eS' (v'.1.1 - 1) (by omega) (by omega)
        have es : v'.1.1 = v.1.1 := by
          rcases (show v'.1.1 < v.1.1 ∨ v'.1.1 = v.1.1 ∨ v.1.1 < v'.1.1 by omega) with k | k | k
          · rcases c4 with ⟨d2, d3, -⟩ | ⟨d2, -⟩
            · have := eS' v'.1.1 (by omega) (by omega)
              have := sA_mono (D := D) (w := w) (i := v'.1.1) (j := v.1.1 - 1) (by omega) (by omega)
              omega
            · omega
          · exact k
          · rcases a4 with ⟨d2, d3, -⟩ | ⟨d2, -⟩
            · have := sA_mono (D := D) (w := w) (i := v.1.1) (j := v'.1.1 - 1) (by omega) (by omega)
              omega
            · omega
        rw [es] at c1 c2 c3 c4 d1 ⊢
        have nr := near (v.1.1 - 1) (by omega) (by omega) (by omega) a0
        have esum : psI w' v.1.1 = psI w v.1.1 := psI_congr (N := b) (fun q q0 q1 => ha q q0 q1) v.1.1.toNat (by omega)
        have d2 := eS' (D.cnt - 1) (by omega) (by omega)
        rw [esum] at c3
        rw [d2] at c4
        refine ⟨rfl, ?_, by omega, ?_⟩ <;> omega
  obtain ⟨⟨x1, x2, x3, x4⟩, xr⟩ := v
  obtain ⟨⟨y1, y2, y3, y4⟩, yr⟩ := v'
  obtain ⟨h1, h2, h3, h4⟩ := vals
  have rows : yr = xr := rows
  have h1 : y1 = x1 := h1
  have h2 : y2 = x2 := h2
  have h3 : y3 = x3 := h3
  have h4 : y4 = x4 := h4
  rw [rows, h1, h2, h3, h4]
/-- what is left out is worse -/
theorem fin_prune {D : FD} {w : Int → Int} {v F : FV} {p st : Int} (hD : D.ok) (hw : okW D w) (hp : 0 ≤ p ∧ p < D.cnt) (hF : D.cnt ≤ F.1.1) (hst : st = if ndd D ≤ p + 1 then sA D w p - p - fsT D w else 0) (h : (ndd D ≤ p + 1 ∧ 60 ≤ sA D w p) ∨ F.1.2.1 < st ∨ (st = F.1.2.1 ∧ psI w (p + 1) + (D.cnt - 1 - p) * 2 < F.1.2.2.1)) (hv : FIN D w v) : nb v F = false := by
  have o := hD.1
  have nd := ndd_bd hD
  refine nb_f ?_
  rcases hv.2.2 with ⟨a0, a1, a2⟩ | ⟨a0, a1, a2, a3, a4⟩
  · omega
  · rcases a4 with ⟨b1, b2⟩ | ⟨b1, b2, b3⟩
    · omega
    · have m1 := sA_mono (D := D) (w := w) (i := p) (j := D.cnt - 1) (by omega) (by omega)
      have m2 := sA_mono (D := D) (w := w) (i := 0) (j := D.cnt - 1) (by omega) (by omega)
      rw [sA_0] at m2
      have m3 := psI_mono (g := w) (a := 0) (b := 2) (N := D.cnt) hw (i := p + 1) (j := D.cnt) (by omega) (by omega) (by omega)
      rw [b1] at a2 a3
      by_cases k : ndd D ≤ p + 1
      · rw [if_pos k] at hst
        omega
      · rw [if_neg k] at hst
        omega

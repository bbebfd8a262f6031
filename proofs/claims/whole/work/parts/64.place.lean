/-! ===== BEST: the class's search ===== -/
theorem fit_R2 {cy : MX} {d e : Nat} (hm : Nat.ble cy.2.2.1 45 = true) (hd : d + 1 ≤ e) : d + 1 ≤ (rmv e 0 0).frames ∧ 8 + (cy.2.2.1 + 11) + 64 * d ≤ (rmv e 0 0).locals := by
  have h1 := Nat.le_of_ble_eq_true hm
  refine ⟨hd, ?_⟩
  show 8 + (cy.2.2.1 + 11) + 64 * d ≤ 64 * e
  omega
theorem fit_M2 {e : Nat} (h : 1 ≤ e) : 1 ≤ (rmv e 0 0).frames ∧ 21 ≤ (rmv e 0 0).locals := by
  refine ⟨h, ?_⟩
  show 21 ≤ 64 * e
  omega
theorem agrW {D : FD} {w w' : Int → Int} {b : Int} (hD : D.ok) (ha : ∀ q : Int, 0 ≤ q → q < b → w' q = w q) : (∀ i : Int, 0 ≤ i → i ≤ b → Bw D w' i = Bw D w i) ∧ (∀ q : Int, 0 ≤ q → q < b → wtA D w' q = wtA D w q) ∧ (∀ i : Int, 0 ≤ i → i ≤ b → psI w' i = psI w i) ∧ (ndd D ≤ b → fsT D w' = fsT D w ∧ ∀ q : Int, 0 ≤ q → q < b → sA D w' q = sA D w q) := by
  have nd := ndd_bd hD
  have eB : ∀ i : Int, 0 ≤ i → i ≤ b → Bw D w' i = Bw D w i := fun i i0 i1 => psI_congr (N := b) (fun q q0 q1 => by show D.bits (q * 3 + w' q) = D.bits (q * 3 + w q); rw [ha q q0 q1]) i.toNat (by omega)
  have eW : ∀ q : Int, 0 ≤ q → q < b → wtA D w' q = wtA D w q := fun q q0 q1 => by
    unfold wtA
    rw [eB (q + 1) (by omega) (by omega)]
  refine ⟨eB, eW, fun i i0 i1 => psI_congr (N := b) ha i.toNat (by omega), fun hn => ?_⟩
  have eF : fsT D w' = fsT D w := eW _ (by omega) (by omega)
  refine ⟨eF, ?_⟩
  have eS : ∀ n : Nat, (n : Int) < b → sA D w' n = sA D w n := by
    intro n
    induction n with
    | zero => intro _; exact eF
    | succ n ih =>
      intro hn
      rw [show ((n + 1 : Nat) : Int) = (n : Int) + 1 by omega, sA_s (by omega), sA_s (by omega), eW _ (by omega) (by omega), ih (by omega)]
  intro q q0 q1
  have := eS q.toNat (by omega)
  rw [show ((q.toNat : Nat) : Int) = q by omega] at this
  exact this
/-- the search's rows ahead of piece p -/
def PV (D : FD) (w : Int → Int) (μ : MM) (p ba sec : Int) : Prop := (∀ q : Int, 0 ≤ q → q < p → μ 29 q = w q ∧ μ 30 q = wtA D w q ∧ μ 32 q = psI w (q + 1) ∧ (ndd D ≤ q + 1 → μ 31 q = sA D w q)) ∧ ba = Bw D w p ∧ ((p = 0 ∧ sec = 0) ∨ (0 < p ∧ sec = wtA D w (p - 1) ∧ sec < 60)) ∧ ba < Cm D 60
def PKp (p : Int) (μ μ' : MM) : Prop := ∀ q : Int, 0 ≤ q → q < p → μ' 29 q = μ 29 q ∧ μ' 30 q = μ 30 q ∧ μ' 31 q = μ 31 q ∧ μ' 32 q = μ 32 q
theorem PKp.tr {p p' : Int} {μ μ1 μ2 : MM} (h : PKp p μ μ1) (h2 : PKp p' μ1 μ2) (hp : p ≤ p') : PKp p μ μ2 := fun q q0 q1 => by
  obtain ⟨a, b, c, d⟩ := h q q0 q1
  obtain ⟨a', b', c', d'⟩ := h2 q q0 (by omega)
  exact ⟨a'.trans a, b'.trans b, c'.trans c, d'.trans d⟩
theorem PV.pk {D : FD} {w : Int → Int} {μ μ' : MM} {p ba sec : Int} (h : PV D w μ p ba sec) (hk : PKp p μ μ') : PV D w μ' p ba sec := by
  obtain ⟨a, b, c, d⟩ := h
  refine ⟨fun q q0 q1 => ?_, b, c, d⟩
  obtain ⟨k1, k2, k3, k4⟩ := hk q q0 q1
  rw [k1, k2, k3, k4]
  exact a q q0 q1
theorem PV.agr {D : FD} {w w' : Int → Int} {μ : MM} {p ba sec : Int} (hD : D.ok) (hp : 0 ≤ p) (h : PV D w μ p ba sec) (ha : ∀ q : Int, 0 ≤ q → q < p → w' q = w q) : PV D w' μ p ba sec := by
  obtain ⟨e1, e2, e3, e4⟩ := agrW hD ha
  obtain ⟨a, b, c, d⟩ := h
  refine ⟨fun q q0 q1 => ?_, by rw [e1 p hp (by omega)]; exact b, ?_, d⟩
  · obtain ⟨a1, a2, a3, a4⟩ := a q q0 q1
    refine ⟨by rw [ha q q0 q1]; exact a1, by rw [e2 q q0 q1]; exact a2, by rw [e3 (q + 1) (by omega) (by omega)]; exact a3, fun hn => ?_⟩
    rw [(e4 (by omega)).2 q q0 q1]
    exact a4 hn
  · rcases c with c | ⟨c1, c2, c3⟩
    · exact Or.inl c
    · exact Or.inr ⟨c1, by rw [e2 (p - 1) (by omega) (by omega)]; exact c2, c3⟩
def inR (d cnt p K code : Int) : Prop := 0 ≤ code ∧ code / (cdP d cnt p : Int) = K
theorem inR.of {d cnt p K c : Int} (hp : 0 ≤ p) (hc : cnt ≤ 8) (hK : 0 ≤ K) (h1 : K * (cdP d cnt p : Int) ≤ c) (h2 : c < K * (cdP d cnt p : Int) + (cdP d cnt p : Int)) : inR d cnt p K c := by
  have hN := cdP_bd (d := d) (cnt := cnt) hp hc
  have h0 : 0 ≤ K * (cdP d cnt p : Int) := Int.mul_nonneg hK (by omega)
  refine ⟨by omega, ?_⟩
  have := (Int.ediv_emod_unique (a := c) (b := (cdP d cnt p : Int)) (q := K) (r := c - K * (cdP d cnt p : Int)) (by omega)).mpr ⟨by rw [Int.mul_comm (cdP d cnt p : Int) K]; omega, by omega, by omega⟩
  exact this.1
theorem inR.door {d cnt p K s code : Int} (h0 : 0 ≤ p) (hp : p < cnt) (hc : cnt ≤ 8) (dd : dor d p) (hs : 0 ≤ s ∧ s ≤ 2) (h : inR d cnt (p + 1) (3 * K + s) code) : inR d cnt p K code ∧ rc d cnt code p = s := by
  have hN := cdP_bd (d := d) (cnt := cnt) (p := p + 1) (by omega) hc
  refine ⟨⟨h.1, ?_⟩, ?_⟩
  · rw [cdP_s hp, if_pos dd, show ((3 * cdP d cnt (p + 1) : Nat) : Int) = (cdP d cnt (p + 1) : Int) * 3 by omega, ← Int.ediv_ediv_of_nonneg (by omega), h.2]
    omega
  · rw [rc_d h0 dd, h.2]
    omega
theorem inR.plain {d cnt p K code : Int} (h0 : 0 < p) (hp : p < cnt) (dd : ¬ dor d p) (h : inR d cnt (p + 1) K code) : inR d cnt p K code ∧ rc d cnt code p = rc d cnt code (p - 1) := by
  refine ⟨⟨h.1, ?_⟩, rc_n h0 dd⟩
  rw [cdP_s hp, if_neg dd]
  exact h.2
abbrev PFs (κ : KX) (ν : ML) (D : FD) (d : Int) (μ0 : MM) (e : Nat) (p : Int) : Prop := ∀ (K ba sec : Int) (μ : MM) (F : FV), 0 ≤ K → ST D μ0 μ F → (∀ code : Int, inR d D.cnt p K code → PV D (rc d D.cnt code) μ p ba sec) → AQ κ e mX0_placeFrom [aR 25, aR 14, aI p, aI ba, aI sec] μ ν (fun r μ' ν' => r = none ∧ ν' = ν ∧ ST D μ0 μ' (dn (SC D d) (cdP d D.cnt p) (K * (cdP d D.cnt p : Int)) F) ∧ PKp p μ μ')
abbrev PLs (κ : KX) (ν : ML) (D : FD) (d : Int) (μ0 : MM) (e : Nat) (p : Int) : Prop := ∀ (K ba sec : Int) (μ : MM) (F : FV), 0 ≤ K → ST D μ0 μ F → (∀ code : Int, inR d D.cnt (p + 1) K code → PV D (rc d D.cnt code) μ p ba sec ∧ rc d D.cnt code p = μ 29 p) → AQ κ e mX0_place [aR 25, aR 14, aI p, aI ba, aI sec] μ ν (fun r μ' ν' => r = none ∧ ν' = ν ∧ ST D μ0 μ' (dn (SC D d) (cdP d D.cnt (p + 1)) (K * (cdP d D.cnt (p + 1) : Int)) F) ∧ PKp p μ μ')
theorem ST.fr {D : FD} {μ0 μ μ' : MM} {F : FV} (h : ST D μ0 μ F) (hS : SR [29, 30, 31, 32] μ μ') : ST D μ0 μ' F := by
  obtain ⟨a, b, c, d, e⟩ := h
  exact ⟨(a.trans hS).sub (by decide), b.fr (hS 26 (by decide)) (hS 27 (by decide)), c, by rw [hS 25 (by decide)]; exact d, fun t h0 h1 => by rw [hS 28 (by decide)]; exact e t h0 h1⟩
theorem dn_FBS {D : FD} {d : Int} (hD : D.ok) {n : Nat} {lo : Int} {F : FV} (h : FB F) : FB (dn (SC D d) n lo F) := dn_FB n F h (fun c _ _ => SW_FB hD rc_ok)
theorem c_place {κ : KX} {μ0 : MM} {ν : ML} {D : FD} {d p : Int} {e : Nat} (hbd : BD D d μ0) (hp : 0 ≤ p ∧ p < D.cnt) (he : 2 ≤ e) (IH : p + 1 < D.cnt → PFs κ ν D d μ0 e (p + 1)) : PLs κ ν D d μ0 (e + 1) p := by
  intro K ba sec μ F hK hS hR
  have hD := hbd.1
  have o := hD.1
  have nd := ndd_bd hD
  have hN := cdP_bd (d := d) (cnt := D.cnt) (p := p + 1) (by omega) o.2
  have rg : ∀ c : Int, K * (cdP d D.cnt (p + 1) : Int) ≤ c → c < K * (cdP d D.cnt (p + 1) : Int) + (cdP d D.cnt (p + 1) : Int) → inR d D.cnt (p + 1) K c := fun c q0 q1 => inR.of (by omega) o.2 hK q0 q1
  have in0 := rg (K * (cdP d D.cnt (p + 1) : Int)) (Int.le_refl _) (by omega)
  obtain ⟨w0, hw0⟩ : ∃ w0, w0 = rc d D.cnt (K * (cdP d D.cnt (p + 1) : Int)) := ⟨_, rfl⟩
  obtain ⟨pv, es⟩ := hR _ in0
  rw [← hw0] at pv es
  have okw : okW D w0 := by rw [hw0]; exact rc_ok
  have ag : ∀ code : Int, inR d D.cnt (p + 1) K code → ∀ q : Int, 0 ≤ q → q < p + 1 → rc d D.cnt code q = w0 q := fun code hc q q0 q1 => by
    obtain ⟨pv', es'⟩ := hR code hc
    by_cases k : q = p
    · rw [k, es', es]
    · rw [← (pv'.1 q q0 (by omega)).1, ← (pv.1 q q0 (by omega)).1]
  obtain ⟨pv1, pv2, pv3, pv4⟩ := id pv
  have sb := okw p hp.1 hp.2
  rw [es] at sb
  have e16 : μ 16 (p * 3 + μ 29 p) = D.bits (p * 3 + μ 29 p) := by rw [hS.1 16 (by decide)]; exact hbd.2.2.2.1 _ (by omega) (by omega)
  have eB : ba + μ 16 (p * 3 + μ 29 p) = Bw D w0 (p + 1) := by
    rw [e16, pv2, ← es]
    exact (psI_s (g := fun q => D.bits (q * 3 + w0 q)) hp.1).symm
  have bB := Bw_m hD okw (i := 0) (j := p + 1) (by omega) (by omega) (by omega)
  have b0 : Bw D w0 0 = 0 := rfl
  obtain ⟨z0, z1, z2, z3⟩ := wtA_W (D := D) (w := w0) (p := p)
  have hsec : 0 ≤ sec ∧ sec ≤ wtA D w0 p := by
    rcases pv3 with ⟨k1, k2⟩ | ⟨k1, k2, k3⟩
    · omega
    · have m := wtA_m hD okw (i := p - 1) (j := p) (by omega) (by omega) (by omega)
      have := (wtA_W (D := D) (w := w0) (p := p - 1)).1
      omega
  have e25 := hS.2.2.2.1
  have e28 := hS.2.2.2.2
  have hFB := hS.2.2.1
  have e14 : ∀ μ3 : MM, SR [30, 31, 32] μ μ3 → μ3 14 2 = D.cnt := fun μ3 h3 => by rw [h3 14 (by decide), hS.1 14 (by decide)]; exact hbd.2.1
  have E108 : ∀ μ3 : MM, SR [30, 31, 32] μ μ3 → PKp p μ μ3 → μ3 30 p = wtA D w0 p → μ3 32 p = psI w0 (p + 1) → (ndd D ≤ p + 1 → μ3 31 p = sA D w0 p) → AX κ mX0_place (e + 1) (QS (fun r μ' ν' => r = none ∧ ν' = ν ∧ ST D μ0 μ' (dn (SC D d) (cdP d D.cnt (p + 1)) (K * (cdP d D.cnt (p + 1) : Int)) F) ∧ PKp p μ μ')) 108 [aR 25, aR 14, aI p, aI ba, aI sec, aI (Bw D w0 (p + 1)), aI (wtA D w0 p)] [] μ3 ν := fun μ3 h3 hk q30 q32 q31 => by
    have hS3 : ST D μ0 μ3 F := hS.fr (h3.sub (by decide))
    have r29 : μ3 29 = μ 29 := h3 29 (by decide)
    have PV1 : wtA D w0 p < 60 → Bw D w0 (p + 1) < Cm D 60 → PV D w0 μ3 (p + 1) (Bw D w0 (p + 1)) (wtA D w0 p) := fun k1 k2 => by
      refine ⟨fun q q0 q1 => ?_, rfl, Or.inr ⟨by omega, by rw [show p + 1 - 1 = p by omega], k1⟩, k2⟩
      by_cases k : q = p
      · rw [k]
        exact ⟨by rw [r29]; exact es.symm, q30, q32, q31⟩
      · exact (pv.pk hk).1 q q0 (by omega)
    have E137 : (wtA D w0 p = 60 ∨ Bw D w0 (p + 1) = Cm D 60 ∨ p + 1 = D.cnt) → AX κ mX0_place (e + 1) (QS (fun r μ' ν' => r = none ∧ ν' = ν ∧ ST D μ0 μ' (dn (SC D d) (cdP d D.cnt (p + 1)) (K * (cdP d D.cnt (p + 1) : Int)) F) ∧ PKp p μ μ')) 137 [aR 25, aR 14, aI p, aI ba, aI sec, aI (Bw D w0 (p + 1)), aI (wtA D w0 p)] [] μ3 ν := fun hl => by
      have hW : WD D w0 μ3 (p + 1) := fun q q0 q1 => by
        by_cases k : q = p
        · rw [k]
          exact ⟨by rw [r29]; exact es.symm, q30, q32⟩
        · have := (pv.pk hk).1 q q0 (by omega)
          exact ⟨this.1, this.2.1, this.2.2.1⟩
      have hl2 : p + 1 = D.cnt ∨ Cm D 60 ≤ Bw D w0 (p + 1) := by
        rcases hl with hl | hl | hl
        · have L := z3 59 (by omega) (by omega)
          rw [show (59 : Int) + 1 = 60 by omega] at L
          exact Or.inr (by omega)
        · exact Or.inr (by omega)
        · exact Or.inl hl
      refine aw_blk oX0_place_137 (pc' := 142) (ls' := [_, _, _, _, _, _, _]) (st' := [_, _, _]) (cs := []) rfl trivial ?_
      refine aw_crV (rest := []) (c_judge hbd hS3 okw hW (by omega) (by rw [show p + 1 - 1 = p by omega, ← pv2]; exact pv4) hl2) kX0_judge eX0_place_142 lX0_place_142 rfl rfl rfl rfl (Nat.le_of_ble_eq_true rfl) (fit_R2 rfl (by omega)) ⟨Nat.le_refl _, Nat.le_refl _⟩ ?_
      intro r μ4 ν4 hP
      obtain ⟨rfl, rfl, p1, p2, p3⟩ := hP
      refine aw_blk oX0_place_145 (pc' := 169) (ls' := [_, _, _, _, _, _, _]) (st' := []) (cs := []) rfl trivial ?_
      refine aw_vret eX0_place_169 rfl (Nat.le_refl _) (Nat.le_refl _) ?_
      obtain ⟨m, hm⟩ : ∃ m, cdP d D.cnt (p + 1) = m + 1 := ⟨cdP d D.cnt (p + 1) - 1, by omega⟩
      have ed : dn (SC D d) (cdP d D.cnt (p + 1)) (K * (cdP d D.cnt (p + 1) : Int)) F = ud F (SW D w0) := by
        have T := dn_same (S := SC D d) (V := SW D w0) (lo := K * (cdP d D.cnt (p + 1) : Int)) m F (fun c c0 c1 => by
          have hc := rg c c0 (by rw [hm]; rw [hm] at c1; exact c1)
          exact fin_uniq hD okw rc_ok (b := p + 1) (by omega) (ag c hc) hl2 (SW_fin hD okw) (SW_fin hD rc_ok))
        rw [← hm] at T
        exact T
      rw [ed]
      obtain ⟨a1, a2, a3, a4, a5⟩ := hS3
      refine ⟨rfl, rfl, rfl, ⟨(a1.trans p1).sub (by decide), p3, ud_FB hFB (SW_FB hD okw), by rw [p2]; exact a4, fun t t0 t1 => by rw [p1 28 (by decide)]; exact a5 t t0 t1⟩, fun q q0 q1 => ?_⟩
      rw [p1 29 (by decide), p1 30 (by decide), p1 31 (by decide), p1 32 (by decide)]
      exact hk q q0 q1
    have E148 : wtA D w0 p < 60 → Bw D w0 (p + 1) < Cm D 60 → p + 1 < D.cnt → AX κ mX0_place (e + 1) (QS (fun r μ' ν' => r = none ∧ ν' = ν ∧ ST D μ0 μ' (dn (SC D d) (cdP d D.cnt (p + 1)) (K * (cdP d D.cnt (p + 1) : Int)) F) ∧ PKp p μ μ')) 148 [aR 25, aR 14, aI p, aI ba, aI sec, aI (Bw D w0 (p + 1)), aI (wtA D w0 p)] [] μ3 ν := fun k1 k2 k3 => by
      have P1 := PV1 k1 k2
      have PA : ∀ code : Int, inR d D.cnt (p + 1) K code → PV D (rc d D.cnt code) μ3 (p + 1) (Bw D w0 (p + 1)) (wtA D w0 p) := fun code hc => P1.agr hD (by omega) (ag code hc)
      have sb1 := sA_b (D := D) (w := w0) (p := p) hp.1
      have sm1 := psI_mono (g := w0) (a := 0) (b := 2) (N := D.cnt) okw (i := 0) (j := p + 1) (by omega) (by omega) (by omega)
      have ps0 : psI w0 0 = 0 := rfl
      have g31 : ndd D ≤ p + 1 → (0 ≤ μ3 31 p ∧ μ3 31 p ≤ 200) ∧ (0 ≤ μ3 30 (ndd D - 1) ∧ μ3 30 (ndd D - 1) ≤ 60) := fun hn => by
        have a := (P1.1 (ndd D - 1) (by omega) (by omega)).2.1
        have b := wtA_W (D := D) (w := w0) (p := ndd D - 1)
        have b1 := b.1
        have b2 := b.2.1
        rw [q31 hn, a]
        omega
      refine aw_blk oX0_place_148 (pc' := 151) (ls' := [_, _, _, _, _, _, _]) (st' := [_, _, _]) (cs := []) rfl trivial ?_
      refine aw_crV (rest := []) (c_may (F := F) (p := p) (nd := ndd D) (cnt := D.cnt) hS3.2.1 hFB (e14 μ3 h3) hS3.2.2.2.1 nd hp g31 (by rw [q32]; omega)) kX0_mayBeNoWorse eX0_place_151 lX0_place_151 rfl rfl rfl rfl (Nat.le_of_ble_eq_true rfl) (fit_R2 rfl (by omega)) ⟨Nat.le_refl _, Nat.le_refl _⟩ ?_
      intro r μ4 ν4 hP
      obtain ⟨z, rfl, hz, rfl, rfl, hcond⟩ := hP
      rcases hz with rfl | rfl
      · refine aw_if_eq (tgt := 169) eX0_place_154 (by decide) (by omega) (fun h5 => ?_) (fun h5 => ?_)
        · refine aw_vret eX0_place_169 rfl (Nat.le_refl _) (Nat.le_refl _) ?_
          have hcond := hcond rfl
          have ed : dn (SC D d) (cdP d D.cnt (p + 1)) (K * (cdP d D.cnt (p + 1) : Int)) F = F := dn_skip _ (fun c c0 c1 => by
            have hc := rg c c0 c1
            have pc := PA c hc
            have a := pc.1 p hp.1 (by omega)
            have rok := rc_ok (D := D) (d := d) (cnt := D.cnt) (code := c)
            obtain ⟨st, est⟩ : ∃ st : Int, st = if ndd D ≤ p + 1 then sA D (rc d D.cnt c) p - p - fsT D (rc d D.cnt c) else 0 := ⟨_, rfl⟩
            refine fin_prune (p := p) (st := st) hD rok hp hcond.1 est ?_ (SW_fin hD rok)
            rcases hcond.2 with hq | ⟨st', e1, e2⟩
            · exact Or.inl ⟨hq.1, by rw [← a.2.2.2 hq.1]; exact hq.2⟩
            · have ee : st' = st := by
                rw [e1, est]
                by_cases k : ndd D ≤ p + 1
                · rw [if_pos k, if_pos k, a.2.2.2 k, (pc.1 (ndd D - 1) (by omega) (by omega)).2.1]
                  rfl
                · rw [if_neg k, if_neg k]
              rw [ee] at e2
              rw [a.2.2.1] at e2
              exact Or.inr e2)
          rw [ed]
          exact ⟨rfl, rfl, rfl, hS3, hk⟩
        · exfalso; omega
      · refine aw_if_eq (tgt := 169) eX0_place_154 (by decide) (by omega) (fun h5 => ?_) (fun h5 => ?_)
        · exfalso; omega
        · refine aw_blk oX0_place_157 (pc' := 166) (ls' := [_, _, _, _, _, _, _]) (st' := [_, _, _, _, _]) (cs := []) rfl trivial ?_
          refine aw_crV (rest := []) (IH k3 K (Bw D w0 (p + 1)) (wtA D w0 p) μ4 F hK hS3 PA) kX0_placeFrom eX0_place_166 lX0_place_166 rfl rfl rfl rfl (Nat.le_of_ble_eq_true rfl) (fit_R2 rfl (by omega)) ⟨Nat.le_refl _, Nat.le_refl _⟩ ?_
          intro r μ5 ν5 hP
          obtain ⟨rfl, rfl, p1, p2⟩ := hP
          refine aw_vret eX0_place_169 rfl (Nat.le_refl _) (Nat.le_refl _) ?_
          exact ⟨rfl, rfl, rfl, p1, hk.tr p2 (by omega)⟩
    have c60 : Bw D w0 (p + 1) ≤ Cm D (wtA D w0 p + 1) → wtA D w0 p < 60 → Bw D w0 (p + 1) ≤ Cm D 60 := fun q0 q1 => by
      have := Cm_mono hD (i := wtA D w0 p + 1) (j := 60) (by omega) (by omega) (by omega)
      omega
    have r28 : μ3 28 59 = Cm D 60 := by
      have := hS3.2.2.2.2 59 (by omega) (by omega)
      rw [show (59 : Int) + 1 = 60 by omega] at this
      exact this
    have cb := Cm_b hD (t := 60) (by omega) (by omega)
    refine aw_blk oX0_place_108 (pc' := 112) (ls' := [_, _, _, _, _, _, _]) (st' := [_, _]) (cs := []) rfl trivial ?_
    refine aw_icmp_eq (tgt := 137) eX0_place_112 (by decide) (by omega) (by omega) (fun h5 => ?_) (fun h5 => ?_)
    · exact E137 (Or.inl h5)
    · refine aw_blk oX0_place_115 (pc' := 124) (ls' := [_, _, _, _, _, _, _]) (st' := [_, _]) (cs := [(_, _)]) rfl (⟨⟨by omega, by omega⟩, trivial⟩) ?_
      rw [r28]
      refine aw_icmp_eq (tgt := 137) eX0_place_124 (by decide) (by omega) (by omega) (fun h6 => ?_) (fun h6 => ?_)
      · exact E137 (Or.inr (Or.inl h6))
      · refine aw_blk oX0_place_127 (pc' := 134) (ls' := [_, _, _, _, _, _, _]) (st' := [_, _]) (cs := []) rfl trivial ?_
        rw [e14 μ3 h3]
        refine aw_icmp_ne (tgt := 148) eX0_place_134 (by decide) (by omega) (by omega) (fun h7 => ?_) (fun h7 => ?_)
        · have := c60 (z2 (by omega)) (by omega)
          exact E148 (by omega) (by omega) (by omega)
        · exact E137 (Or.inr (Or.inr (by omega)))
  have E60 : ∀ x : Int, x = psI w0 p → AX κ mX0_place (e + 1) (QS (fun r μ' ν' => r = none ∧ ν' = ν ∧ ST D μ0 μ' (dn (SC D d) (cdP d D.cnt (p + 1)) (K * (cdP d D.cnt (p + 1) : Int)) F) ∧ PKp p μ μ')) 60 [aR 25, aR 14, aI p, aI ba, aI sec, aI (Bw D w0 (p + 1)), aI (wtA D w0 p)] [aI x, aI (μ 29 p), aI p, aR 32] (up μ 30 p (wtA D w0 p)) ν := fun x ex => by
    have ex2 : μ 29 p + x = psI w0 (p + 1) := by
      rw [ex, ← es, psI_s hp.1]
      omega
    have r25 : ∀ y : Int, up (up μ 30 p (wtA D w0 p)) 32 p y 25 6 = μ 25 6 := fun _ => rfl
    have r31 : ∀ y : Int, up (up μ 30 p (wtA D w0 p)) 32 p y 31 = μ 31 := fun _ => rfl
    have SRa : ∀ y : Int, SR [30, 31, 32] μ (up (up μ 30 p (wtA D w0 p)) 32 p y) := fun y => (SR.rf.put (by decide)).put (by decide)
    have PKa : ∀ y : Int, PKp p μ (up (up μ 30 p (wtA D w0 p)) 32 p y) := fun y q q0 q1 => ⟨rfl, by rw [up_c (by decide), up_ne (Or.inr (by omega))], rfl, by rw [up_ne (Or.inr (by omega)), up_c (by decide)]⟩
    have PKb : ∀ y v : Int, PKp p μ (up (up (up μ 30 p (wtA D w0 p)) 32 p y) 31 p v) := fun y v q q0 q1 => ⟨rfl, by rw [up_c (by decide), up_c (by decide), up_ne (Or.inr (by omega))], by rw [up_ne (Or.inr (by omega)), up_c (by decide), up_c (by decide)], by rw [up_c (by decide), up_ne (Or.inr (by omega)), up_c (by decide)]⟩
    have E107 : ∀ v : Int, v = sA D w0 p → AX κ mX0_place (e + 1) (QS (fun r μ' ν' => r = none ∧ ν' = ν ∧ ST D μ0 μ' (dn (SC D d) (cdP d D.cnt (p + 1)) (K * (cdP d D.cnt (p + 1) : Int)) F) ∧ PKp p μ μ')) 107 [aR 25, aR 14, aI p, aI ba, aI sec, aI (Bw D w0 (p + 1)), aI (wtA D w0 p)] [aI v, aI p, aR 31] (up (up μ 30 p (wtA D w0 p)) 32 p (psI w0 (p + 1))) ν := fun v ev => by
      refine aw_blk oX0_place_107 (pc' := 108) (ls' := [_, _, _, _, _, _, _]) (st' := []) (cs := [(_, _)]) rfl (⟨⟨by omega, by omega⟩, trivial⟩) ?_
      refine E108 _ ((SRa _).put (by decide)) (PKb _ _) ?_ ?_ (fun _ => ?_)
      · rw [up_c (by decide), up_c (by decide), up_at]
      · rw [up_c (by decide), up_at]
      · rw [up_at, ev]
    refine aw_blk oX0_place_60 (pc' := 69) (ls' := [_, _, _, _, _, _, _]) (st' := [_, _]) (cs := [(_, _)]) rfl (⟨⟨by omega, by omega⟩, trivial⟩) ?_
    rw [ex2, r25, e25]
    refine aw_icmp_lt (tgt := 108) eX0_place_69 (by decide) (by omega) (by omega) (fun h5 => ?_) (fun h5 => ?_)
    · exact E108 _ (SRa _) (PKa _) (by rw [up_c (by decide), up_at]) (by rw [up_at]) (fun q => by omega)
    · refine aw_blk oX0_place_72 (pc' := 82) (ls' := [_, _, _, _, _, _, _]) (st' := [_, _, _, _]) (cs := []) rfl trivial ?_
      rw [r25, e25]
      refine aw_icmp_lt (tgt := 103) eX0_place_82 (by decide) (by omega) (by omega) (fun h6 => ?_) (fun h6 => ?_)
      · refine aw_blk oX0_place_103 (pc' := 107) (ls' := [_, _, _, _, _, _, _]) (st' := [_, _, _]) (cs := []) rfl trivial ?_
        refine E107 _ ?_
        rw [sA_l hD okw hp.1 h6]
        have e1 : fsT D w0 = wtA D w0 (ndd D - 1) := rfl
        rw [show ndd D - 1 = p by omega] at e1
        rw [e1]
      · have q31 := (pv1 (p - 1) (by omega) (by omega)).2.2.2 (by omega)
        have sb2 := sA_b (D := D) (w := w0) (p := p - 1) (by omega)
        refine aw_blk oX0_place_85 (pc' := 97) (ls' := [_, _, _, _, _, _, _]) (st' := [_, _, _, _]) (cs := [(_, _)]) rfl (⟨⟨by omega, by omega⟩, trivial⟩) ?_
        rw [r31, q31]
        refine aw_mmax eX0_place_97 lX0_place_97 (by omega) (by omega) (Nat.le_of_ble_eq_true rfl) (fit_M2 (by omega)) ⟨Nat.le_refl _, Nat.le_refl _⟩ ?_
        refine aw_blk oX0_place_100 (pc' := 107) (ls' := [_, _, _, _, _, _, _]) (st' := [_, _, _]) (cs := []) rfl trivial ?_
        refine E107 _ ?_
        have e1 := sA_s (D := D) (w := w0) (i := p - 1) (by omega)
        rw [show p - 1 + 1 = p by omega] at e1
        rw [e1]
        rfl
  refine AMet.of kX0_place.1 (Nat.le_of_ble_eq_true rfl) rfl ?_
  refine aw_blk oX0_place_0 (pc' := 9) (ls' := [_, _, _, _, _, _, _]) (st' := [_, _, _, _]) (cs := [(_, _)]) rfl (⟨⟨by omega, by omega⟩, trivial⟩) ?_
  refine aw_ciV (rest := [_]) (c_bitsOf (p := p) (s := μ 29 p) (by omega) (by omega)) kX2_bitsOf eX0_place_9 lX0_place_9 rfl rfl rfl rfl (Nat.le_of_ble_eq_true rfl) (fit_R2 rfl (by omega)) ⟨Nat.le_refl _, Nat.le_refl _⟩ ?_
  refine aw_blk oX0_place_12 (pc' := 20) (ls' := [_, _, _, _, _, _, _]) (st' := [_, _, _]) (cs := []) rfl trivial ?_
  rw [eB]
  refine aw_ciV (rest := []) (c_secondOf hD e28 wtA_W (by omega) hsec) kX0_secondOf eX0_place_20 lX0_place_20 rfl rfl rfl rfl (Nat.le_of_ble_eq_true rfl) (fit_R2 rfl (by omega)) ⟨Nat.le_refl _, Nat.le_refl _⟩ ?_
  refine aw_blk oX0_place_23 (pc' := 45) (ls' := [_, _, _, _, _, _, _]) (st' := [_, _, _, _]) (cs := [(_, _), (_, _)]) rfl (⟨⟨by omega, by omega⟩, ⟨by omega, by omega⟩, trivial⟩) ?_
  have r29 : up μ 30 p (wtA D w0 p) 29 p = μ 29 p := rfl
  rw [r29]
  refine aw_if_le (tgt := 59) eX0_place_45 (by decide) (by omega) (fun h5 => ?_) (fun h5 => ?_)
  · refine aw_blk oX0_place_59 (pc' := 60) (ls' := [_, _, _, _, _, _, _]) (st' := [_, _, _, _]) (cs := []) rfl trivial ?_
    refine E60 0 ?_
    rw [show p = 0 by omega]
    rfl
  · have q32 := (pv1 (p - 1) (by omega) (by omega)).2.2.1
    rw [show p - 1 + 1 = p by omega] at q32
    have r32 : up μ 30 p (wtA D w0 p) 32 (p - 1) = μ 32 (p - 1) := rfl
    refine aw_blk oX0_place_48 (pc' := 60) (ls' := [_, _, _, _, _, _, _]) (st' := [_, _, _, _]) (cs := [(_, _)]) rfl (⟨⟨by omega, by omega⟩, trivial⟩) ?_
    rw [r32]
    exact E60 _ q32
theorem c_placeFrom {κ : KX} {μ0 : MM} {ν : ML} {D : FD} {d p : Int} {e : Nat} (hbd : BD D d μ0) (hp : 0 ≤ p ∧ p < D.cnt) (IH : PLs κ ν D d μ0 e p) : PFs κ ν D d μ0 (e + 1) p := by
  intro K ba sec μ F hK hS hR
  have hD := hbd.1
  have o := hD.1
  have e14 : ∀ μ1 F1, ST D μ0 μ1 F1 → μ1 14 = μ0 14 := fun μ1 F1 h => h.1 14 (by decide)
  have ec : ∀ μ1 F1, ST D μ0 μ1 F1 → μ1 14 2 = D.cnt := fun μ1 F1 h => by rw [e14 μ1 F1 h]; exact hbd.2.1
  have ed : ∀ μ1 F1, ST D μ0 μ1 F1 → μ1 14 3 = d := fun μ1 F1 h => by rw [e14 μ1 F1 h]; exact hbd.2.2.1
  have hN := cdP_bd (d := d) (cnt := D.cnt) (p := p + 1) (by omega) o.2
  have P38 : ∀ (s K' : Int) (μ1 : MM) (F1 : FV), 0 ≤ s → s ≤ 2 → 0 ≤ K' → ST D μ0 μ1 F1 → PKp p μ μ1 → (∀ code : Int, inR d D.cnt (p + 1) K' code → inR d D.cnt p K code ∧ rc d D.cnt code p = s) → (∀ μ2 : MM, ST D μ0 μ2 (dn (SC D d) (cdP d D.cnt (p + 1)) (K' * (cdP d D.cnt (p + 1) : Int)) F1) → PKp p μ μ2 → AX κ mX0_placeFrom (e + 1) (QS (fun r μ' ν' => r = none ∧ ν' = ν ∧ ST D μ0 μ' (dn (SC D d) (cdP d D.cnt p) (K * (cdP d D.cnt p : Int)) F) ∧ PKp p μ μ')) 12 [aR 25, aR 14, aI p, aI ba, aI sec, aI (s - 1)] [] μ2 ν) → AX κ mX0_placeFrom (e + 1) (QS (fun r μ' ν' => r = none ∧ ν' = ν ∧ ST D μ0 μ' (dn (SC D d) (cdP d D.cnt p) (K * (cdP d D.cnt p : Int)) F) ∧ PKp p μ μ')) 38 [aR 25, aR 14, aI p, aI ba, aI sec, aI s] [] μ1 ν := fun s K' μ1 F1 s0 s1 hK' hS1 hk hin KK => by
    have hk2 : PKp p μ (up μ1 29 p s) := fun q q0 q1 => by
      rw [up_ne (Or.inr (by omega))]
      exact hk q q0 q1
    refine aw_blk oX0_placeFrom_38 (pc' := 52) (ls' := [_, _, _, _, _, _]) (st' := [_, _, _, _, _]) (cs := [(_, _)]) rfl (⟨⟨by omega, by omega⟩, trivial⟩) ?_
    refine aw_crV (rest := []) (IH K' ba sec (up μ1 29 p s) F1 hK' (hS1.fr (SR.rf.put (by decide))) (fun code hc => ⟨(hR code (hin code hc).1).pk hk2, by rw [(hin code hc).2, up_at]⟩)) kX0_place eX0_placeFrom_52 lX0_placeFrom_52 rfl rfl rfl rfl (Nat.le_of_ble_eq_true rfl) (fit_R2 rfl (by omega)) ⟨Nat.le_refl _, Nat.le_refl _⟩ ?_
    intro r μ2 ν2 hP
    obtain ⟨rfl, rfl, p1, p2⟩ := hP
    refine aw_blk oX0_placeFrom_55 (pc' := 12) (ls' := [_, _, _, _, _, _]) (st' := []) (cs := []) rfl trivial ?_
    exact KK μ2 p1 (hk2.tr p2 (by omega))
  have E12 : ∀ (μ1 : MM), ST D μ0 μ1 (dn (SC D d) (cdP d D.cnt p) (K * (cdP d D.cnt p : Int)) F) → PKp p μ μ1 → AX κ mX0_placeFrom (e + 1) (QS (fun r μ' ν' => r = none ∧ ν' = ν ∧ ST D μ0 μ' (dn (SC D d) (cdP d D.cnt p) (K * (cdP d D.cnt p : Int)) F) ∧ PKp p μ μ')) 12 [aR 25, aR 14, aI p, aI ba, aI sec, aI (-1)] [] μ1 ν := fun μ1 h1 h2 => by
    refine aw_blk oX0_placeFrom_12 (pc' := 14) (ls' := [_, _, _, _, _, _]) (st' := [_]) (cs := []) rfl trivial ?_
    refine aw_if_lt (tgt := 61) eX0_placeFrom_14 (by decide) (by omega) (fun h5 => ?_) (fun h5 => ?_)
    · refine aw_vret eX0_placeFrom_61 rfl (Nat.le_refl _) (Nat.le_refl _) ?_
      exact ⟨rfl, rfl, rfl, h1, h2⟩
    · exfalso; omega
  have E9 : AX κ mX0_placeFrom (e + 1) (QS (fun r μ' ν' => r = none ∧ ν' = ν ∧ ST D μ0 μ' (dn (SC D d) (cdP d D.cnt p) (K * (cdP d D.cnt p : Int)) F) ∧ PKp p μ μ')) 12 [aR 25, aR 14, aI p, aI ba, aI sec, aI 2] [] μ ν := by
    by_cases dd : dor d p
    · have step : ∀ (s : Int) (μ1 : MM) (F1 : FV), 0 ≤ s → s ≤ 2 → ST D μ0 μ1 F1 → PKp p μ μ1 → (∀ μ2 : MM, ST D μ0 μ2 (dn (SC D d) (cdP d D.cnt (p + 1)) ((3 * K + s) * (cdP d D.cnt (p + 1) : Int)) F1) → PKp p μ μ2 → AX κ mX0_placeFrom (e + 1) (QS (fun r μ' ν' => r = none ∧ ν' = ν ∧ ST D μ0 μ' (dn (SC D d) (cdP d D.cnt p) (K * (cdP d D.cnt p : Int)) F) ∧ PKp p μ μ')) 12 [aR 25, aR 14, aI p, aI ba, aI sec, aI (s - 1)] [] μ2 ν) → AX κ mX0_placeFrom (e + 1) (QS (fun r μ' ν' => r = none ∧ ν' = ν ∧ ST D μ0 μ' (dn (SC D d) (cdP d D.cnt p) (K * (cdP d D.cnt p : Int)) F) ∧ PKp p μ μ')) 12 [aR 25, aR 14, aI p, aI ba, aI sec, aI s] [] μ1 ν := fun s μ1 F1 s0 s1 hS1 hk KK => by
        have dd1 : dor (μ1 14 3) p := by rw [ed μ1 F1 hS1]; exact dd
        refine aw_blk oX0_placeFrom_12 (pc' := 14) (ls' := [_, _, _, _, _, _]) (st' := [_]) (cs := []) rfl trivial ?_
        refine aw_if_lt (tgt := 61) eX0_placeFrom_14 (by decide) (by omega) (fun h5 => ?_) (fun h5 => ?_)
        · exfalso; omega
        · refine aw_blk oX0_placeFrom_17 (pc' := 19) (ls' := [_, _, _, _, _, _]) (st' := [_, _]) (cs := []) rfl trivial ?_
          refine aw_ciV (rest := []) (c_isDoor (by omega)) kX2_isDoor eX0_placeFrom_19 lX0_placeFrom_19 rfl rfl rfl rfl (Nat.le_of_ble_eq_true rfl) (fit_R2 rfl (by omega)) ⟨Nat.le_refl _, Nat.le_refl _⟩ ?_
          rw [if_pos dd1]
          refine aw_if_ne (tgt := 38) eX0_placeFrom_22 (by decide) (by omega) (fun h6 => ?_) (fun h6 => ?_)
          · exact P38 s (3 * K + s) μ1 F1 s0 s1 (by omega) hS1 hk (fun code hc => inR.door hp.1 hp.2 o.2 dd ⟨s0, s1⟩ hc) KK
          · exfalso; omega
      refine step 2 μ F (by omega) (by omega) hS (fun q q0 q1 => ⟨rfl, rfl, rfl, rfl⟩) (fun μ2 hS2 hk2 => ?_)
      refine step 1 μ2 _ (by omega) (by omega) hS2 hk2 (fun μ3 hS3 hk3 => ?_)
      refine step 0 μ3 _ (by omega) (by omega) hS3 hk3 (fun μ4 hS4 hk4 => ?_)
      refine E12 μ4 ?_ hk4
      have eN : cdP d D.cnt p = cdP d D.cnt (p + 1) + (cdP d D.cnt (p + 1) + cdP d D.cnt (p + 1)) := by
        rw [cdP_s hp.2, if_pos dd]
        omega
      have e0 : (3 * K + 0) * (cdP d D.cnt (p + 1) : Int) = K * (cdP d D.cnt p : Int) := by
        rw [eN, Int.add_mul, Int.mul_assoc]
        generalize (cdP d D.cnt (p + 1)) = N at *
        rw [show ((N + (N + N) : Nat) : Int) = 3 * (N : Int) by omega, Int.mul_left_comm]
        omega
      have e1 : (3 * K + 1) * (cdP d D.cnt (p + 1) : Int) = K * (cdP d D.cnt p : Int) + (cdP d D.cnt (p + 1) : Int) := by
        rw [← e0, Int.add_mul, Int.add_mul]
        omega
      have e2 : (3 * K + 2) * (cdP d D.cnt (p + 1) : Int) = K * (cdP d D.cnt p : Int) + (cdP d D.cnt (p + 1) : Int) + (cdP d D.cnt (p + 1) : Int) := by
        rw [← e0, Int.add_mul, Int.add_mul]
        omega
      rw [e0, e1, e2] at hS4
      have ee : dn (SC D d) (cdP d D.cnt p) (K * (cdP d D.cnt p : Int)) F = dn (SC D d) (cdP d D.cnt (p + 1)) (K * (cdP d D.cnt p : Int)) (dn (SC D d) (cdP d D.cnt (p + 1)) (K * (cdP d D.cnt p : Int) + (cdP d D.cnt (p + 1) : Int)) (dn (SC D d) (cdP d D.cnt (p + 1)) (K * (cdP d D.cnt p : Int) + (cdP d D.cnt (p + 1) : Int) + (cdP d D.cnt (p + 1) : Int)) F)) := by
        generalize K * (cdP d D.cnt p : Int) = lo
        rw [eN, dn_add, dn_add]
      rw [ee]
      exact hS4
    · have p0 : 0 < p := by
        rcases (show p = 0 ∨ 0 < p by omega) with k | k
        · exact absurd (Or.inl k) dd
        · exact k
      have eN : cdP d D.cnt p = cdP d D.cnt (p + 1) := by rw [cdP_s hp.2, if_neg dd]
      have in0 : inR d D.cnt p K (K * (cdP d D.cnt p : Int)) := inR.of (by omega) o.2 hK (Int.le_refl _) (by rw [eN]; omega)
      have rr : ∀ code : Int, inR d D.cnt p K code → rc d D.cnt code (p - 1) = μ 29 (p - 1) := fun code hc => ((hR code hc).1 (p - 1) (by omega) (by omega)).1.symm
      have rb : 0 ≤ μ 29 (p - 1) ∧ μ 29 (p - 1) ≤ 2 := by
        rw [← rr _ in0]
        exact rcN_bd _
      generalize hr : μ 29 (p - 1) = r at rr rb
      have e29 : ∀ μ1 : MM, PKp p μ μ1 → μ1 29 (p - 1) = r := fun μ1 hk => by rw [(hk (p - 1) (by omega) (by omega)).1]; exact hr
      have go25 : ∀ (s : Int) (μ1 : MM) (F1 : FV), 0 ≤ s → s ≤ 2 → ST D μ0 μ1 F1 → (AX κ mX0_placeFrom (e + 1) (QS (fun r μ' ν' => r = none ∧ ν' = ν ∧ ST D μ0 μ' (dn (SC D d) (cdP d D.cnt p) (K * (cdP d D.cnt p : Int)) F) ∧ PKp p μ μ')) 25 [aR 25, aR 14, aI p, aI ba, aI sec, aI s] [] μ1 ν) → AX κ mX0_placeFrom (e + 1) (QS (fun r μ' ν' => r = none ∧ ν' = ν ∧ ST D μ0 μ' (dn (SC D d) (cdP d D.cnt p) (K * (cdP d D.cnt p : Int)) F) ∧ PKp p μ μ')) 12 [aR 25, aR 14, aI p, aI ba, aI sec, aI s] [] μ1 ν := fun s μ1 F1 s0 s1 hS1 KK => by
        have dd1 : ¬ dor (μ1 14 3) p := by rw [ed μ1 F1 hS1]; exact dd
        refine aw_blk oX0_placeFrom_12 (pc' := 14) (ls' := [_, _, _, _, _, _]) (st' := [_]) (cs := []) rfl trivial ?_
        refine aw_if_lt (tgt := 61) eX0_placeFrom_14 (by decide) (by omega) (fun h5 => ?_) (fun h5 => ?_)
        · exfalso; omega
        · refine aw_blk oX0_placeFrom_17 (pc' := 19) (ls' := [_, _, _, _, _, _]) (st' := [_, _]) (cs := []) rfl trivial ?_
          refine aw_ciV (rest := []) (c_isDoor (by omega)) kX2_isDoor eX0_placeFrom_19 lX0_placeFrom_19 rfl rfl rfl rfl (Nat.le_of_ble_eq_true rfl) (fit_R2 rfl (by omega)) ⟨Nat.le_refl _, Nat.le_refl _⟩ ?_
          rw [if_neg dd1]
          refine aw_if_ne (tgt := 38) eX0_placeFrom_22 (by decide) (by omega) (fun h6 => ?_) (fun h6 => ?_)
          · exfalso; omega
          · exact KK
      have no : ∀ (s : Int) (μ1 : MM) (F1 : FV), 0 ≤ s → s ≤ 2 → s ≠ r → ST D μ0 μ1 F1 → PKp p μ μ1 → (AX κ mX0_placeFrom (e + 1) (QS (fun r μ' ν' => r = none ∧ ν' = ν ∧ ST D μ0 μ' (dn (SC D d) (cdP d D.cnt p) (K * (cdP d D.cnt p : Int)) F) ∧ PKp p μ μ')) 12 [aR 25, aR 14, aI p, aI ba, aI sec, aI (s - 1)] [] μ1 ν) → AX κ mX0_placeFrom (e + 1) (QS (fun r μ' ν' => r = none ∧ ν' = ν ∧ ST D μ0 μ' (dn (SC D d) (cdP d D.cnt p) (K * (cdP d D.cnt p : Int)) F) ∧ PKp p μ μ')) 12 [aR 25, aR 14, aI p, aI ba, aI sec, aI s] [] μ1 ν := fun s μ1 F1 s0 s1 sr hS1 hk KK => by
        refine go25 s μ1 F1 s0 s1 hS1 ?_
        refine aw_blk oX0_placeFrom_25 (pc' := 35) (ls' := [_, _, _, _, _, _]) (st' := [_, _]) (cs := [(_, _)]) rfl (⟨⟨by omega, by omega⟩, trivial⟩) ?_
        rw [e29 μ1 hk]
        refine aw_icmp_ne (tgt := 55) eX0_placeFrom_35 (by decide) (by omega) (by omega) (fun h5 => ?_) (fun h5 => ?_)
        · refine aw_blk oX0_placeFrom_55 (pc' := 12) (ls' := [_, _, _, _, _, _]) (st' := []) (cs := []) rfl trivial ?_
          exact KK
        · exfalso; omega
      have yes : ∀ (μ1 : MM), ST D μ0 μ1 F → PKp p μ μ1 → (∀ μ2 : MM, ST D μ0 μ2 (dn (SC D d) (cdP d D.cnt p) (K * (cdP d D.cnt p : Int)) F) → PKp p μ μ2 → AX κ mX0_placeFrom (e + 1) (QS (fun r μ' ν' => r = none ∧ ν' = ν ∧ ST D μ0 μ' (dn (SC D d) (cdP d D.cnt p) (K * (cdP d D.cnt p : Int)) F) ∧ PKp p μ μ')) 12 [aR 25, aR 14, aI p, aI ba, aI sec, aI (r - 1)] [] μ2 ν) → AX κ mX0_placeFrom (e + 1) (QS (fun r μ' ν' => r = none ∧ ν' = ν ∧ ST D μ0 μ' (dn (SC D d) (cdP d D.cnt p) (K * (cdP d D.cnt p : Int)) F) ∧ PKp p μ μ')) 12 [aR 25, aR 14, aI p, aI ba, aI sec, aI r] [] μ1 ν := fun μ1 hS1 hk KK => by
        refine go25 r μ1 F rb.1 rb.2 hS1 ?_
        refine aw_blk oX0_placeFrom_25 (pc' := 35) (ls' := [_, _, _, _, _, _]) (st' := [_, _]) (cs := [(_, _)]) rfl (⟨⟨by omega, by omega⟩, trivial⟩) ?_
        rw [e29 μ1 hk]
        refine aw_icmp_ne (tgt := 55) eX0_placeFrom_35 (by decide) (by omega) (by omega) (fun h5 => ?_) (fun h5 => ?_)
        · exfalso; omega
        · refine P38 r K μ1 F rb.1 rb.2 hK hS1 hk (fun code hc => ?_) (fun μ2 h1 h2 => KK μ2 (by rw [eN]; exact h1) h2)
          have q := inR.plain p0 hp.2 dd hc
          exact ⟨q.1, by rw [q.2]; exact rr code q.1⟩
      have k0 : PKp p μ μ := fun q q0 q1 => ⟨rfl, rfl, rfl, rfl⟩
      rcases (show r = 0 ∨ r = 1 ∨ r = 2 by omega) with rfl | rfl | rfl
      · refine no 2 μ F (by omega) (by omega) (by omega) hS k0 ?_
        refine no 1 μ F (by omega) (by omega) (by omega) hS k0 ?_
        exact yes μ hS k0 (fun μ2 h1 h2 => E12 μ2 h1 h2)
      · refine no 2 μ F (by omega) (by omega) (by omega) hS k0 ?_
        refine yes μ hS k0 (fun μ2 h1 h2 => ?_)
        refine no 0 μ2 _ (by omega) (by omega) (by omega) h1 h2 ?_
        exact E12 μ2 h1 h2
      · refine yes μ hS k0 (fun μ2 h1 h2 => ?_)
        refine no 1 μ2 _ (by omega) (by omega) (by omega) h1 h2 ?_
        refine no 0 μ2 _ (by omega) (by omega) (by omega) h1 h2 ?_
        exact E12 μ2 h1 h2
  refine AMet.of kX0_placeFrom.1 (Nat.le_of_ble_eq_true rfl) rfl ?_
  refine aw_blk oX0_placeFrom_0 (pc' := 5) (ls' := [_, _, _, _, _, _]) (st' := [_, _]) (cs := []) rfl trivial ?_
  rw [ec μ F hS]
  refine aw_icmp_lt (tgt := 9) eX0_placeFrom_5 (by decide) (by omega) (by omega) (fun h5 => ?_) (fun h5 => ?_)
  · refine aw_blk oX0_placeFrom_9 (pc' := 12) (ls' := [_, _, _, _, _, _]) (st' := []) (cs := []) rfl trivial ?_
    exact E9
  · exfalso; omega
theorem PF_all {κ : KX} {μ0 : MM} {ν : ML} {D : FD} {d : Int} (hbd : BD D d μ0) : ∀ (n : Nat) (p : Int), 0 ≤ p → p + (n + 1 : Nat) = D.cnt → PFs κ ν D d μ0 (2 * n + 4) p
  | 0, p, p0, pn => c_placeFrom hbd ⟨p0, by omega⟩ (c_place hbd ⟨p0, by omega⟩ (e := 2) (by omega) (fun q => by omega))
  | n + 1, p, p0, pn => c_placeFrom hbd ⟨p0, by omega⟩ (c_place hbd ⟨p0, by omega⟩ (e := 2 * n + 4) (by omega) (fun _ => PF_all hbd n (p + 1) (by omega) (by omega)))

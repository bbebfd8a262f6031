/-! ===== the class's search: weighing ===== -/
/-- a quadruple of choices: rc b x says that x is a choice of block b -/
def rcQ (rc : Int → Int → Prop) (a b c d : Int) : Prop := rc 0 a ∧ rc 1 b ∧ rc 2 c ∧ rc 3 d
/-- the best so far, of the choices before N -/
def DQ (l : Int → Int → Int) (rc : Int → Int → Prop) (lim N B L : Int) (w : Int → Int) : Prop :=
  (B = 1000000 ∧ L = 1000000 ∧ ∀ a' b' c' d' : Int, rcQ rc a' b' c' d' → qN a' b' c' d' < N → lim < qB a' b' c' d') ∨
  (rcQ rc (w 0) (w 1) (w 2) (w 3) ∧ B = qB (w 0) (w 1) (w 2) (w 3) ∧ L = qL l (w 0) (w 1) (w 2) (w 3) ∧ B ≤ lim ∧ qN (w 0) (w 1) (w 2) (w 3) < N ∧
    ∀ a' b' c' d' : Int, rcQ rc a' b' c' d' → qN a' b' c' d' < N → qB a' b' c' d' ≤ lim → L < qL l a' b' c' d' ∨ (L = qL l a' b' c' d' ∧ (B < qB a' b' c' d' ∨ (B = qB a' b' c' d' ∧ qN (w 0) (w 1) (w 2) (w 3) ≤ qN a' b' c' d'))))
/-- choices are ways -/
def rcB (rc : Int → Int → Prop) : Prop := ∀ b x : Int, rc b x → 0 ≤ x ∧ x < 11
theorem rcQ.bd {rc : Int → Int → Prop} (hr : rcB rc) {a b c d : Int} (h : rcQ rc a b c d) : (0 ≤ a ∧ a < 11) ∧ (0 ≤ b ∧ b < 11) ∧ (0 ≤ c ∧ c < 11) ∧ (0 ≤ d ∧ d < 11) := ⟨hr 0 a h.1, hr 1 b h.2.1, hr 2 c h.2.2.1, hr 3 d h.2.2.2⟩
theorem DQ.bd {l : Int → Int → Int} {rc : Int → Int → Prop} {lim N B L : Int} {w : Int → Int} (h : DQ l rc lim N B L w) (hl : ∀ x y : Int, 0 ≤ l x y ∧ l x y ≤ 900) : (4 ≤ B ∧ B ≤ 1000000) ∧ (0 ≤ L ∧ L ≤ 1000000) := by
  rcases h with ⟨h1, h2, -⟩ | ⟨h1, h2, h3, -⟩
  · omega
  · have := qB_bd (a := w 0) (b := w 1) (c := w 2) (d := w 3)
    have g0 := hl 0 (w 0)
    have g1 := hl 1 (w 1)
    have g2 := hl 2 (w 2)
    have g3 := hl 3 (w 3)
    unfold qL at h3
    omega
/-- nothing that counts lies between N and N' -/
theorem DQ.skip {l : Int → Int → Int} {rc : Int → Int → Prop} {lim N N' B L : Int} {w : Int → Int} (h : DQ l rc lim N B L w) (hN : N ≤ N') (hs : ∀ a' b' c' d' : Int, rcQ rc a' b' c' d' → N ≤ qN a' b' c' d' → qN a' b' c' d' < N' → lim < qB a' b' c' d' ∨ L < qL l a' b' c' d') (hL : L = 1000000 → ∀ a' b' c' d' : Int, qL l a' b' c' d' < 1000000) : DQ l rc lim N' B L w := by
  rcases h with ⟨h1, h2, h4⟩ | ⟨h1, h2, h3, h4, h5, h6⟩
  · refine Or.inl ⟨h1, h2, fun a' b' c' d' hq hn => ?_⟩
    by_cases k : qN a' b' c' d' < N
    · exact h4 a' b' c' d' hq k
    · have g := hL h2 a' b' c' d'
      rcases hs a' b' c' d' hq (by omega) hn with q | q
      · exact q
      · omega
  · refine Or.inr ⟨h1, h2, h3, h4, by omega, fun a' b' c' d' hq hn hb => ?_⟩
    by_cases k : qN a' b' c' d' < N
    · exact h6 a' b' c' d' hq k hb
    · rcases hs a' b' c' d' hq (by omega) hn with q | q
      · omega
      · exact Or.inl q
theorem DQ.take {l : Int → Int → Int} {rc : Int → Int → Prop} {lim B L : Int} {w w' : Int → Int} {a b c d : Int} (hr : rcB rc) (h : DQ l rc lim (qN a b c d) B L w) (hq : rcQ rc a b c d) (hb : qB a b c d ≤ lim) (hu : qL l a b c d < L ∨ (qL l a b c d = L ∧ qB a b c d < B)) (e0 : w' 0 = a) (e1 : w' 1 = b) (e2 : w' 2 = c) (e3 : w' 3 = d) : DQ l rc lim (qN a b c d + 1) (qB a b c d) (qL l a b c d) w' := by
  right
  rw [e0, e1, e2, e3]
  refine ⟨hq, rfl, rfl, hb, by omega, ?_⟩
  intro a' b' c' d' hq' hn hb'
  by_cases e : qN a' b' c' d' = qN a b c d
  · obtain ⟨rfl, rfl, rfl, rfl⟩ := qN_inj (hq.bd hr) (hq'.bd hr) e
    omega
  · rcases h with ⟨-, -, h⟩ | ⟨h1, h2, h3, h4, h5, h6⟩
    · have := h a' b' c' d' hq' (by omega)
      omega
    · have := h6 a' b' c' d' hq' (by omega) hb'
      omega
theorem DQ.leave {l : Int → Int → Int} {rc : Int → Int → Prop} {lim B L : Int} {w : Int → Int} {a b c d : Int} (hr : rcB rc) (h : DQ l rc lim (qN a b c d) B L w) (hq : rcQ rc a b c d) (hl : ∀ a b c d : Int, qL l a b c d < 1000000) (hu : ¬ (qL l a b c d < L ∨ (qL l a b c d = L ∧ qB a b c d < B))) : DQ l rc lim (qN a b c d + 1) B L w := by
  have g := hl a b c d
  rcases h with ⟨h1, h2, h4⟩ | ⟨h1, h2, h3, h4, h5, h6⟩
  · exfalso; omega
  · refine Or.inr ⟨h1, h2, h3, h4, by omega, fun a' b' c' d' hq' hn hb => ?_⟩
    by_cases e : qN a' b' c' d' = qN a b c d
    · obtain ⟨rfl, rfl, rfl, rfl⟩ := qN_inj (hq.bd hr) (hq'.bd hr) e
      omega
    · exact h6 a' b' c' d' hq' (by omega) hb
theorem c_weigh1 {κ : KX} {μ : MM} {ν : ML} {bits loss : Int} (hb : R32 bits) (hl : R32 loss) (h6 : R32 (μ 9 6)) (h7 : R32 (μ 9 7)) (hu : loss < μ 9 6 ∨ (loss = μ 9 6 ∧ bits < μ 9 7)) : AE κ 1 mX1_weigh [aR 9, aI bits, aI loss] μ ν none (cp4 (up (up μ 9 6 loss) 9 7 bits) 12 13) ν := by
  have E24 : AX κ mX1_weigh 1 (PE none (cp4 (up (up μ 9 6 loss) 9 7 bits) 12 13) ν) 24 [aR 9, aI bits, aI loss] [] μ ν := by
    refine aw_blk oX1_weigh_24 (pc' := 45) (ls' := [_, _, _]) (st' := [_, _, _, _, _]) (cs := []) rfl trivial ?_
    refine aw_copy (x0 := 12) (x1 := 13) (n0 := 4) (n1 := 4) (r := []) (p1 := 511) eX1_weigh_45 (by decide +kernel) rfl rfl (Nat.le_refl 4) (Nat.le_refl 4) (Nat.le_of_ble_eq_true rfl) ⟨Nat.le_of_ble_eq_true rfl, Nat.le_of_ble_eq_true rfl⟩ ?_
    refine aw_vret eX1_weigh_48 rfl (Nat.le_refl _) (Nat.le_refl _) ?_
    exact pe_v rfl rfl
  refine AMet.of kX1_weigh.1 (Nat.le_of_ble_eq_true rfl) rfl ?_
  refine aw_blk oX1_weigh_0 (pc' := 5) (ls' := [_, _, _]) (st' := [_, _]) (cs := []) rfl trivial ?_
  refine aw_icmp_lt (tgt := 24) eX1_weigh_5 (by decide) (by omega) (by omega) (fun h1 => ?_) (fun h1 => ?_)
  · first
    | (exfalso; omega; done)
    | (exact E24)
  · first
    | (exfalso; omega; done)
    | (refine aw_blk oX1_weigh_8 (pc' := 13) (ls' := [_, _, _]) (st' := [_, _]) (cs := []) rfl trivial ?_
       refine aw_icmp_ne (tgt := 48) eX1_weigh_13 (by decide) (by omega) (by omega) (fun h2 => ?_) (fun h2 => ?_)
       · first
         | (exfalso; omega; done)
         | (refine aw_vret eX1_weigh_48 rfl (Nat.le_refl _) (Nat.le_refl _) ?_
            skip)
       · first
         | (exfalso; omega; done)
         | (refine aw_blk oX1_weigh_16 (pc' := 21) (ls' := [_, _, _]) (st' := [_, _]) (cs := []) rfl trivial ?_
            refine aw_icmp_ge (tgt := 48) eX1_weigh_21 (by decide) (by omega) (by omega) (fun h3 => ?_) (fun h3 => ?_)
            · first
              | (exfalso; omega; done)
              | (refine aw_vret eX1_weigh_48 rfl (Nat.le_refl _) (Nat.le_refl _) ?_
                 skip)
            · first
              | (exfalso; omega; done)
              | (exact E24)))
theorem c_weigh0 {κ : KX} {μ : MM} {ν : ML} {bits loss : Int} (hb : R32 bits) (hl : R32 loss) (h6 : R32 (μ 9 6)) (h7 : R32 (μ 9 7)) (hu : ¬ (loss < μ 9 6 ∨ (loss = μ 9 6 ∧ bits < μ 9 7))) : AE κ 1 mX1_weigh [aR 9, aI bits, aI loss] μ ν none μ ν := by
  refine AMet.of kX1_weigh.1 (Nat.le_of_ble_eq_true rfl) rfl ?_
  refine aw_blk oX1_weigh_0 (pc' := 5) (ls' := [_, _, _]) (st' := [_, _]) (cs := []) rfl trivial ?_
  refine aw_icmp_lt (tgt := 24) eX1_weigh_5 (by decide) (by omega) (by omega) (fun h4 => ?_) (fun h4 => ?_)
  · first
    | (exfalso; omega; done)
    | (skip)
  · first
    | (exfalso; omega; done)
    | (refine aw_blk oX1_weigh_8 (pc' := 13) (ls' := [_, _, _]) (st' := [_, _]) (cs := []) rfl trivial ?_
       refine aw_icmp_ne (tgt := 48) eX1_weigh_13 (by decide) (by omega) (by omega) (fun h5 => ?_) (fun h5 => ?_)
       · first
         | (exfalso; omega; done)
         | (refine aw_vret eX1_weigh_48 rfl (Nat.le_refl _) (Nat.le_refl _) ?_
            exact pe_v rfl rfl)
       · first
         | (exfalso; omega; done)
         | (refine aw_blk oX1_weigh_16 (pc' := 21) (ls' := [_, _, _]) (st' := [_, _]) (cs := []) rfl trivial ?_
            refine aw_icmp_ge (tgt := 48) eX1_weigh_21 (by decide) (by omega) (by omega) (fun h6 => ?_) (fun h6 => ?_)
            · first
              | (exfalso; omega; done)
              | (refine aw_vret eX1_weigh_48 rfl (Nat.le_refl _) (Nat.le_refl _) ?_
                 exact pe_v rfl rfl)
            · first
              | (exfalso; omega; done)
              | (skip)))

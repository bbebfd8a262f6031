/-! ===== NODES ===== -/
def rowU (f : Int → Int) (i v : Int) : Int → Int := fun j => if j = i then v else f j
def setRow (μ : MM) (c : Nat) (f : Int → Int) : MM := fun c' => if c' = c then f else μ c'
theorem setRow_at {μ : MM} {c : Nat} {f : Int → Int} : setRow μ c f c = f := if_pos rfl
theorem setRow_ne {μ : MM} {c c' : Nat} {f : Int → Int} (h : c' ≠ c) : setRow μ c f c' = μ c' := if_neg h
theorem setRow_self {μ : MM} {c : Nat} : setRow μ c (μ c) = μ := by
  funext c'
  unfold setRow
  split
  · rename_i h; rw [h]
  · rfl
theorem up_setRow {μ : MM} {c : Nat} {f : Int → Int} {i v : Int} : up (setRow μ c f) c i v = setRow μ c (rowU f i v) := by
  funext c' j
  unfold up setRow rowU
  by_cases h : c' = c
  · subst h
    by_cases h2 : j = i <;> simp [h2]
  · simp [h]
theorem up_row {μ : MM} {c : Nat} {i v : Int} : up μ c i v c = rowU (μ c) i v := by
  funext j
  unfold up rowU
  by_cases h2 : j = i <;> simp [h2]
theorem SR.row {cs : List Nat} {μ μ' : MM} {c : Nat} {f : Int → Int} (h : SR cs μ μ') (hc : c ∈ cs) : SR cs μ (setRow μ' c f) := fun c' hc' => by
  have hne : c' ≠ c := fun e => hc' (by rw [e]; exact hc)
  rw [setRow_ne hne]
  exact h c' hc'
def RS (μ : MM) : Prop := ∀ i : Int, 0 ≤ i → i < 7 → μ 58 i = μ 1 i ∧ stv 0 i ≤ μ 1 i ∧ μ 1 i ≤ stv 1 i
def okP (par : Int → Int) : Prop := ∀ i : Int, 1 ≤ i → i < 10 → 0 ≤ par i ∧ par i < i
def okD (del : Int → Int) : Prop := ∀ i : Int, 1 ≤ i → i < 10 → 1 ≤ del i ∧ del i ≤ 100
def okF (fl : Int → Int) : Prop := ∀ i : Int, 0 ≤ i → i < 10 → 0 ≤ fl i ∧ fl i ≤ 1
def eqN (f g : Int → Int) : Prop := ∀ i : Int, 1 ≤ i → i < 10 → f i = g i
def RN (μ : MM) : Prop := okP (μ 52) ∧ okD (μ 53) ∧ okF (μ 54) ∧ μ 54 0 = 0 ∧ μ 75 0 = 0 ∧ eqN (μ 73) (μ 52) ∧ eqN (μ 74) (μ 53) ∧ eqN (μ 75) (μ 54) ∧ ∀ i : Int, 1 ≤ i → i < 10 → μ 54 i = 0 → μ 54 (μ 52 i) = 0
abbrev csN : List Nat := [52, 53, 54, 73, 74, 75]
def bh (par del : Int → Int) : Nat → Int → Int
  | 0, _ => 0
  | f + 1, k => if k ≤ 0 then 0 else del k + bh par del f (par k)
theorem bh_bd {par del : Int → Int} (hp : okP par) (hd : okD del) : ∀ (f : Nat) (k : Int), k < 10 → 0 ≤ bh par del f k ∧ bh par del f k ≤ 100 * f
  | 0, _, _ => by simp [bh]
  | f + 1, k, hk => by
    simp only [bh]
    split
    · omega
    · have h1 := hp k (by omega) hk
      have h2 := hd k (by omega) hk
      have := bh_bd hp hd f (par k) (by omega)
      omega
theorem bh_eq {par del par' del' : Int → Int} (hp : okP par) (h1 : eqN par' par) (h2 : eqN del' del) : ∀ (f : Nat) (k : Int), k < 10 → bh par' del' f k = bh par del f k
  | 0, _, _ => rfl
  | f + 1, k, hk => by
    simp only [bh]
    split
    · rfl
    · have := hp k (by omega) hk
      rw [h1 k (by omega) hk, h2 k (by omega) hk, bh_eq hp h1 h2 f (par k) (by omega)]
def hc (fl par : Int → Int) (on but : Int) : Int := sm (fun j => if fl (j + 1) = 0 ∧ par (j + 1) = on ∧ ¬ j + 1 = but then 1 else 0) 9
theorem hc_bd {fl par : Int → Int} {on but : Int} : 0 ≤ hc fl par on but ∧ hc fl par on but ≤ 9 := by
  have := sm_bd (g := fun j => if fl (j + 1) = 0 ∧ par (j + 1) = on ∧ ¬ j + 1 = but then 1 else 0) (B := 1) 9 (fun k hk => by split <;> omega)
  exact ⟨this.1, by have := this.2; simp at this; exact this⟩
theorem hc_eq {fl par fl' par' : Int → Int} {on but : Int} (h1 : eqN fl' fl) (h2 : eqN par' par) : hc fl' par' on but = hc fl par on but :=
  sm_congr 9 (fun k hk => by rw [h1 (k + 1) (by omega) (by omega), h2 (k + 1) (by omega) (by omega)])
theorem l_hangingOn {κ : KX} {μ : MM} {ν : ML} {on but : Int} (ho : R32 on) (hb : R32 but) (hP : okP (μ 52)) (hF : okF (μ 54)) (n : Nat) : ∀ k : Nat, k + n = 9 → AX κ mX6_hangingOn 0 (PE (some (aI (hc (μ 54) (μ 52) on but))) μ ν) 5 [aR 51, aI on, aI but, aI (sm (fun j => if μ 54 (j + 1) = 0 ∧ μ 52 (j + 1) = on ∧ ¬ j + 1 = but then 1 else 0) k), aI ((k : Int) + 1)] [] μ ν := by
  induction n with
  | zero =>
    intro k hk
    have e : k = 9 := by omega
    subst e
    refine aw_blk oX6_hangingOn_5 (pc' := 9) (ls' := [_, _, _, _, _]) (st' := [_, _]) (cs := []) rfl trivial ?_
    refine aw_icmp_ge (tgt := 48) eX6_hangingOn_9 (by decide) (by omega) (by omega) (fun h => ?_) (fun h => ?_)
    · refine aw_blk oX6_hangingOn_48 (pc' := 49) (ls' := [_, _, _, _, _]) (st' := [_]) (cs := []) rfl trivial ?_
      refine aw_iret eX6_hangingOn_49 rfl (Nat.le_refl _) (Nat.le_refl _) ?_
      exact pe_i rfl rfl rfl
    · exfalso; omega
  | succ n ih =>
    intro k hk
    have T := ih (k + 1) (by omega)
    rw [sm_succ (n := k)] at T
    have g1 := hP ((k : Int) + 1) (by omega) (by omega)
    have g2 := hF ((k : Int) + 1) (by omega) (by omega)
    refine aw_blk oX6_hangingOn_5 (pc' := 9) (ls' := [_, _, _, _, _]) (st' := [_, _]) (cs := []) rfl trivial ?_
    refine aw_icmp_ge (tgt := 48) eX6_hangingOn_9 (by decide) (by omega) (by omega) (fun h => ?_) (fun h => ?_)
    · exfalso; omega
    · refine aw_blk oX6_hangingOn_12 (pc' := 19) (ls' := [_, _, _, _, _]) (st' := [_]) (cs := [(_, _)]) rfl (⟨⟨by omega, by omega⟩, trivial⟩) ?_
      refine aw_if_ne (tgt := 42) eX6_hangingOn_19 (by decide) (by omega) (fun h1 => ?_) (fun h1 => ?_)
      · rw [if_neg (fun q => h1 q.1), Int.add_zero] at T
        refine aw_blk oX6_hangingOn_42 (pc' := 5) (ls' := [_, _, _, _, _]) (st' := []) (cs := []) rfl trivial ?_
        exact T
      · refine aw_blk oX6_hangingOn_22 (pc' := 30) (ls' := [_, _, _, _, _]) (st' := [_, _]) (cs := [(_, _)]) rfl (⟨⟨by omega, by omega⟩, trivial⟩) ?_
        refine aw_icmp_ne (tgt := 42) eX6_hangingOn_30 (by decide) (by omega) (by omega) (fun h2 => ?_) (fun h2 => ?_)
        · rw [if_neg (fun q => h2 q.2.1), Int.add_zero] at T
          refine aw_blk oX6_hangingOn_42 (pc' := 5) (ls' := [_, _, _, _, _]) (st' := []) (cs := []) rfl trivial ?_
          exact T
        · refine aw_blk oX6_hangingOn_33 (pc' := 36) (ls' := [_, _, _, _, _]) (st' := [_, _]) (cs := []) rfl trivial ?_
          refine aw_icmp_eq (tgt := 42) eX6_hangingOn_36 (by decide) (by omega) (by omega) (fun h3 => ?_) (fun h3 => ?_)
          · rw [if_neg (fun q => q.2.2 h3), Int.add_zero] at T
            refine aw_blk oX6_hangingOn_42 (pc' := 5) (ls' := [_, _, _, _, _]) (st' := []) (cs := []) rfl trivial ?_
            exact T
          · rw [if_pos ⟨h1, h2, h3⟩] at T
            refine aw_blk oX6_hangingOn_39 (pc' := 42) (ls' := [_, _, _, _, _]) (st' := []) (cs := []) rfl trivial ?_
            refine aw_blk oX6_hangingOn_42 (pc' := 5) (ls' := [_, _, _, _, _]) (st' := []) (cs := []) rfl trivial ?_
            exact T
theorem c_hangingOn {κ : KX} {μ : MM} {ν : ML} {on but : Int} (ho : R32 on) (hb : R32 but) (hP : okP (μ 52)) (hF : okF (μ 54)) : AE κ 0 mX6_hangingOn [aR 51, aI on, aI but] μ ν (some (aI (hc (μ 54) (μ 52) on but))) μ ν := by
  refine AMet.of kX6_hangingOn.1 (Nat.le_of_ble_eq_true rfl) rfl ?_
  refine aw_blk oX6_hangingOn_0 (pc' := 5) (ls' := [_, _, _, _, _]) (st' := []) (cs := []) rfl trivial ?_
  exact l_hangingOn ho hb hP hF 9 0 rfl
theorem l_hungOn {κ : KX} {μ : MM} {ν : ML} {on but : Int} (ho : R32 on) (hb : R32 but) (hP : okP (μ 73)) (hF : okF (μ 75)) (n : Nat) : ∀ k : Nat, k + n = 9 → AX κ mX12_hungOn 0 (PE (some (aI (hc (μ 75) (μ 73) on but))) μ ν) 5 [aR 55, aI on, aI but, aI (sm (fun j => if μ 75 (j + 1) = 0 ∧ μ 73 (j + 1) = on ∧ ¬ j + 1 = but then 1 else 0) k), aI ((k : Int) + 1)] [] μ ν := by
  induction n with
  | zero =>
    intro k hk
    have e : k = 9 := by omega
    subst e
    refine aw_blk oX12_hungOn_5 (pc' := 9) (ls' := [_, _, _, _, _]) (st' := [_, _]) (cs := []) rfl trivial ?_
    refine aw_icmp_ge (tgt := 53) eX12_hungOn_9 (by decide) (by omega) (by omega) (fun h => ?_) (fun h => ?_)
    · refine aw_blk oX12_hungOn_53 (pc' := 54) (ls' := [_, _, _, _, _]) (st' := [_]) (cs := []) rfl trivial ?_
      refine aw_iret eX12_hungOn_54 rfl (Nat.le_refl _) (Nat.le_refl _) ?_
      exact pe_i rfl rfl rfl
    · exfalso; omega
  | succ n ih =>
    intro k hk
    have T := ih (k + 1) (by omega)
    rw [sm_succ (n := k)] at T
    have g1 := hP ((k : Int) + 1) (by omega) (by omega)
    have g2 := hF ((k : Int) + 1) (by omega) (by omega)
    refine aw_blk oX12_hungOn_5 (pc' := 9) (ls' := [_, _, _, _, _]) (st' := [_, _]) (cs := []) rfl trivial ?_
    refine aw_icmp_ge (tgt := 53) eX12_hungOn_9 (by decide) (by omega) (by omega) (fun h => ?_) (fun h => ?_)
    · exfalso; omega
    · refine aw_blk oX12_hungOn_12 (pc' := 16) (ls' := [_, _, _, _, _]) (st' := [_, _, _]) (cs := []) rfl trivial ?_
      refine aw_icmp_eq (tgt := 44) eX12_hungOn_16 (by decide) (by omega) (by omega) (fun h3 => ?_) (fun h3 => ?_)
      · rw [if_neg (fun q => q.2.2 h3)] at T
        refine aw_blk oX12_hungOn_44 (pc' := 45) (ls' := [_, _, _, _, _]) (st' := [_, _]) (cs := []) rfl trivial ?_
        refine aw_blk oX12_hungOn_45 (pc' := 5) (ls' := [_, _, _, _, _]) (st' := []) (cs := []) rfl trivial ?_
        exact T
      · refine aw_blk oX12_hungOn_19 (pc' := 26) (ls' := [_, _, _, _, _]) (st' := [_, _]) (cs := [(_, _)]) rfl (⟨⟨by omega, by omega⟩, trivial⟩) ?_
        refine aw_if_ne (tgt := 44) eX12_hungOn_26 (by decide) (by omega) (fun h1 => ?_) (fun h1 => ?_)
        · rw [if_neg (fun q => h1 q.1)] at T
          refine aw_blk oX12_hungOn_44 (pc' := 45) (ls' := [_, _, _, _, _]) (st' := [_, _]) (cs := []) rfl trivial ?_
          refine aw_blk oX12_hungOn_45 (pc' := 5) (ls' := [_, _, _, _, _]) (st' := []) (cs := []) rfl trivial ?_
          exact T
        · refine aw_blk oX12_hungOn_29 (pc' := 37) (ls' := [_, _, _, _, _]) (st' := [_, _, _]) (cs := [(_, _)]) rfl (⟨⟨by omega, by omega⟩, trivial⟩) ?_
          refine aw_icmp_ne (tgt := 44) eX12_hungOn_37 (by decide) (by omega) (by omega) (fun h2 => ?_) (fun h2 => ?_)
          · rw [if_neg (fun q => h2 q.2.1)] at T
            refine aw_blk oX12_hungOn_44 (pc' := 45) (ls' := [_, _, _, _, _]) (st' := [_, _]) (cs := []) rfl trivial ?_
            refine aw_blk oX12_hungOn_45 (pc' := 5) (ls' := [_, _, _, _, _]) (st' := []) (cs := []) rfl trivial ?_
            exact T
          · rw [if_pos ⟨h1, h2, h3⟩] at T
            refine aw_blk oX12_hungOn_40 (pc' := 45) (ls' := [_, _, _, _, _]) (st' := [_, _]) (cs := []) rfl trivial ?_
            refine aw_blk oX12_hungOn_45 (pc' := 5) (ls' := [_, _, _, _, _]) (st' := []) (cs := []) rfl trivial ?_
            exact T
theorem c_hungOn {κ : KX} {μ : MM} {ν : ML} {on but : Int} (ho : R32 on) (hb : R32 but) (hP : okP (μ 73)) (hF : okF (μ 75)) : AE κ 0 mX12_hungOn [aR 55, aI on, aI but] μ ν (some (aI (hc (μ 75) (μ 73) on but))) μ ν := by
  refine AMet.of kX12_hungOn.1 (Nat.le_of_ble_eq_true rfl) rfl ?_
  refine aw_blk oX12_hungOn_0 (pc' := 5) (ls' := [_, _, _, _, _]) (st' := []) (cs := []) rfl trivial ?_
  exact l_hungOn ho hb hP hF 9 0 rfl
theorem l_delay {κ : KX} {μ : MM} {ν : ML} {m r : Int} (hP : okP (μ 52)) (f : Nat) : ∀ (st k d : Int), 0 ≤ st → st + f = 10 → 0 ≤ k → k < 10 → d + bh (μ 52) (μ 53) f k = r → AX κ mX6_delayUpTo0 0 (PE (some (aI r)) μ ν) 7 [aR 51, aI m, aI d, aI k, aI st] [] μ ν := by
  induction f with
  | zero =>
    intro st k d h0 h1 h2 h3 h4
    simp only [bh] at h4
    refine aw_blk oX6_delayUpTo0_7 (pc' := 11) (ls' := [_, _, _, _, _]) (st' := [_, _]) (cs := []) rfl trivial ?_
    refine aw_icmp_ge (tgt := 40) eX6_delayUpTo0_11 (by decide) (by omega) (by omega) (fun h1 => ?_) (fun h1 => ?_)
    · first
      | (exfalso; omega; done)
      | (refine aw_blk oX6_delayUpTo0_40 (pc' := 41) (ls' := [_, _, _, _, _]) (st' := [_]) (cs := []) rfl trivial ?_
         refine aw_iret eX6_delayUpTo0_41 rfl (Nat.le_refl _) (Nat.le_refl _) ?_
         exact pe_i (by omega) rfl rfl)
    · first
      | (exfalso; omega; done)
      | (refine aw_blk oX6_delayUpTo0_14 (pc' := 15) (ls' := [_, _, _, _, _]) (st' := [_]) (cs := []) rfl trivial ?_
         refine aw_if_le (tgt := 40) eX6_delayUpTo0_15 (by decide) (by omega) (fun h2 => ?_) (fun h2 => ?_)
         · first
           | (exfalso; omega; done)
           | (refine aw_blk oX6_delayUpTo0_40 (pc' := 41) (ls' := [_, _, _, _, _]) (st' := [_]) (cs := []) rfl trivial ?_
              refine aw_iret eX6_delayUpTo0_41 rfl (Nat.le_refl _) (Nat.le_refl _) ?_
              exact pe_i (by omega) rfl rfl)
         · first
           | (exfalso; omega; done)
           | (refine aw_blk oX6_delayUpTo0_18 (pc' := 7) (ls' := [_, _, _, _, _]) (st' := []) (cs := [(_, _), (_, _)]) rfl (⟨⟨by omega, by omega⟩, ⟨by omega, by omega⟩, trivial⟩) ?_
              skip))
  | succ f ih =>
    intro st k d h0 h1 h2 h3 h4
    simp only [bh] at h4
    by_cases hk : k ≤ 0
    · rw [if_pos hk] at h4
      refine aw_blk oX6_delayUpTo0_7 (pc' := 11) (ls' := [_, _, _, _, _]) (st' := [_, _]) (cs := []) rfl trivial ?_
      refine aw_icmp_ge (tgt := 40) eX6_delayUpTo0_11 (by decide) (by omega) (by omega) (fun h3 => ?_) (fun h3 => ?_)
      · first
        | (exfalso; omega; done)
        | (refine aw_blk oX6_delayUpTo0_40 (pc' := 41) (ls' := [_, _, _, _, _]) (st' := [_]) (cs := []) rfl trivial ?_
           refine aw_iret eX6_delayUpTo0_41 rfl (Nat.le_refl _) (Nat.le_refl _) ?_
           exact pe_i (by omega) rfl rfl)
      · first
        | (exfalso; omega; done)
        | (refine aw_blk oX6_delayUpTo0_14 (pc' := 15) (ls' := [_, _, _, _, _]) (st' := [_]) (cs := []) rfl trivial ?_
           refine aw_if_le (tgt := 40) eX6_delayUpTo0_15 (by decide) (by omega) (fun h4 => ?_) (fun h4 => ?_)
           · first
             | (exfalso; omega; done)
             | (refine aw_blk oX6_delayUpTo0_40 (pc' := 41) (ls' := [_, _, _, _, _]) (st' := [_]) (cs := []) rfl trivial ?_
                refine aw_iret eX6_delayUpTo0_41 rfl (Nat.le_refl _) (Nat.le_refl _) ?_
                exact pe_i (by omega) rfl rfl)
           · first
             | (exfalso; omega; done)
             | (refine aw_blk oX6_delayUpTo0_18 (pc' := 7) (ls' := [_, _, _, _, _]) (st' := []) (cs := [(_, _), (_, _)]) rfl (⟨⟨by omega, by omega⟩, ⟨by omega, by omega⟩, trivial⟩) ?_
                skip))
    · rw [if_neg hk] at h4
      have g1 := hP k (by omega) h3
      refine aw_blk oX6_delayUpTo0_7 (pc' := 11) (ls' := [_, _, _, _, _]) (st' := [_, _]) (cs := []) rfl trivial ?_
      refine aw_icmp_ge (tgt := 40) eX6_delayUpTo0_11 (by decide) (by omega) (by omega) (fun h5 => ?_) (fun h5 => ?_)
      · first
        | (exfalso; omega; done)
        | (refine aw_blk oX6_delayUpTo0_40 (pc' := 41) (ls' := [_, _, _, _, _]) (st' := [_]) (cs := []) rfl trivial ?_
           refine aw_iret eX6_delayUpTo0_41 rfl (Nat.le_refl _) (Nat.le_refl _) ?_
           skip)
      · first
        | (exfalso; omega; done)
        | (refine aw_blk oX6_delayUpTo0_14 (pc' := 15) (ls' := [_, _, _, _, _]) (st' := [_]) (cs := []) rfl trivial ?_
           refine aw_if_le (tgt := 40) eX6_delayUpTo0_15 (by decide) (by omega) (fun h6 => ?_) (fun h6 => ?_)
           · first
             | (exfalso; omega; done)
             | (refine aw_blk oX6_delayUpTo0_40 (pc' := 41) (ls' := [_, _, _, _, _]) (st' := [_]) (cs := []) rfl trivial ?_
                refine aw_iret eX6_delayUpTo0_41 rfl (Nat.le_refl _) (Nat.le_refl _) ?_
                skip)
           · first
             | (exfalso; omega; done)
             | (refine aw_blk oX6_delayUpTo0_18 (pc' := 7) (ls' := [_, _, _, _, _]) (st' := []) (cs := [(_, _), (_, _)]) rfl (⟨⟨by omega, by omega⟩, ⟨by omega, by omega⟩, trivial⟩) ?_
                exact ih (st + 1) _ _ (by omega) (by omega) (by omega) (by omega) (by omega)))
theorem c_delay {κ : KX} {μ : MM} {ν : ML} {m : Int} (hP : okP (μ 52)) (hm : 0 ≤ m ∧ m < 10) : AE κ 0 mX6_delayUpTo0 [aR 51, aI m] μ ν (some (aI (bh (μ 52) (μ 53) 10 m))) μ ν := by
  refine AMet.of kX6_delayUpTo0.1 (Nat.le_of_ble_eq_true rfl) rfl ?_
  refine aw_blk oX6_delayUpTo0_0 (pc' := 7) (ls' := [_, _, _, _, _]) (st' := []) (cs := []) rfl trivial ?_
  exact l_delay hP 10 0 m 0 (by omega) rfl hm.1 hm.2 (by omega)
theorem l_behindOf {κ : KX} {μ : MM} {ν : ML} {m r : Int} (hP : okP (μ 73)) (f : Nat) : ∀ (k d : Int), 0 ≤ k → k < 10 → k ≤ f → d + bh (μ 73) (μ 74) f k = r → AX κ mX12_behindOf 0 (PE (some (aI r)) μ ν) 4 [aR 55, aI m, aI d, aI k] [] μ ν := by
  induction f with
  | zero =>
    intro k d h1 h2 h3 h4
    simp only [bh] at h4
    refine aw_blk oX12_behindOf_4 (pc' := 5) (ls' := [_, _, _, _]) (st' := [_]) (cs := []) rfl trivial ?_
    refine aw_if_le (tgt := 27) eX12_behindOf_5 (by decide) (by omega) (fun h7 => ?_) (fun h7 => ?_)
    · first
      | (exfalso; omega; done)
      | (refine aw_blk oX12_behindOf_27 (pc' := 28) (ls' := [_, _, _, _]) (st' := [_]) (cs := []) rfl trivial ?_
         refine aw_iret eX12_behindOf_28 rfl (Nat.le_refl _) (Nat.le_refl _) ?_
         exact pe_i (by omega) rfl rfl)
    · first
      | (exfalso; omega; done)
      | (refine aw_blk oX12_behindOf_8 (pc' := 4) (ls' := [_, _, _, _]) (st' := []) (cs := [(_, _), (_, _)]) rfl (⟨⟨by omega, by omega⟩, ⟨by omega, by omega⟩, trivial⟩) ?_
         skip)
  | succ f ih =>
    intro k d h1 h2 h3 h4
    simp only [bh] at h4
    by_cases hk : k ≤ 0
    · rw [if_pos hk] at h4
      refine aw_blk oX12_behindOf_4 (pc' := 5) (ls' := [_, _, _, _]) (st' := [_]) (cs := []) rfl trivial ?_
      refine aw_if_le (tgt := 27) eX12_behindOf_5 (by decide) (by omega) (fun h8 => ?_) (fun h8 => ?_)
      · first
        | (exfalso; omega; done)
        | (refine aw_blk oX12_behindOf_27 (pc' := 28) (ls' := [_, _, _, _]) (st' := [_]) (cs := []) rfl trivial ?_
           refine aw_iret eX12_behindOf_28 rfl (Nat.le_refl _) (Nat.le_refl _) ?_
           exact pe_i (by omega) rfl rfl)
      · first
        | (exfalso; omega; done)
        | (refine aw_blk oX12_behindOf_8 (pc' := 4) (ls' := [_, _, _, _]) (st' := []) (cs := [(_, _), (_, _)]) rfl (⟨⟨by omega, by omega⟩, ⟨by omega, by omega⟩, trivial⟩) ?_
           skip)
    · rw [if_neg hk] at h4
      have g1 := hP k (by omega) h2
      refine aw_blk oX12_behindOf_4 (pc' := 5) (ls' := [_, _, _, _]) (st' := [_]) (cs := []) rfl trivial ?_
      refine aw_if_le (tgt := 27) eX12_behindOf_5 (by decide) (by omega) (fun h9 => ?_) (fun h9 => ?_)
      · first
        | (exfalso; omega; done)
        | (refine aw_blk oX12_behindOf_27 (pc' := 28) (ls' := [_, _, _, _]) (st' := [_]) (cs := []) rfl trivial ?_
           refine aw_iret eX12_behindOf_28 rfl (Nat.le_refl _) (Nat.le_refl _) ?_
           skip)
      · first
        | (exfalso; omega; done)
        | (refine aw_blk oX12_behindOf_8 (pc' := 4) (ls' := [_, _, _, _]) (st' := []) (cs := [(_, _), (_, _)]) rfl (⟨⟨by omega, by omega⟩, ⟨by omega, by omega⟩, trivial⟩) ?_
           exact ih _ _ (by omega) (by omega) (by omega) (by omega))
theorem c_behindOf {κ : KX} {μ : MM} {ν : ML} {m : Int} (hP : okP (μ 73)) (hm : 0 ≤ m ∧ m < 10) : AE κ 0 mX12_behindOf [aR 55, aI m] μ ν (some (aI (bh (μ 73) (μ 74) 10 m))) μ ν := by
  refine AMet.of kX12_behindOf.1 (Nat.le_of_ble_eq_true rfl) rfl ?_
  refine aw_blk oX12_behindOf_0 (pc' := 4) (ls' := [_, _, _, _]) (st' := []) (cs := []) rfl trivial ?_
  exact l_behindOf hP 10 m 0 hm.1 hm.2 (by omega) (by omega)
/-! the NODE on which a child is hung anew -/
def np (fl par del : Int → Int) (child fan : Int) : Nat → Int
  | 0 => -6
  | n + 1 => if fl (n : Int) = 0 ∧ hc fl par (n : Int) child < fan ∧ (np fl par del child fan n = -6 ∨ bh par del 10 (n : Int) < bh par del 10 (np fl par del child fan n)) then (n : Int) else np fl par del child fan n
theorem np_bd {fl par del : Int → Int} {child fan : Int} : ∀ n : Nat, np fl par del child fan n = -6 ∨ (0 ≤ np fl par del child fan n ∧ np fl par del child fan n < n ∧ fl (np fl par del child fan n) = 0)
  | 0 => Or.inl rfl
  | n + 1 => by
    simp only [np]
    split
    · rename_i h; right; exact ⟨by omega, by omega, h.1⟩
    · rcases np_bd (fl := fl) (par := par) (del := del) (child := child) (fan := fan) n with h | h
      · exact Or.inl h
      · right; exact ⟨h.1, by omega, h.2.2⟩
theorem np_eq {fl par del fl' par' del' : Int → Int} {child fan : Int} (hp : okP par) (h0 : fl' 0 = fl 0) (h1 : eqN fl' fl) (h2 : eqN par' par) (h3 : eqN del' del) : ∀ n : Nat, n ≤ 10 → np fl' par' del' child fan n = np fl par del child fan n
  | 0, _ => rfl
  | n + 1, hn => by
    have ih := np_eq (child := child) (fan := fan) hp h0 h1 h2 h3 n (by omega)
    have hb := np_bd (fl := fl) (par := par) (del := del) (child := child) (fan := fan) n
    have e0 : fl' (n : Int) = fl n := by
      by_cases q : n = 0
      · subst q; exact h0
      · exact h1 n (by omega) (by omega)
    simp only [np, ih, e0, hc_eq h1 h2, bh_eq hp h2 h3 10 (n : Int) (by omega), bh_eq hp h2 h3 10 (np fl par del child fan n) (by omega)]
def npr (fl par del : Int → Int) (child fan : Int) : Int := if np fl par del child fan child.toNat = -6 then 0 else np fl par del child fan child.toNat
theorem l_newParent {κ : KX} {μ : MM} {ν : ML} {child fan : Int} (hP : okP (μ 52)) (hD : okD (μ 53)) (hF : okF (μ 54)) (hf : 1 ≤ fan ∧ fan ≤ 9) (hcd : 1 ≤ child ∧ child < 10) (n : Nat) : ∀ k : Nat, (k : Int) + n = child → AX κ mX6_newParent 1 (PE (some (aI (npr (μ 54) (μ 52) (μ 53) child fan))) μ ν) 6 [aR 51, aI child, aI fan, aI (np (μ 54) (μ 52) (μ 53) child fan k), aI k] [] μ ν := by
  induction n with
  | zero =>
    intro k hk
    have e : k = child.toNat := by omega
    subst e
    have hb := np_bd (fl := μ 54) (par := μ 52) (del := μ 53) (child := child) (fan := fan) child.toNat
    refine aw_blk oX6_newParent_6 (pc' := 9) (ls' := [_, _, _, _, _]) (st' := [_, _]) (cs := []) rfl trivial ?_
    refine aw_icmp_ge (tgt := 62) eX6_newParent_9 (by decide) (by omega) (by omega) (fun h10 => ?_) (fun h10 => ?_)
    · first
      | (exfalso; omega; done)
      | (refine aw_blk oX6_newParent_62 (pc' := 65) (ls' := [_, _, _, _, _]) (st' := [_, _]) (cs := []) rfl trivial ?_
         refine aw_icmp_ne (tgt := 72) eX6_newParent_65 (by decide) (by omega) (by omega) (fun h11 => ?_) (fun h11 => ?_)
         · first
           | (exfalso; omega; done)
           | (refine aw_blk oX6_newParent_72 (pc' := 73) (ls' := [_, _, _, _, _]) (st' := [_]) (cs := []) rfl trivial ?_
              refine aw_iret eX6_newParent_73 rfl (Nat.le_refl _) (Nat.le_refl _) ?_
              exact pe_i (by unfold npr; first | rw [if_pos (by omega)] | rw [if_neg (by omega)]) rfl rfl)
         · first
           | (exfalso; omega; done)
           | (refine aw_blk oX6_newParent_68 (pc' := 73) (ls' := [_, _, _, _, _]) (st' := [_]) (cs := []) rfl trivial ?_
              refine aw_iret eX6_newParent_73 rfl (Nat.le_refl _) (Nat.le_refl _) ?_
              exact pe_i (by unfold npr; first | rw [if_pos (by omega)] | rw [if_neg (by omega)]) rfl rfl))
    · first
      | (exfalso; omega; done)
      | (refine aw_blk oX6_newParent_12 (pc' := 19) (ls' := [_, _, _, _, _]) (st' := [_]) (cs := [(_, _)]) rfl (⟨⟨by omega, by omega⟩, trivial⟩) ?_
         refine aw_if_ne (tgt := 56) eX6_newParent_19 (by decide) (by omega) (fun h12 => ?_) (fun h12 => ?_)
         · first
           | (exfalso; omega; done)
           | (refine aw_blk oX6_newParent_56 (pc' := 6) (ls' := [_, _, _, _, _]) (st' := []) (cs := []) rfl trivial ?_
              skip)
         · first
           | (exfalso; omega; done)
           | (refine aw_blk oX6_newParent_22 (pc' := 26) (ls' := [_, _, _, _, _]) (st' := [_, _, _]) (cs := []) rfl trivial ?_
              refine aw_ciV (rest := []) (c_hangingOn (by omega) (by omega) hP hF) kX6_hangingOn eX6_newParent_26 lX6_newParent_26 rfl rfl rfl rfl (Nat.le_of_ble_eq_true rfl) ⟨Nat.le_of_ble_eq_true rfl, Nat.le_of_ble_eq_true rfl⟩ ⟨Nat.le_refl _, Nat.le_refl _⟩ ?_
              refine aw_blk oX6_newParent_29 (pc' := 30) (ls' := [_, _, _, _, _]) (st' := [_, _]) (cs := []) rfl trivial ?_
              refine aw_icmp_ge (tgt := 56) eX6_newParent_30 (by decide) (by omega) (by omega) (fun h13 => ?_) (fun h13 => ?_)
              · first
                | (exfalso; omega; done)
                | (refine aw_blk oX6_newParent_56 (pc' := 6) (ls' := [_, _, _, _, _]) (st' := []) (cs := []) rfl trivial ?_
                   skip)
              · first
                | (exfalso; omega; done)
                | (refine aw_blk oX6_newParent_33 (pc' := 36) (ls' := [_, _, _, _, _]) (st' := [_, _]) (cs := []) rfl trivial ?_
                   refine aw_icmp_eq (tgt := 53) eX6_newParent_36 (by decide) (by omega) (by omega) (fun h14 => ?_) (fun h14 => ?_)
                   · first
                     | (exfalso; omega; done)
                     | (refine aw_blk oX6_newParent_53 (pc' := 56) (ls' := [_, _, _, _, _]) (st' := []) (cs := []) rfl trivial ?_
                        refine aw_blk oX6_newParent_56 (pc' := 6) (ls' := [_, _, _, _, _]) (st' := []) (cs := []) rfl trivial ?_
                        skip)
                   · first
                     | (exfalso; omega; done)
                     | (refine aw_blk oX6_newParent_39 (pc' := 42) (ls' := [_, _, _, _, _]) (st' := [_, _]) (cs := []) rfl trivial ?_
                        refine aw_ciV (rest := []) (c_delay hP (by omega)) kX6_delayUpTo0 eX6_newParent_42 lX6_newParent_42 rfl rfl rfl rfl (Nat.le_of_ble_eq_true rfl) ⟨Nat.le_of_ble_eq_true rfl, Nat.le_of_ble_eq_true rfl⟩ ⟨Nat.le_refl _, Nat.le_refl _⟩ ?_
                        refine aw_blk oX6_newParent_45 (pc' := 47) (ls' := [_, _, _, _, _]) (st' := [_, _, _]) (cs := []) rfl trivial ?_
                        refine aw_ciV (rest := [_]) (c_delay hP (by omega)) kX6_delayUpTo0 eX6_newParent_47 lX6_newParent_47 rfl rfl rfl rfl (Nat.le_of_ble_eq_true rfl) ⟨Nat.le_of_ble_eq_true rfl, Nat.le_of_ble_eq_true rfl⟩ ⟨Nat.le_refl _, Nat.le_refl _⟩ ?_
                        refine aw_icmp_ge (tgt := 56) eX6_newParent_50 (by decide) (by omega) (by omega) (fun h15 => ?_) (fun h15 => ?_)
                        · first
                          | (exfalso; omega; done)
                          | (refine aw_blk oX6_newParent_56 (pc' := 6) (ls' := [_, _, _, _, _]) (st' := []) (cs := []) rfl trivial ?_
                             skip)
                        · first
                          | (exfalso; omega; done)
                          | (refine aw_blk oX6_newParent_53 (pc' := 56) (ls' := [_, _, _, _, _]) (st' := []) (cs := []) rfl trivial ?_
                             refine aw_blk oX6_newParent_56 (pc' := 6) (ls' := [_, _, _, _, _]) (st' := []) (cs := []) rfl trivial ?_
                             skip)))))
  | succ n ih =>
    intro k hk
    have hb := np_bd (fl := μ 54) (par := μ 52) (del := μ 53) (child := child) (fan := fan) k
    have T := ih (k + 1) (by omega)
    simp only [np] at T
    generalize np (μ 54) (μ 52) (μ 53) child fan k = b at hb T ⊢
    have g1 := hF (k : Int) (by omega) (by omega)
    have g2 := hc_bd (fl := μ 54) (par := μ 52) (on := (k : Int)) (but := child)
    have g3 := bh_bd hP hD 10 (k : Int) (by omega)
    have g4 := bh_bd hP hD 10 b (by omega)
    refine aw_blk oX6_newParent_6 (pc' := 9) (ls' := [_, _, _, _, _]) (st' := [_, _]) (cs := []) rfl trivial ?_
    refine aw_icmp_ge (tgt := 62) eX6_newParent_9 (by decide) (by omega) (by omega) (fun h16 => ?_) (fun h16 => ?_)
    · first
      | (exfalso; omega; done)
      | (refine aw_blk oX6_newParent_62 (pc' := 65) (ls' := [_, _, _, _, _]) (st' := [_, _]) (cs := []) rfl trivial ?_
         refine aw_icmp_ne (tgt := 72) eX6_newParent_65 (by decide) (by omega) (by omega) (fun h17 => ?_) (fun h17 => ?_)
         · first
           | (exfalso; omega; done)
           | (refine aw_blk oX6_newParent_72 (pc' := 73) (ls' := [_, _, _, _, _]) (st' := [_]) (cs := []) rfl trivial ?_
              refine aw_iret eX6_newParent_73 rfl (Nat.le_refl _) (Nat.le_refl _) ?_
              skip)
         · first
           | (exfalso; omega; done)
           | (refine aw_blk oX6_newParent_68 (pc' := 73) (ls' := [_, _, _, _, _]) (st' := [_]) (cs := []) rfl trivial ?_
              refine aw_iret eX6_newParent_73 rfl (Nat.le_refl _) (Nat.le_refl _) ?_
              skip))
    · first
      | (exfalso; omega; done)
      | (refine aw_blk oX6_newParent_12 (pc' := 19) (ls' := [_, _, _, _, _]) (st' := [_]) (cs := [(_, _)]) rfl (⟨⟨by omega, by omega⟩, trivial⟩) ?_
         refine aw_if_ne (tgt := 56) eX6_newParent_19 (by decide) (by omega) (fun h18 => ?_) (fun h18 => ?_)
         · first
           | (exfalso; omega; done)
           | (refine aw_blk oX6_newParent_56 (pc' := 6) (ls' := [_, _, _, _, _]) (st' := []) (cs := []) rfl trivial ?_
              (first | rw [if_pos (by omega)] at T | rw [if_neg (by omega)] at T)
              exact T)
         · first
           | (exfalso; omega; done)
           | (refine aw_blk oX6_newParent_22 (pc' := 26) (ls' := [_, _, _, _, _]) (st' := [_, _, _]) (cs := []) rfl trivial ?_
              refine aw_ciV (rest := []) (c_hangingOn (by omega) (by omega) hP hF) kX6_hangingOn eX6_newParent_26 lX6_newParent_26 rfl rfl rfl rfl (Nat.le_of_ble_eq_true rfl) ⟨Nat.le_of_ble_eq_true rfl, Nat.le_of_ble_eq_true rfl⟩ ⟨Nat.le_refl _, Nat.le_refl _⟩ ?_
              refine aw_blk oX6_newParent_29 (pc' := 30) (ls' := [_, _, _, _, _]) (st' := [_, _]) (cs := []) rfl trivial ?_
              refine aw_icmp_ge (tgt := 56) eX6_newParent_30 (by decide) (by omega) (by omega) (fun h19 => ?_) (fun h19 => ?_)
              · first
                | (exfalso; omega; done)
                | (refine aw_blk oX6_newParent_56 (pc' := 6) (ls' := [_, _, _, _, _]) (st' := []) (cs := []) rfl trivial ?_
                   (first | rw [if_pos (by omega)] at T | rw [if_neg (by omega)] at T)
                   exact T)
              · first
                | (exfalso; omega; done)
                | (refine aw_blk oX6_newParent_33 (pc' := 36) (ls' := [_, _, _, _, _]) (st' := [_, _]) (cs := []) rfl trivial ?_
                   refine aw_icmp_eq (tgt := 53) eX6_newParent_36 (by decide) (by omega) (by omega) (fun h20 => ?_) (fun h20 => ?_)
                   · first
                     | (exfalso; omega; done)
                     | (refine aw_blk oX6_newParent_53 (pc' := 56) (ls' := [_, _, _, _, _]) (st' := []) (cs := []) rfl trivial ?_
                        refine aw_blk oX6_newParent_56 (pc' := 6) (ls' := [_, _, _, _, _]) (st' := []) (cs := []) rfl trivial ?_
                        (first | rw [if_pos (by omega)] at T | rw [if_neg (by omega)] at T)
                        exact T)
                   · first
                     | (exfalso; omega; done)
                     | (refine aw_blk oX6_newParent_39 (pc' := 42) (ls' := [_, _, _, _, _]) (st' := [_, _]) (cs := []) rfl trivial ?_
                        refine aw_ciV (rest := []) (c_delay hP (by omega)) kX6_delayUpTo0 eX6_newParent_42 lX6_newParent_42 rfl rfl rfl rfl (Nat.le_of_ble_eq_true rfl) ⟨Nat.le_of_ble_eq_true rfl, Nat.le_of_ble_eq_true rfl⟩ ⟨Nat.le_refl _, Nat.le_refl _⟩ ?_
                        refine aw_blk oX6_newParent_45 (pc' := 47) (ls' := [_, _, _, _, _]) (st' := [_, _, _]) (cs := []) rfl trivial ?_
                        refine aw_ciV (rest := [_]) (c_delay hP (by omega)) kX6_delayUpTo0 eX6_newParent_47 lX6_newParent_47 rfl rfl rfl rfl (Nat.le_of_ble_eq_true rfl) ⟨Nat.le_of_ble_eq_true rfl, Nat.le_of_ble_eq_true rfl⟩ ⟨Nat.le_refl _, Nat.le_refl _⟩ ?_
                        refine aw_icmp_ge (tgt := 56) eX6_newParent_50 (by decide) (by omega) (by omega) (fun h21 => ?_) (fun h21 => ?_)
                        · first
                          | (exfalso; omega; done)
                          | (refine aw_blk oX6_newParent_56 (pc' := 6) (ls' := [_, _, _, _, _]) (st' := []) (cs := []) rfl trivial ?_
                             (first | rw [if_pos (by omega)] at T | rw [if_neg (by omega)] at T)
                             exact T)
                        · first
                          | (exfalso; omega; done)
                          | (refine aw_blk oX6_newParent_53 (pc' := 56) (ls' := [_, _, _, _, _]) (st' := []) (cs := []) rfl trivial ?_
                             refine aw_blk oX6_newParent_56 (pc' := 6) (ls' := [_, _, _, _, _]) (st' := []) (cs := []) rfl trivial ?_
                             (first | rw [if_pos (by omega)] at T | rw [if_neg (by omega)] at T)
                             exact T)))))
theorem c_newParent {κ : KX} {μ : MM} {ν : ML} {child fan : Int} (hP : okP (μ 52)) (hD : okD (μ 53)) (hF : okF (μ 54)) (hf : 1 ≤ fan ∧ fan ≤ 9) (hcd : 1 ≤ child ∧ child < 10) : AE κ 1 mX6_newParent [aR 51, aI child, aI fan] μ ν (some (aI (npr (μ 54) (μ 52) (μ 53) child fan))) μ ν := by
  refine AMet.of kX6_newParent.1 (Nat.le_of_ble_eq_true rfl) rfl ?_
  refine aw_blk oX6_newParent_0 (pc' := 6) (ls' := [_, _, _, _, _]) (st' := []) (cs := []) rfl trivial ?_
  exact l_newParent hP hD hF hf hcd child.toNat 0 (by omega)
/-! a NODE falls: its children one by one, from child k on, n of them to look at -/
def dpS (fl del : Int → Int) (m fan k : Int) (s : (Int → Int) × Int) : (Int → Int) × Int := if fl k = 0 ∧ s.1 k = m then (rowU s.1 k (npr fl s.1 del k fan), s.2 + 1) else s
def dp (fl del : Int → Int) (m fan : Int) : Nat → Int → (Int → Int) × Int → (Int → Int) × Int
  | 0, _, s => s
  | n + 1, k, s => dp fl del m fan n (k + 1) (dpS fl del m fan k s)
theorem npr_bd {fl par del : Int → Int} {child fan : Int} (hcd : 1 ≤ child) (h0 : fl 0 = 0) : 0 ≤ npr fl par del child fan ∧ npr fl par del child fan < child ∧ fl (npr fl par del child fan) = 0 := by
  unfold npr
  rcases np_bd (fl := fl) (par := par) (del := del) (child := child) (fan := fan) child.toNat with h | h
  · rw [if_pos h]; exact ⟨by omega, by omega, h0⟩
  · rw [if_neg (by omega)]; exact ⟨h.1, by omega, h.2.2⟩
theorem dpS_ok {fl del : Int → Int} {m fan k : Int} {s : (Int → Int) × Int} (h0 : fl 0 = 0) (hk : 1 ≤ k) (hP : okP s.1) : okP (dpS fl del m fan k s).1 := by
  unfold dpS
  split
  · intro i h1 h2
    unfold rowU
    dsimp only
    split
    · rename_i e; subst e
      have := npr_bd (fl := fl) (par := s.1) (del := del) (fan := fan) hk h0
      exact ⟨this.1, this.2.1⟩
    · exact hP i h1 h2
  · exact hP
theorem l_drop {κ : KX} {μ : MM} {ν : ML} {m fan : Int} (hD : okD (μ 53)) (hF : okF (μ 54)) (h0 : μ 54 0 = 0) (hf : 1 ≤ fan ∧ fan ≤ 9) (hm : 1 ≤ m ∧ m < 10) (n : Nat) : ∀ (k : Int) (s : (Int → Int) × Int), 1 ≤ k → k + n = 10 → okP s.1 → AX κ mX6_drop 2 (PE (some (aI (dp (μ 54) (μ 53) m fan n k s).2)) (setRow μ 52 (dp (μ 54) (μ 53) m fan n k s).1) ν) 14 [aR 51, aI m, aI fan, aI s.2, aI k] [] (setRow μ 52 s.1) ν := by
  induction n with
  | zero =>
    intro k s hk hn hP
    have e : k = 10 := by omega
    subst e
    refine aw_blk oX6_drop_14 (pc' := 18) (ls' := [_, _, _, _, _]) (st' := [_, _]) (cs := []) rfl trivial ?_
    refine aw_icmp_ge (tgt := 65) eX6_drop_18 (by decide) (by omega) (by omega) (fun h => ?_) (fun h => ?_)
    · refine aw_blk oX6_drop_65 (pc' := 66) (ls' := [_, _, _, _, _]) (st' := [_]) (cs := []) rfl trivial ?_
      refine aw_iret eX6_drop_66 rfl (Nat.le_refl _) (Nat.le_refl _) ?_
      exact pe_i rfl rfl rfl
    · exfalso; omega
  | succ n ih =>
    intro k s hk hn hP0
    obtain ⟨f, mv⟩ := s
    change AX κ mX6_drop 2 _ 14 [aR 51, aI m, aI fan, aI mv, aI k] [] (setRow μ 52 f) ν
    have T := ih (k + 1) (dpS (μ 54) (μ 53) m fan k (f, mv)) (by omega) (by omega) (dpS_ok h0 hk hP0)
    have hD : okD (setRow μ 52 f 53) := hD
    have hF : okF (setRow μ 52 f 54) := hF
    have hP : okP (setRow μ 52 f 52) := hP0
    have g1 := hF k (by omega) (by omega)
    have g2 := hP k (by omega) (by omega)
    refine aw_blk oX6_drop_14 (pc' := 18) (ls' := [_, _, _, _, _]) (st' := [_, _]) (cs := []) rfl trivial ?_
    refine aw_icmp_ge (tgt := 65) eX6_drop_18 (by decide) (by omega) (by omega) (fun h => ?_) (fun h => ?_)
    · exfalso; omega
    · refine aw_blk oX6_drop_21 (pc' := 28) (ls' := [_, _, _, _, _]) (st' := [_]) (cs := [(_, _)]) rfl (⟨⟨by omega, by omega⟩, trivial⟩) ?_
      refine aw_if_ne (tgt := 59) eX6_drop_28 (by decide) (by omega) (fun h1 => ?_) (fun h1 => ?_)
      · have e : dpS (μ 54) (μ 53) m fan k (f, mv) = (f, mv) := if_neg (fun q => h1 q.1)
        rw [e] at T
        refine aw_blk oX6_drop_59 (pc' := 14) (ls' := [_, _, _, _, _]) (st' := []) (cs := []) rfl trivial ?_
        simp only [dp, e]
        exact T
      · refine aw_blk oX6_drop_31 (pc' := 39) (ls' := [_, _, _, _, _]) (st' := [_, _]) (cs := [(_, _)]) rfl (⟨⟨by omega, by omega⟩, trivial⟩) ?_
        refine aw_icmp_ne (tgt := 59) eX6_drop_39 (by decide) (by omega) (by omega) (fun h2 => ?_) (fun h2 => ?_)
        · have e : dpS (μ 54) (μ 53) m fan k (f, mv) = (f, mv) := if_neg (fun q => h2 q.2)
          rw [e] at T
          refine aw_blk oX6_drop_59 (pc' := 14) (ls' := [_, _, _, _, _]) (st' := []) (cs := []) rfl trivial ?_
          simp only [dp, e]
          exact T
        · have e : dpS (μ 54) (μ 53) m fan k (f, mv) = (rowU f k (npr (μ 54) f (μ 53) k fan), mv + 1) := if_pos ⟨h1, h2⟩
          rw [e] at T
          refine aw_blk oX6_drop_42 (pc' := 52) (ls' := [_, _, _, _, _]) (st' := [_, _, _, _, _]) (cs := []) rfl trivial ?_
          refine aw_ciV (rest := [_, _]) (c_newParent hP hD hF hf (by omega)) kX6_newParent eX6_drop_52 lX6_drop_52 rfl rfl rfl rfl (Nat.le_of_ble_eq_true rfl) ⟨Nat.le_of_ble_eq_true rfl, Nat.le_of_ble_eq_true rfl⟩ ⟨Nat.le_refl _, Nat.le_refl _⟩ ?_
          refine aw_blk oX6_drop_55 (pc' := 59) (ls' := [_, _, _, _, _]) (st' := []) (cs := [(_, _)]) rfl (⟨⟨by omega, by omega⟩, trivial⟩) ?_
          rw [up_setRow]
          refine aw_blk oX6_drop_59 (pc' := 14) (ls' := [_, _, _, _, _]) (st' := []) (cs := []) rfl trivial ?_
          simp only [dp, e]
          exact T
theorem c_drop {κ : KX} {μ : MM} {ν : ML} {m fan : Int} (hP : okP (μ 52)) (hD : okD (μ 53)) (hF : okF (μ 54)) (h0 : μ 54 0 = 0) (hf : 1 ≤ fan ∧ fan ≤ 9) (hm : 1 ≤ m ∧ m < 10) : AE κ 2 mX6_drop [aR 51, aI m, aI fan] μ ν (some (aI (dp (rowU (μ 54) m 1) (μ 53) m fan (9 - m).toNat (m + 1) (μ 52, 0)).2)) (setRow (up μ 54 m 1) 52 (dp (rowU (μ 54) m 1) (μ 53) m fan (9 - m).toNat (m + 1) (μ 52, 0)).1) ν := by
  refine AMet.of kX6_drop.1 (Nat.le_of_ble_eq_true rfl) rfl ?_
  refine aw_blk oX6_drop_0 (pc' := 14) (ls' := [_, _, _, _, _]) (st' := []) (cs := [(_, _), (_, _)]) rfl (⟨⟨by omega, by omega⟩, ⟨by omega, by omega⟩, trivial⟩) ?_
  have e : up μ 54 m 1 54 = rowU (μ 54) m 1 := up_row
  have T := l_drop (κ := κ) (μ := up μ 54 m 1) (ν := ν) (m := m) (fan := fan) hD (by
    rw [e]; intro i h1 h2; unfold rowU; split
    · omega
    · exact hF i h1 h2) (by rw [e]; unfold rowU; rw [if_neg (by omega)]; exact h0) hf hm (9 - m).toNat (m + 1) (μ 52, 0) (by omega) (by omega) hP
  rw [e] at T
  have e2 : setRow (up μ 54 m 1) 52 (μ 52, (0 : Int)).1 = up μ 54 m 1 := setRow_self
  rw [e2] at T
  exact T
/-! NODES as bits -/
def ndB (p : Int → Bool) : Nat → Int
  | 0 => 0
  | n + 1 => bOr (ndB p n) (if p (n : Int) = true then bShl 1 (n : Int) else 0)
theorem ndB_R {p : Int → Bool} : ∀ n : Nat, R32 (ndB p n)
  | 0 => r0
  | n + 1 => bOr_R
theorem ndB_eq {p q : Int → Bool} : ∀ n : Nat, (∀ k : Nat, k < n → p k = q k) → ndB p n = ndB q n
  | 0, _ => rfl
  | n + 1, h => by simp only [ndB, ndB_eq n (fun k hk => h k (by omega)), h n (by omega)]
theorem ndB_t {p : Int → Bool} {k : Nat} (h : p (k : Int) = true) : ndB p (k + 1) = bOr (ndB p k) (bShl 1 (k : Int)) := by
  show bOr (ndB p k) (if p (k : Int) = true then bShl 1 (k : Int) else 0) = _
  rw [if_pos h]
theorem ndB_f {p : Int → Bool} {k : Nat} (h : p (k : Int) = false) : ndB p (k + 1) = ndB p k := by
  show bOr (ndB p k) (if p (k : Int) = true then bShl 1 (k : Int) else 0) = _
  rw [if_neg (by rw [h]; decide), bOr_zero (ndB_R k)]
theorem ndB_z {p : Int → Bool} {k : Nat} (h : p (k : Int) = false) : ndB p (k + 1) = bOr (ndB p k) 0 := by rw [ndB_f h, bOr_zero (ndB_R k)]
theorem l_standing {κ : KX} {μ : MM} {ν : ML} (hF : okF (μ 54)) (n : Nat) : ∀ k : Nat, k + n = 10 → AX κ mX6_standing 0 (PE (some (aI (ndB (fun k => decide (μ 54 k = 0)) 10))) μ ν) 4 [aR 51, aI (ndB (fun k => decide (μ 54 k = 0)) k), aI k] [] μ ν := by
  induction n with
  | zero =>
    intro k hk
    have e : k = 10 := by omega
    subst e
    refine aw_blk oX6_standing_4 (pc' := 7) (ls' := [_, _, _]) (st' := [_, _]) (cs := []) rfl trivial ?_
    refine aw_icmp_ge (tgt := 31) eX6_standing_7 (by decide) (by omega) (by omega) (fun h22 => ?_) (fun h22 => ?_)
    · first
      | (exfalso; omega; done)
      | (refine aw_blk oX6_standing_31 (pc' := 32) (ls' := [_, _, _]) (st' := [_]) (cs := []) rfl trivial ?_
         refine aw_iret eX6_standing_32 rfl (Nat.le_refl _) (Nat.le_refl _) ?_
         exact pe_i rfl rfl rfl)
    · first
      | (exfalso; omega; done)
      | (refine aw_blk oX6_standing_10 (pc' := 16) (ls' := [_, _, _]) (st' := [_]) (cs := [(_, _)]) rfl (⟨⟨by omega, by omega⟩, trivial⟩) ?_
         refine aw_if_ne (tgt := 25) eX6_standing_16 (by decide) (by omega) (fun h23 => ?_) (fun h23 => ?_)
         · first
           | (exfalso; omega; done)
           | (refine aw_blk oX6_standing_25 (pc' := 4) (ls' := [_, _, _]) (st' := []) (cs := []) rfl trivial ?_
              skip)
         · first
           | (exfalso; omega; done)
           | (refine aw_blk oX6_standing_19 (pc' := 25) (ls' := [_, _, _]) (st' := []) (cs := []) rfl trivial ?_
              refine aw_blk oX6_standing_25 (pc' := 4) (ls' := [_, _, _]) (st' := []) (cs := []) rfl trivial ?_
              skip))
  | succ n ih =>
    intro k hk
    have g1 := hF (k : Int) (by omega) (by omega)
    have T := ih (k + 1) (by omega)
    refine aw_blk oX6_standing_4 (pc' := 7) (ls' := [_, _, _]) (st' := [_, _]) (cs := []) rfl trivial ?_
    refine aw_icmp_ge (tgt := 31) eX6_standing_7 (by decide) (by omega) (by omega) (fun h => ?_) (fun h => ?_)
    · exfalso; omega
    · refine aw_blk oX6_standing_10 (pc' := 16) (ls' := [_, _, _]) (st' := [_]) (cs := [(_, _)]) rfl (⟨⟨by omega, by omega⟩, trivial⟩) ?_
      refine aw_if_ne (tgt := 25) eX6_standing_16 (by decide) (by omega) (fun h1 => ?_) (fun h1 => ?_)
      · rw [ndB_f (k := k) (decide_eq_false h1)] at T
        refine aw_blk oX6_standing_25 (pc' := 4) (ls' := [_, _, _]) (st' := []) (cs := []) rfl trivial ?_
        exact T
      · rw [ndB_t (k := k) (decide_eq_true h1)] at T
        refine aw_blk oX6_standing_19 (pc' := 25) (ls' := [_, _, _]) (st' := []) (cs := []) rfl trivial ?_
        refine aw_blk oX6_standing_25 (pc' := 4) (ls' := [_, _, _]) (st' := []) (cs := []) rfl trivial ?_
        exact T
theorem c_standing {κ : KX} {μ : MM} {ν : ML} (hF : okF (μ 54)) : AE κ 0 mX6_standing [aR 51] μ ν (some (aI (ndB (fun k => decide (μ 54 k = 0)) 10))) μ ν := by
  refine AMet.of kX6_standing.1 (Nat.le_of_ble_eq_true rfl) rfl ?_
  refine aw_blk oX6_standing_0 (pc' := 4) (ls' := [_, _, _]) (st' := []) (cs := []) rfl trivial ?_
  exact l_standing hF 10 0 rfl
theorem l_stW {κ : KX} {μ : MM} {ν : ML} {w : Int} (hw : R32 w) (hP : okP (μ 52)) (hD : okD (μ 53)) (hF : okF (μ 54)) (n : Nat) : ∀ k : Nat, k + n = 10 → AX κ mX6_standingWithin 1 (PE (some (aI (ndB (fun k => decide (μ 54 k = 0 ∧ bh (μ 52) (μ 53) 10 k ≤ w)) 10))) μ ν) 4 [aR 51, aI w, aI (ndB (fun k => decide (μ 54 k = 0 ∧ bh (μ 52) (μ 53) 10 k ≤ w)) k), aI k] [] μ ν := by
  induction n with
  | zero =>
    intro k hk
    have e : k = 10 := by omega
    subst e
    refine aw_blk oX6_standingWithin_4 (pc' := 7) (ls' := [_, _, _, _]) (st' := [_, _]) (cs := []) rfl trivial ?_
    refine aw_icmp_ge (tgt := 40) eX6_standingWithin_7 (by decide) (by omega) (by omega) (fun h => ?_) (fun h => ?_)
    · refine aw_blk oX6_standingWithin_40 (pc' := 41) (ls' := [_, _, _, _]) (st' := [_]) (cs := []) rfl trivial ?_
      refine aw_iret eX6_standingWithin_41 rfl (Nat.le_refl _) (Nat.le_refl _) ?_
      exact pe_i rfl rfl rfl
    · exfalso; omega
  | succ n ih =>
    intro k hk
    have g1 := hF (k : Int) (by omega) (by omega)
    have g2 := bh_bd hP hD 10 (k : Int) (by omega)
    have T := ih (k + 1) (by omega)
    refine aw_blk oX6_standingWithin_4 (pc' := 7) (ls' := [_, _, _, _]) (st' := [_, _]) (cs := []) rfl trivial ?_
    refine aw_icmp_ge (tgt := 40) eX6_standingWithin_7 (by decide) (by omega) (by omega) (fun h => ?_) (fun h => ?_)
    · exfalso; omega
    · refine aw_blk oX6_standingWithin_10 (pc' := 16) (ls' := [_, _, _, _]) (st' := [_]) (cs := [(_, _)]) rfl (⟨⟨by omega, by omega⟩, trivial⟩) ?_
      refine aw_if_ne (tgt := 34) eX6_standingWithin_16 (by decide) (by omega) (fun h1 => ?_) (fun h1 => ?_)
      · rw [ndB_f (k := k) (decide_eq_false (fun q => h1 q.1))] at T
        refine aw_blk oX6_standingWithin_34 (pc' := 4) (ls' := [_, _, _, _]) (st' := []) (cs := []) rfl trivial ?_
        exact T
      · refine aw_blk oX6_standingWithin_19 (pc' := 21) (ls' := [_, _, _, _]) (st' := [_, _]) (cs := []) rfl trivial ?_
        refine aw_ciV (rest := []) (c_delay hP (by omega)) kX6_delayUpTo0 eX6_standingWithin_21 lX6_standingWithin_21 rfl rfl rfl rfl (Nat.le_of_ble_eq_true rfl) ⟨Nat.le_of_ble_eq_true rfl, Nat.le_of_ble_eq_true rfl⟩ ⟨Nat.le_refl _, Nat.le_refl _⟩ ?_
        refine aw_blk oX6_standingWithin_24 (pc' := 25) (ls' := [_, _, _, _]) (st' := [_, _]) (cs := []) rfl trivial ?_
        refine aw_icmp_gt (tgt := 34) eX6_standingWithin_25 (by decide) (by omega) (by omega) (fun h2 => ?_) (fun h2 => ?_)
        · rw [ndB_f (k := k) (decide_eq_false (fun q => by omega))] at T
          refine aw_blk oX6_standingWithin_34 (pc' := 4) (ls' := [_, _, _, _]) (st' := []) (cs := []) rfl trivial ?_
          exact T
        · rw [ndB_t (k := k) (decide_eq_true ⟨h1, by omega⟩)] at T
          refine aw_blk oX6_standingWithin_28 (pc' := 34) (ls' := [_, _, _, _]) (st' := []) (cs := []) rfl trivial ?_
          refine aw_blk oX6_standingWithin_34 (pc' := 4) (ls' := [_, _, _, _]) (st' := []) (cs := []) rfl trivial ?_
          exact T
theorem c_stW {κ : KX} {μ : MM} {ν : ML} {w : Int} (hw : R32 w) (hP : okP (μ 52)) (hD : okD (μ 53)) (hF : okF (μ 54)) : AE κ 1 mX6_standingWithin [aR 51, aI w] μ ν (some (aI (ndB (fun k => decide (μ 54 k = 0 ∧ bh (μ 52) (μ 53) 10 k ≤ w)) 10))) μ ν := by
  refine AMet.of kX6_standingWithin.1 (Nat.le_of_ble_eq_true rfl) rfl ?_
  refine aw_blk oX6_standingWithin_0 (pc' := 4) (ls' := [_, _, _, _]) (st' := []) (cs := []) rfl trivial ?_
  exact l_stW hw hP hD hF 10 0 rfl
theorem c_hangsOn {κ : KX} {μ : MM} {ν : ML} {m : Int} (hm : 0 ≤ m ∧ m < 10) (hF : okF (μ 54)) : AE κ 0 mX6_hangsOn [aR 51, aI m] μ ν (some (aI (if m = 0 ∨ ¬ μ 54 m = 0 then -6 else μ 52 m))) μ ν := by
  have g1 := hF m hm.1 hm.2
  refine AMet.of kX6_hangsOn.1 (Nat.le_of_ble_eq_true rfl) rfl ?_
  refine aw_blk oX6_hangsOn_0 (pc' := 1) (ls' := [_, _]) (st' := [_]) (cs := []) rfl trivial ?_
  refine aw_if_eq (tgt := 13) eX6_hangsOn_1 (by decide) (by omega) (fun h24 => ?_) (fun h24 => ?_)
  · first
    | (exfalso; omega; done)
    | (refine aw_blk oX6_hangsOn_13 (pc' := 24) (ls' := [_, _]) (st' := [_]) (cs := []) rfl trivial ?_
       refine aw_iret eX6_hangsOn_24 rfl (Nat.le_refl _) (Nat.le_refl _) ?_
       exact pe_i (by first | rw [if_pos (by omega)] | rw [if_neg (by omega)]) rfl rfl)
  · first
    | (exfalso; omega; done)
    | (refine aw_blk oX6_hangsOn_4 (pc' := 10) (ls' := [_, _]) (st' := [_]) (cs := [(_, _)]) rfl (⟨⟨by omega, by omega⟩, trivial⟩) ?_
       refine aw_if_eq (tgt := 18) eX6_hangsOn_10 (by decide) (by omega) (fun h25 => ?_) (fun h25 => ?_)
       · first
         | (exfalso; omega; done)
         | (refine aw_blk oX6_hangsOn_18 (pc' := 24) (ls' := [_, _]) (st' := [_]) (cs := [(_, _)]) rfl (⟨⟨by omega, by omega⟩, trivial⟩) ?_
            refine aw_iret eX6_hangsOn_24 rfl (Nat.le_refl _) (Nat.le_refl _) ?_
            exact pe_i (by first | rw [if_pos (by omega)] | rw [if_neg (by omega)]) rfl rfl)
       · first
         | (exfalso; omega; done)
         | (refine aw_blk oX6_hangsOn_13 (pc' := 24) (ls' := [_, _]) (st' := [_]) (cs := []) rfl trivial ?_
            refine aw_iret eX6_hangsOn_24 rfl (Nat.le_refl _) (Nat.le_refl _) ?_
            exact pe_i (by first | rw [if_pos (by omega)] | rw [if_neg (by omega)]) rfl rfl))
theorem c_rehang {κ : KX} {μ : MM} {ν : ML} {m on d : Int} (hm : 0 ≤ m ∧ m < 10) : AE κ 0 mX6_rehang [aR 51, aI m, aI on, aI d] μ ν (some (aI (μ 52 m))) (up (up μ 52 m on) 53 m d) ν := by
  refine AMet.of kX6_rehang.1 (Nat.le_of_ble_eq_true rfl) rfl ?_
  refine aw_blk oX6_rehang_0 (pc' := 24) (ls' := [_, _, _, _, _]) (st' := [_]) (cs := [(_, _), (_, _), (_, _)]) rfl (⟨⟨by omega, by omega⟩, ⟨by omega, by omega⟩, ⟨by omega, by omega⟩, trivial⟩) ?_
  refine aw_iret eX6_rehang_24 rfl (Nat.le_refl _) (Nat.le_refl _) ?_
  exact pe_i rfl rfl rfl
theorem RN.m {μ : MM} (h : RN μ) : okP (μ 73) ∧ okD (μ 74) ∧ okF (μ 75) := by
  obtain ⟨h1, h2, h3, h4, h5, h6, h7, h8, h9⟩ := h
  refine ⟨fun i a b => by rw [h6 i a b]; exact h1 i a b, fun i a b => by rw [h7 i a b]; exact h2 i a b, fun i a b => ?_⟩
  by_cases q : i = 0
  · subst q; omega
  · rw [h8 i (by omega) b]; exact h3 i a b
theorem fan_bd {μ : MM} (h : RS μ) : μ 58 6 = μ 1 6 ∧ 1 ≤ μ 1 6 ∧ μ 1 6 ≤ 9 := h 6 (by decide) (by decide)
theorem within_bd {μ : MM} (h : RS μ) : μ 58 5 = μ 1 5 ∧ 0 ≤ μ 1 5 ∧ μ 1 5 ≤ 1000 := h 5 (by decide) (by decide)
theorem law_behind {κ : KX} {μ : MM} {ν : ML} {m : Int} (h : RN μ) (hm : R32 m) : LawM RN csN κ mX11_behind mX12_behind [aI m] μ ν := by
  obtain ⟨hP, hD, hF, f0, f0m, e1, e2, e3, hst⟩ := id h
  obtain ⟨hPm, hDm, hFm⟩ := h.m
  by_cases c1 : 0 ≤ m ∧ m ≤ 9
  · have g1 := hF m (by omega) (by omega)
    have g2 : μ 75 m = μ 54 m := by
      by_cases q : m = 0
      · subst q; omega
      · exact e3 m (by omega) (by omega)
    have g3 := bh_bd hP hD 10 m (by omega)
    by_cases c2 : μ 54 m = 0
    · refine ⟨bh (μ 52) (μ 53) 10 m, μ, μ, ?_, ?_, by omega, h, SR.rf⟩
      · refine AMet.of kX11_behind.1 (Nat.le_of_ble_eq_true rfl) rfl ?_
        refine aw_blk oX11_behind_0 (pc' := 1) (ls' := [_, _]) (st' := [_]) (cs := []) rfl trivial ?_
        refine aw_ciS (rest := []) (c_X11_isNode (by omega)) kX11_isNode eX11_behind_1 lX11_behind_1 rfl rfl (Nat.le_of_ble_eq_true rfl) ⟨Nat.le_of_ble_eq_true rfl, Nat.le_of_ble_eq_true rfl⟩ ⟨Nat.le_refl _, Nat.le_refl _⟩ ?_
        refine aw_if_ne (tgt := 9) eX11_behind_4 (by decide) bt_r (fun hh => have h26 := bt1 hh; ?_) (fun hh => have h26 := bt0 hh; ?_)
        · first
          | (exfalso; omega; done)
          | (refine aw_blk oX11_behind_9 (pc' := 18) (ls' := [_, _]) (st' := [_]) (cs := [(_, _)]) rfl (⟨⟨by omega, by omega⟩, trivial⟩) ?_
             refine aw_if_eq (tgt := 24) eX11_behind_18 (by decide) (by omega) (fun h27 => ?_) (fun h27 => ?_)
             · first
               | (exfalso; omega; done)
               | (refine aw_blk oX11_behind_24 (pc' := 29) (ls' := [_, _]) (st' := [_, _]) (cs := []) rfl trivial ?_
                  refine aw_ciV (rest := []) (c_delay hP (by omega)) kX6_delayUpTo0 eX11_behind_29 lX11_behind_29 rfl rfl rfl rfl (Nat.le_of_ble_eq_true rfl) ⟨Nat.le_of_ble_eq_true rfl, Nat.le_of_ble_eq_true rfl⟩ ⟨Nat.le_refl _, Nat.le_refl _⟩ ?_
                  refine aw_iret eX11_behind_32 rfl (Nat.le_refl _) (Nat.le_refl _) ?_
                  exact pe_i rfl rfl rfl)
             · first
               | (exfalso; omega; done)
               | (refine aw_blk oX11_behind_21 (pc' := 23) (ls' := [_, _]) (st' := [_]) (cs := []) rfl trivial ?_
                  refine aw_iret eX11_behind_23 rfl (Nat.le_refl _) (Nat.le_refl _) ?_
                  exact pe_i rfl rfl rfl))
        · first
          | (exfalso; omega; done)
          | (refine aw_blk oX11_behind_7 (pc' := 8) (ls' := [_, _]) (st' := [_]) (cs := []) rfl trivial ?_
             refine aw_iret eX11_behind_8 rfl (Nat.le_refl _) (Nat.le_refl _) ?_
             exact pe_i rfl rfl rfl)
      · refine AMet.of kX12_behind.1 (Nat.le_of_ble_eq_true rfl) rfl ?_
        refine aw_blk oX12_behind_0 (pc' := 1) (ls' := [_, _]) (st' := [_]) (cs := []) rfl trivial ?_
        refine aw_ciS (rest := []) (c_X12_isNode (by omega)) kX12_isNode eX12_behind_1 lX12_behind_1 rfl rfl (Nat.le_of_ble_eq_true rfl) ⟨Nat.le_of_ble_eq_true rfl, Nat.le_of_ble_eq_true rfl⟩ ⟨Nat.le_refl _, Nat.le_refl _⟩ ?_
        refine aw_if_ne (tgt := 11) eX12_behind_4 (by decide) bt_r (fun hh => have h28 := bt1 hh; ?_) (fun hh => have h28 := bt0 hh; ?_)
        · first
          | (exfalso; omega; done)
          | (refine aw_blk oX12_behind_11 (pc' := 17) (ls' := [_, _]) (st' := [_]) (cs := [(_, _)]) rfl (⟨⟨by omega, by omega⟩, trivial⟩) ?_
             refine aw_if_eq (tgt := 25) eX12_behind_17 (by decide) (by omega) (fun h29 => ?_) (fun h29 => ?_)
             · first
               | (exfalso; omega; done)
               | (refine aw_blk oX12_behind_25 (pc' := 27) (ls' := [_, _]) (st' := [_, _]) (cs := []) rfl trivial ?_
                  refine aw_ciV (rest := []) (c_behindOf hPm (by omega)) kX12_behindOf eX12_behind_27 lX12_behind_27 rfl rfl rfl rfl (Nat.le_of_ble_eq_true rfl) ⟨Nat.le_of_ble_eq_true rfl, Nat.le_of_ble_eq_true rfl⟩ ⟨Nat.le_refl _, Nat.le_refl _⟩ ?_
                  refine aw_iret eX12_behind_30 rfl (Nat.le_refl _) (Nat.le_refl _) ?_
                  exact pe_i (bh_eq hP e1 e2 10 m (by omega)) rfl rfl)
             · first
               | (exfalso; omega; done)
               | (refine aw_blk oX12_behind_20 (pc' := 30) (ls' := [_, _]) (st' := [_]) (cs := []) rfl trivial ?_
                  refine aw_iret eX12_behind_30 rfl (Nat.le_refl _) (Nat.le_refl _) ?_
                  exact pe_i (bh_eq hP e1 e2 10 m (by omega)) rfl rfl))
        · first
          | (exfalso; omega; done)
          | (refine aw_blk oX12_behind_7 (pc' := 30) (ls' := [_, _]) (st' := [_]) (cs := []) rfl trivial ?_
             refine aw_iret eX12_behind_30 rfl (Nat.le_refl _) (Nat.le_refl _) ?_
             exact pe_i (bh_eq hP e1 e2 10 m (by omega)) rfl rfl)
    · refine ⟨-3, μ, μ, ?_, ?_, by decide, h, SR.rf⟩
      · refine AMet.of kX11_behind.1 (Nat.le_of_ble_eq_true rfl) rfl ?_
        refine aw_blk oX11_behind_0 (pc' := 1) (ls' := [_, _]) (st' := [_]) (cs := []) rfl trivial ?_
        refine aw_ciS (rest := []) (c_X11_isNode (by omega)) kX11_isNode eX11_behind_1 lX11_behind_1 rfl rfl (Nat.le_of_ble_eq_true rfl) ⟨Nat.le_of_ble_eq_true rfl, Nat.le_of_ble_eq_true rfl⟩ ⟨Nat.le_refl _, Nat.le_refl _⟩ ?_
        refine aw_if_ne (tgt := 9) eX11_behind_4 (by decide) bt_r (fun hh => have h30 := bt1 hh; ?_) (fun hh => have h30 := bt0 hh; ?_)
        · first
          | (exfalso; omega; done)
          | (refine aw_blk oX11_behind_9 (pc' := 18) (ls' := [_, _]) (st' := [_]) (cs := [(_, _)]) rfl (⟨⟨by omega, by omega⟩, trivial⟩) ?_
             refine aw_if_eq (tgt := 24) eX11_behind_18 (by decide) (by omega) (fun h31 => ?_) (fun h31 => ?_)
             · first
               | (exfalso; omega; done)
               | (refine aw_blk oX11_behind_24 (pc' := 29) (ls' := [_, _]) (st' := [_, _]) (cs := []) rfl trivial ?_
                  refine aw_ciV (rest := []) (c_delay hP (by omega)) kX6_delayUpTo0 eX11_behind_29 lX11_behind_29 rfl rfl rfl rfl (Nat.le_of_ble_eq_true rfl) ⟨Nat.le_of_ble_eq_true rfl, Nat.le_of_ble_eq_true rfl⟩ ⟨Nat.le_refl _, Nat.le_refl _⟩ ?_
                  refine aw_iret eX11_behind_32 rfl (Nat.le_refl _) (Nat.le_refl _) ?_
                  exact pe_i rfl rfl rfl)
             · first
               | (exfalso; omega; done)
               | (refine aw_blk oX11_behind_21 (pc' := 23) (ls' := [_, _]) (st' := [_]) (cs := []) rfl trivial ?_
                  refine aw_iret eX11_behind_23 rfl (Nat.le_refl _) (Nat.le_refl _) ?_
                  exact pe_i rfl rfl rfl))
        · first
          | (exfalso; omega; done)
          | (refine aw_blk oX11_behind_7 (pc' := 8) (ls' := [_, _]) (st' := [_]) (cs := []) rfl trivial ?_
             refine aw_iret eX11_behind_8 rfl (Nat.le_refl _) (Nat.le_refl _) ?_
             exact pe_i rfl rfl rfl)
      · refine AMet.of kX12_behind.1 (Nat.le_of_ble_eq_true rfl) rfl ?_
        refine aw_blk oX12_behind_0 (pc' := 1) (ls' := [_, _]) (st' := [_]) (cs := []) rfl trivial ?_
        refine aw_ciS (rest := []) (c_X12_isNode (by omega)) kX12_isNode eX12_behind_1 lX12_behind_1 rfl rfl (Nat.le_of_ble_eq_true rfl) ⟨Nat.le_of_ble_eq_true rfl, Nat.le_of_ble_eq_true rfl⟩ ⟨Nat.le_refl _, Nat.le_refl _⟩ ?_
        refine aw_if_ne (tgt := 11) eX12_behind_4 (by decide) bt_r (fun hh => have h32 := bt1 hh; ?_) (fun hh => have h32 := bt0 hh; ?_)
        · first
          | (exfalso; omega; done)
          | (refine aw_blk oX12_behind_11 (pc' := 17) (ls' := [_, _]) (st' := [_]) (cs := [(_, _)]) rfl (⟨⟨by omega, by omega⟩, trivial⟩) ?_
             refine aw_if_eq (tgt := 25) eX12_behind_17 (by decide) (by omega) (fun h33 => ?_) (fun h33 => ?_)
             · first
               | (exfalso; omega; done)
               | (refine aw_blk oX12_behind_25 (pc' := 27) (ls' := [_, _]) (st' := [_, _]) (cs := []) rfl trivial ?_
                  refine aw_ciV (rest := []) (c_behindOf hPm (by omega)) kX12_behindOf eX12_behind_27 lX12_behind_27 rfl rfl rfl rfl (Nat.le_of_ble_eq_true rfl) ⟨Nat.le_of_ble_eq_true rfl, Nat.le_of_ble_eq_true rfl⟩ ⟨Nat.le_refl _, Nat.le_refl _⟩ ?_
                  refine aw_iret eX12_behind_30 rfl (Nat.le_refl _) (Nat.le_refl _) ?_
                  exact pe_i rfl rfl rfl)
             · first
               | (exfalso; omega; done)
               | (refine aw_blk oX12_behind_20 (pc' := 30) (ls' := [_, _]) (st' := [_]) (cs := []) rfl trivial ?_
                  refine aw_iret eX12_behind_30 rfl (Nat.le_refl _) (Nat.le_refl _) ?_
                  exact pe_i rfl rfl rfl))
        · first
          | (exfalso; omega; done)
          | (refine aw_blk oX12_behind_7 (pc' := 30) (ls' := [_, _]) (st' := [_]) (cs := []) rfl trivial ?_
             refine aw_iret eX12_behind_30 rfl (Nat.le_refl _) (Nat.le_refl _) ?_
             exact pe_i rfl rfl rfl)
  · refine ⟨-1, μ, μ, ?_, ?_, by decide, h, SR.rf⟩
    · refine AMet.of kX11_behind.1 (Nat.le_of_ble_eq_true rfl) rfl ?_
      refine aw_blk oX11_behind_0 (pc' := 1) (ls' := [_, _]) (st' := [_]) (cs := []) rfl trivial ?_
      refine aw_ciS (rest := []) (c_X11_isNode (by omega)) kX11_isNode eX11_behind_1 lX11_behind_1 rfl rfl (Nat.le_of_ble_eq_true rfl) ⟨Nat.le_of_ble_eq_true rfl, Nat.le_of_ble_eq_true rfl⟩ ⟨Nat.le_refl _, Nat.le_refl _⟩ ?_
      refine aw_if_ne (tgt := 9) eX11_behind_4 (by decide) bt_r (fun hh => have h34 := bt1 hh; ?_) (fun hh => have h34 := bt0 hh; ?_)
      · first
        | (exfalso; omega; done)
        | (refine aw_blk oX11_behind_9 (pc' := 18) (ls' := [_, _]) (st' := [_]) (cs := [(_, _)]) rfl (⟨⟨by omega, by omega⟩, trivial⟩) ?_
           refine aw_if_eq (tgt := 24) eX11_behind_18 (by decide) (by omega) (fun h35 => ?_) (fun h35 => ?_)
           · first
             | (exfalso; omega; done)
             | (refine aw_blk oX11_behind_24 (pc' := 29) (ls' := [_, _]) (st' := [_, _]) (cs := []) rfl trivial ?_
                refine aw_ciV (rest := []) (c_delay hP (by omega)) kX6_delayUpTo0 eX11_behind_29 lX11_behind_29 rfl rfl rfl rfl (Nat.le_of_ble_eq_true rfl) ⟨Nat.le_of_ble_eq_true rfl, Nat.le_of_ble_eq_true rfl⟩ ⟨Nat.le_refl _, Nat.le_refl _⟩ ?_
                refine aw_iret eX11_behind_32 rfl (Nat.le_refl _) (Nat.le_refl _) ?_
                exact pe_i rfl rfl rfl)
           · first
             | (exfalso; omega; done)
             | (refine aw_blk oX11_behind_21 (pc' := 23) (ls' := [_, _]) (st' := [_]) (cs := []) rfl trivial ?_
                refine aw_iret eX11_behind_23 rfl (Nat.le_refl _) (Nat.le_refl _) ?_
                exact pe_i rfl rfl rfl))
      · first
        | (exfalso; omega; done)
        | (refine aw_blk oX11_behind_7 (pc' := 8) (ls' := [_, _]) (st' := [_]) (cs := []) rfl trivial ?_
           refine aw_iret eX11_behind_8 rfl (Nat.le_refl _) (Nat.le_refl _) ?_
           exact pe_i rfl rfl rfl)
    · refine AMet.of kX12_behind.1 (Nat.le_of_ble_eq_true rfl) rfl ?_
      refine aw_blk oX12_behind_0 (pc' := 1) (ls' := [_, _]) (st' := [_]) (cs := []) rfl trivial ?_
      refine aw_ciS (rest := []) (c_X12_isNode (by omega)) kX12_isNode eX12_behind_1 lX12_behind_1 rfl rfl (Nat.le_of_ble_eq_true rfl) ⟨Nat.le_of_ble_eq_true rfl, Nat.le_of_ble_eq_true rfl⟩ ⟨Nat.le_refl _, Nat.le_refl _⟩ ?_
      refine aw_if_ne (tgt := 11) eX12_behind_4 (by decide) bt_r (fun hh => have h36 := bt1 hh; ?_) (fun hh => have h36 := bt0 hh; ?_)
      · first
        | (exfalso; omega; done)
        | (refine aw_blk oX12_behind_11 (pc' := 17) (ls' := [_, _]) (st' := [_]) (cs := [(_, _)]) rfl (⟨⟨by omega, by omega⟩, trivial⟩) ?_
           refine aw_if_eq (tgt := 25) eX12_behind_17 (by decide) (by omega) (fun h37 => ?_) (fun h37 => ?_)
           · first
             | (exfalso; omega; done)
             | (refine aw_blk oX12_behind_25 (pc' := 27) (ls' := [_, _]) (st' := [_, _]) (cs := []) rfl trivial ?_
                refine aw_ciV (rest := []) (c_behindOf hPm (by omega)) kX12_behindOf eX12_behind_27 lX12_behind_27 rfl rfl rfl rfl (Nat.le_of_ble_eq_true rfl) ⟨Nat.le_of_ble_eq_true rfl, Nat.le_of_ble_eq_true rfl⟩ ⟨Nat.le_refl _, Nat.le_refl _⟩ ?_
                refine aw_iret eX12_behind_30 rfl (Nat.le_refl _) (Nat.le_refl _) ?_
                exact pe_i rfl rfl rfl)
           · first
             | (exfalso; omega; done)
             | (refine aw_blk oX12_behind_20 (pc' := 30) (ls' := [_, _]) (st' := [_]) (cs := []) rfl trivial ?_
                refine aw_iret eX12_behind_30 rfl (Nat.le_refl _) (Nat.le_refl _) ?_
                exact pe_i rfl rfl rfl))
      · first
        | (exfalso; omega; done)
        | (refine aw_blk oX12_behind_7 (pc' := 30) (ls' := [_, _]) (st' := [_]) (cs := []) rfl trivial ?_
           refine aw_iret eX12_behind_30 rfl (Nat.le_refl _) (Nat.le_refl _) ?_
           exact pe_i rfl rfl rfl)
theorem law_hang {κ : KX} {μ : MM} {ν : ML} {m on d : Int} (h : RN μ) (hs : RS μ) (hm : R32 m) (ho : R32 on) (hd : R32 d) : LawM RN csN κ mX11_hang mX12_hang [aI m, aI on, aI d] μ ν := by
  obtain ⟨hP, hD, hF, f0, f0m, e1, e2, e3, hst⟩ := id h
  obtain ⟨hPm, hDm, hFm⟩ := h.m
  have hfan := fan_bd hs
  by_cases c1 : (0 ≤ m ∧ m ≤ 9) ∧ (0 ≤ on ∧ on ≤ 9)
  · have fl : ∀ i : Int, 0 ≤ i → i < 10 → μ 75 i = μ 54 i := fun i a b => by
      by_cases q : i = 0
      · subst q; omega
      · exact e3 i (by omega) b
    have g1 := hF m (by omega) (by omega)
    have g2 := hF on (by omega) (by omega)
    have g3 := fl m (by omega) (by omega)
    have g4 := fl on (by omega) (by omega)
    have g5 := hc_bd (fl := μ 54) (par := μ 52) (on := on) (but := m)
    have g6 : hc (μ 75) (μ 73) on m = hc (μ 54) (μ 52) on m := hc_eq e3 e1
    by_cases c2 : 1 ≤ d ∧ d ≤ 100
    · by_cases c3 : μ 54 m = 0 ∧ μ 54 on = 0
      · by_cases c4 : on < m
        · have g7 := e1 m (by omega) (by omega)
          have g8 := hP m (by omega) (by omega)
          by_cases c5 : hc (μ 54) (μ 52) on m < μ 1 6
          · refine ⟨μ 52 m, up (up μ 52 m on) 53 m d, up (up (up (up μ 52 m on) 53 m d) 73 m on) 74 m d, ?_, ?_, by omega, ?_, (((SR.rf.put (by decide)).put (by decide)).put (by decide)).put (by decide)⟩
            · skip
              refine AMet.of kX11_hang.1 (Nat.le_of_ble_eq_true rfl) rfl ?_
              refine aw_blk oX11_hang_0 (pc' := 1) (ls' := [_, _, _, _]) (st' := [_]) (cs := []) rfl trivial ?_
              refine aw_ciS (rest := []) (c_X11_isNode (by omega)) kX11_isNode eX11_hang_1 lX11_hang_1 rfl rfl (Nat.le_of_ble_eq_true rfl) ⟨Nat.le_of_ble_eq_true rfl, Nat.le_of_ble_eq_true rfl⟩ ⟨Nat.le_refl _, Nat.le_refl _⟩ ?_
              refine aw_if_eq (tgt := 14) eX11_hang_4 (by decide) bt_r (fun hh => have h38 := bt0 hh; ?_) (fun hh => have h38 := bt1 hh; ?_)
              · first
                | (exfalso; omega; done)
                | (refine aw_blk oX11_hang_14 (pc' := 15) (ls' := [_, _, _, _]) (st' := [_]) (cs := []) rfl trivial ?_
                   refine aw_iret eX11_hang_15 rfl (Nat.le_refl _) (Nat.le_refl _) ?_
                   exact pe_i rfl rfl rfl)
              · first
                | (exfalso; omega; done)
                | (refine aw_blk oX11_hang_7 (pc' := 8) (ls' := [_, _, _, _]) (st' := [_]) (cs := []) rfl trivial ?_
                   refine aw_ciS (rest := []) (c_X11_isNode (by omega)) kX11_isNode eX11_hang_8 lX11_hang_8 rfl rfl (Nat.le_of_ble_eq_true rfl) ⟨Nat.le_of_ble_eq_true rfl, Nat.le_of_ble_eq_true rfl⟩ ⟨Nat.le_refl _, Nat.le_refl _⟩ ?_
                   refine aw_if_ne (tgt := 16) eX11_hang_11 (by decide) bt_r (fun hh => have h39 := bt1 hh; ?_) (fun hh => have h39 := bt0 hh; ?_)
                   · first
                     | (exfalso; omega; done)
                     | (refine aw_blk oX11_hang_16 (pc' := 20) (ls' := [_, _, _, _]) (st' := [_, _, _]) (cs := []) rfl trivial ?_
                        refine aw_ciS (rest := []) (c_X11_between (by omega) (by omega) (by omega)) kX11_between eX11_hang_20 lX11_hang_20 rfl rfl (Nat.le_of_ble_eq_true rfl) ⟨Nat.le_of_ble_eq_true rfl, Nat.le_of_ble_eq_true rfl⟩ ⟨Nat.le_refl _, Nat.le_refl _⟩ ?_
                        refine aw_if_ne (tgt := 29) eX11_hang_23 (by decide) bt_r (fun hh => have h40 := bt1 hh; ?_) (fun hh => have h40 := bt0 hh; ?_)
                        · first
                          | (exfalso; omega; done)
                          | (refine aw_blk oX11_hang_29 (pc' := 38) (ls' := [_, _, _, _]) (st' := [_]) (cs := [(_, _)]) rfl (⟨⟨by omega, by omega⟩, trivial⟩) ?_
                             refine aw_if_ne (tgt := 53) eX11_hang_38 (by decide) (by omega) (fun h41 => ?_) (fun h41 => ?_)
                             · first
                               | (exfalso; omega; done)
                               | (refine aw_blk oX11_hang_53 (pc' := 55) (ls' := [_, _, _, _]) (st' := [_]) (cs := []) rfl trivial ?_
                                  refine aw_iret eX11_hang_55 rfl (Nat.le_refl _) (Nat.le_refl _) ?_
                                  exact pe_i rfl rfl rfl)
                             · first
                               | (exfalso; omega; done)
                               | (refine aw_blk oX11_hang_41 (pc' := 50) (ls' := [_, _, _, _]) (st' := [_]) (cs := [(_, _)]) rfl (⟨⟨by omega, by omega⟩, trivial⟩) ?_
                                  refine aw_if_eq (tgt := 56) eX11_hang_50 (by decide) (by omega) (fun h42 => ?_) (fun h42 => ?_)
                                  · first
                                    | (exfalso; omega; done)
                                    | (refine aw_blk oX11_hang_56 (pc' := 58) (ls' := [_, _, _, _]) (st' := [_, _]) (cs := []) rfl trivial ?_
                                       refine aw_icmp_lt (tgt := 64) eX11_hang_58 (by decide) (by omega) (by omega) (fun h43 => ?_) (fun h43 => ?_)
                                       · first
                                         | (exfalso; omega; done)
                                         | (refine aw_blk oX11_hang_64 (pc' := 70) (ls' := [_, _, _, _]) (st' := [_, _, _]) (cs := []) rfl trivial ?_
                                            refine aw_ciV (rest := []) (c_hangingOn (by omega) (by omega) hP hF) kX6_hangingOn eX11_hang_70 lX11_hang_70 rfl rfl rfl rfl (Nat.le_of_ble_eq_true rfl) ⟨Nat.le_of_ble_eq_true rfl, Nat.le_of_ble_eq_true rfl⟩ ⟨Nat.le_refl _, Nat.le_refl _⟩ ?_
                                            refine aw_blk oX11_hang_73 (pc' := 80) (ls' := [_, _, _, _]) (st' := [_, _]) (cs := [(_, _)]) rfl (⟨⟨by omega, by omega⟩, trivial⟩) ?_
                                            refine aw_icmp_lt (tgt := 86) eX11_hang_80 (by decide) (by omega) (by omega) (fun h44 => ?_) (fun h44 => ?_)
                                            · first
                                              | (exfalso; omega; done)
                                              | (refine aw_blk oX11_hang_86 (pc' := 93) (ls' := [_, _, _, _]) (st' := [_, _, _, _]) (cs := []) rfl trivial ?_
                                                 refine aw_ciV (rest := []) (c_rehang (by omega)) kX6_rehang eX11_hang_93 lX11_hang_93 rfl rfl rfl rfl (Nat.le_of_ble_eq_true rfl) ⟨Nat.le_of_ble_eq_true rfl, Nat.le_of_ble_eq_true rfl⟩ ⟨Nat.le_refl _, Nat.le_refl _⟩ ?_
                                                 refine aw_iret eX11_hang_96 rfl (Nat.le_refl _) (Nat.le_refl _) ?_
                                                 exact pe_i rfl rfl rfl)
                                            · first
                                              | (exfalso; omega; done)
                                              | (refine aw_blk oX11_hang_83 (pc' := 85) (ls' := [_, _, _, _]) (st' := [_]) (cs := []) rfl trivial ?_
                                                 refine aw_iret eX11_hang_85 rfl (Nat.le_refl _) (Nat.le_refl _) ?_
                                                 exact pe_i rfl rfl rfl))
                                       · first
                                         | (exfalso; omega; done)
                                         | (refine aw_blk oX11_hang_61 (pc' := 63) (ls' := [_, _, _, _]) (st' := [_]) (cs := []) rfl trivial ?_
                                            refine aw_iret eX11_hang_63 rfl (Nat.le_refl _) (Nat.le_refl _) ?_
                                            exact pe_i rfl rfl rfl))
                                  · first
                                    | (exfalso; omega; done)
                                    | (refine aw_blk oX11_hang_53 (pc' := 55) (ls' := [_, _, _, _]) (st' := [_]) (cs := []) rfl trivial ?_
                                       refine aw_iret eX11_hang_55 rfl (Nat.le_refl _) (Nat.le_refl _) ?_
                                       exact pe_i rfl rfl rfl)))
                        · first
                          | (exfalso; omega; done)
                          | (refine aw_blk oX11_hang_26 (pc' := 28) (ls' := [_, _, _, _]) (st' := [_]) (cs := []) rfl trivial ?_
                             refine aw_iret eX11_hang_28 rfl (Nat.le_refl _) (Nat.le_refl _) ?_
                             exact pe_i rfl rfl rfl))
                   · first
                     | (exfalso; omega; done)
                     | (refine aw_blk oX11_hang_14 (pc' := 15) (ls' := [_, _, _, _]) (st' := [_]) (cs := []) rfl trivial ?_
                        refine aw_iret eX11_hang_15 rfl (Nat.le_refl _) (Nat.le_refl _) ?_
                        exact pe_i rfl rfl rfl))
            · have hPm : okP ((up (up μ 52 m on) 53 m d) 73) := hPm
              have hFm : okF ((up (up μ 52 m on) 53 m d) 75) := hFm
              have hFm1 : 0 ≤ (up (up μ 52 m on) 53 m d) 75 m ∧ (up (up μ 52 m on) 53 m d) 75 m = 0 ∧ (up (up μ 52 m on) 53 m d) 75 on = 0 := by
                rw [up_c (by decide), up_c (by decide), up_c (by decide), up_c (by decide)]; omega
              have hfm : (up (up μ 52 m on) 53 m d) 58 6 = μ 1 6 := hfan.1
              have g6 : hc ((up (up μ 52 m on) 53 m d) 75) ((up (up μ 52 m on) 53 m d) 73) on m = hc (μ 54) (μ 52) on m := g6
              refine AMet.of kX12_hang.1 (Nat.le_of_ble_eq_true rfl) rfl ?_
              refine aw_blk oX12_hang_0 (pc' := 1) (ls' := [_, _, _, _, _]) (st' := [_]) (cs := []) rfl trivial ?_
              refine aw_ciS (rest := []) (c_X12_isNode (by omega)) kX12_isNode eX12_hang_1 lX12_hang_1 rfl rfl (Nat.le_of_ble_eq_true rfl) ⟨Nat.le_of_ble_eq_true rfl, Nat.le_of_ble_eq_true rfl⟩ ⟨Nat.le_refl _, Nat.le_refl _⟩ ?_
              refine aw_if_eq (tgt := 14) eX12_hang_4 (by decide) bt_r (fun hh => have h45 := bt0 hh; ?_) (fun hh => have h45 := bt1 hh; ?_)
              · first
                | (exfalso; omega; done)
                | (refine aw_blk oX12_hang_14 (pc' := 15) (ls' := [_, _, _, _, _]) (st' := [_]) (cs := []) rfl trivial ?_
                   refine aw_iret eX12_hang_15 rfl (Nat.le_refl _) (Nat.le_refl _) ?_
                   exact pe_i (show μ 73 m = μ 52 m from g7) rfl rfl)
              · first
                | (exfalso; omega; done)
                | (refine aw_blk oX12_hang_7 (pc' := 8) (ls' := [_, _, _, _, _]) (st' := [_]) (cs := []) rfl trivial ?_
                   refine aw_ciS (rest := []) (c_X12_isNode (by omega)) kX12_isNode eX12_hang_8 lX12_hang_8 rfl rfl (Nat.le_of_ble_eq_true rfl) ⟨Nat.le_of_ble_eq_true rfl, Nat.le_of_ble_eq_true rfl⟩ ⟨Nat.le_refl _, Nat.le_refl _⟩ ?_
                   refine aw_if_ne (tgt := 16) eX12_hang_11 (by decide) bt_r (fun hh => have h46 := bt1 hh; ?_) (fun hh => have h46 := bt0 hh; ?_)
                   · first
                     | (exfalso; omega; done)
                     | (refine aw_blk oX12_hang_16 (pc' := 20) (ls' := [_, _, _, _, _]) (st' := [_, _, _]) (cs := []) rfl trivial ?_
                        refine aw_ciS (rest := []) (c_X12_in (by omega) (by omega) (by omega)) kX12_in eX12_hang_20 lX12_hang_20 rfl rfl (Nat.le_of_ble_eq_true rfl) ⟨Nat.le_of_ble_eq_true rfl, Nat.le_of_ble_eq_true rfl⟩ ⟨Nat.le_refl _, Nat.le_refl _⟩ ?_
                        refine aw_if_ne (tgt := 29) eX12_hang_23 (by decide) bt_r (fun hh => have h47 := bt1 hh; ?_) (fun hh => have h47 := bt0 hh; ?_)
                        · first
                          | (exfalso; omega; done)
                          | (refine aw_blk oX12_hang_29 (pc' := 35) (ls' := [_, _, _, _, _]) (st' := [_]) (cs := [(_, _)]) rfl (⟨⟨by omega, by omega⟩, trivial⟩) ?_
                             refine aw_if_ne (tgt := 47) eX12_hang_35 (by decide) (by omega) (fun h48 => ?_) (fun h48 => ?_)
                             · first
                               | (exfalso; omega; done)
                               | (refine aw_blk oX12_hang_47 (pc' := 49) (ls' := [_, _, _, _, _]) (st' := [_]) (cs := []) rfl trivial ?_
                                  refine aw_iret eX12_hang_49 rfl (Nat.le_refl _) (Nat.le_refl _) ?_
                                  exact pe_i (show μ 73 m = μ 52 m from g7) rfl rfl)
                             · first
                               | (exfalso; omega; done)
                               | (refine aw_blk oX12_hang_38 (pc' := 44) (ls' := [_, _, _, _, _]) (st' := [_]) (cs := [(_, _)]) rfl (⟨⟨by omega, by omega⟩, trivial⟩) ?_
                                  refine aw_if_eq (tgt := 50) eX12_hang_44 (by decide) (by omega) (fun h49 => ?_) (fun h49 => ?_)
                                  · first
                                    | (exfalso; omega; done)
                                    | (refine aw_blk oX12_hang_50 (pc' := 52) (ls' := [_, _, _, _, _]) (st' := [_, _]) (cs := []) rfl trivial ?_
                                       refine aw_icmp_lt (tgt := 58) eX12_hang_52 (by decide) (by omega) (by omega) (fun h50 => ?_) (fun h50 => ?_)
                                       · first
                                         | (exfalso; omega; done)
                                         | (refine aw_blk oX12_hang_58 (pc' := 61) (ls' := [_, _, _, _, _]) (st' := [_, _, _]) (cs := []) rfl trivial ?_
                                            refine aw_ciV (rest := []) (c_hungOn (by omega) (by omega) hPm hFm) kX12_hungOn eX12_hang_61 lX12_hang_61 rfl rfl rfl rfl (Nat.le_of_ble_eq_true rfl) ⟨Nat.le_of_ble_eq_true rfl, Nat.le_of_ble_eq_true rfl⟩ ⟨Nat.le_refl _, Nat.le_refl _⟩ ?_
                                            refine aw_blk oX12_hang_64 (pc' := 71) (ls' := [_, _, _, _, _]) (st' := [_, _]) (cs := [(_, _)]) rfl (⟨⟨by omega, by omega⟩, trivial⟩) ?_
                                            refine aw_icmp_lt (tgt := 77) eX12_hang_71 (by decide) (by omega) (by omega) (fun h51 => ?_) (fun h51 => ?_)
                                            · first
                                              | (exfalso; omega; done)
                                              | (refine aw_blk oX12_hang_77 (pc' := 101) (ls' := [_, _, _, _, _]) (st' := [_]) (cs := [(_, _), (_, _), (_, _)]) rfl (⟨⟨by omega, by omega⟩, ⟨by omega, by omega⟩, ⟨by omega, by omega⟩, trivial⟩) ?_
                                                 refine aw_iret eX12_hang_101 rfl (Nat.le_refl _) (Nat.le_refl _) ?_
                                                 exact pe_i (show μ 73 m = μ 52 m from g7) rfl rfl)
                                            · first
                                              | (exfalso; omega; done)
                                              | (refine aw_blk oX12_hang_74 (pc' := 76) (ls' := [_, _, _, _, _]) (st' := [_]) (cs := []) rfl trivial ?_
                                                 refine aw_iret eX12_hang_76 rfl (Nat.le_refl _) (Nat.le_refl _) ?_
                                                 exact pe_i (show μ 73 m = μ 52 m from g7) rfl rfl))
                                       · first
                                         | (exfalso; omega; done)
                                         | (refine aw_blk oX12_hang_55 (pc' := 57) (ls' := [_, _, _, _, _]) (st' := [_]) (cs := []) rfl trivial ?_
                                            refine aw_iret eX12_hang_57 rfl (Nat.le_refl _) (Nat.le_refl _) ?_
                                            exact pe_i (show μ 73 m = μ 52 m from g7) rfl rfl))
                                  · first
                                    | (exfalso; omega; done)
                                    | (refine aw_blk oX12_hang_47 (pc' := 49) (ls' := [_, _, _, _, _]) (st' := [_]) (cs := []) rfl trivial ?_
                                       refine aw_iret eX12_hang_49 rfl (Nat.le_refl _) (Nat.le_refl _) ?_
                                       exact pe_i (show μ 73 m = μ 52 m from g7) rfl rfl)))
                        · first
                          | (exfalso; omega; done)
                          | (refine aw_blk oX12_hang_26 (pc' := 28) (ls' := [_, _, _, _, _]) (st' := [_]) (cs := []) rfl trivial ?_
                             refine aw_iret eX12_hang_28 rfl (Nat.le_refl _) (Nat.le_refl _) ?_
                             exact pe_i (show μ 73 m = μ 52 m from g7) rfl rfl))
                   · first
                     | (exfalso; omega; done)
                     | (refine aw_blk oX12_hang_14 (pc' := 15) (ls' := [_, _, _, _, _]) (st' := [_]) (cs := []) rfl trivial ?_
                        refine aw_iret eX12_hang_15 rfl (Nat.le_refl _) (Nat.le_refl _) ?_
                        exact pe_i (show μ 73 m = μ 52 m from g7) rfl rfl))
            · have r1 : ∀ i, (up (up (up (up μ 52 m on) 53 m d) 73 m on) 74 m d) 52 i = if i = m then on else μ 52 i := fun i => by
                rw [up_c (by decide), up_c (by decide), up_c (by decide)]; unfold up; simp
              have r2 : ∀ i, (up (up (up (up μ 52 m on) 53 m d) 73 m on) 74 m d) 53 i = if i = m then d else μ 53 i := fun i => by
                rw [up_c (by decide), up_c (by decide)]; unfold up; simp
              have r3 : ∀ i, (up (up (up (up μ 52 m on) 53 m d) 73 m on) 74 m d) 73 i = if i = m then on else μ 73 i := fun i => by
                rw [up_c (by decide)]; unfold up; simp
              have r4 : ∀ i, (up (up (up (up μ 52 m on) 53 m d) 73 m on) 74 m d) 74 i = if i = m then d else μ 74 i := fun i => by
                unfold up; simp
              refine ⟨fun i a b => ?_, fun i a b => ?_, hF, f0, f0m, fun i a b => ?_, fun i a b => ?_, e3, fun i a b q => ?_⟩
              · rw [r1]; have := hP i a b; split <;> omega
              · rw [r2]; have := hD i a b; split <;> omega
              · rw [r1, r3, e1 i a b]
              · rw [r2, r4, e2 i a b]
              · rw [r1]
                show μ 54 (if i = m then on else μ 52 i) = 0
                split
                · exact c3.2
                · exact hst i a b q
          · refine ⟨-4, μ, μ, ?_, ?_, by decide, h, SR.rf⟩
            · refine AMet.of kX11_hang.1 (Nat.le_of_ble_eq_true rfl) rfl ?_
              refine aw_blk oX11_hang_0 (pc' := 1) (ls' := [_, _, _, _]) (st' := [_]) (cs := []) rfl trivial ?_
              refine aw_ciS (rest := []) (c_X11_isNode (by omega)) kX11_isNode eX11_hang_1 lX11_hang_1 rfl rfl (Nat.le_of_ble_eq_true rfl) ⟨Nat.le_of_ble_eq_true rfl, Nat.le_of_ble_eq_true rfl⟩ ⟨Nat.le_refl _, Nat.le_refl _⟩ ?_
              refine aw_if_eq (tgt := 14) eX11_hang_4 (by decide) bt_r (fun hh => have h52 := bt0 hh; ?_) (fun hh => have h52 := bt1 hh; ?_)
              · first
                | (exfalso; omega; done)
                | (refine aw_blk oX11_hang_14 (pc' := 15) (ls' := [_, _, _, _]) (st' := [_]) (cs := []) rfl trivial ?_
                   refine aw_iret eX11_hang_15 rfl (Nat.le_refl _) (Nat.le_refl _) ?_
                   exact pe_i rfl rfl rfl)
              · first
                | (exfalso; omega; done)
                | (refine aw_blk oX11_hang_7 (pc' := 8) (ls' := [_, _, _, _]) (st' := [_]) (cs := []) rfl trivial ?_
                   refine aw_ciS (rest := []) (c_X11_isNode (by omega)) kX11_isNode eX11_hang_8 lX11_hang_8 rfl rfl (Nat.le_of_ble_eq_true rfl) ⟨Nat.le_of_ble_eq_true rfl, Nat.le_of_ble_eq_true rfl⟩ ⟨Nat.le_refl _, Nat.le_refl _⟩ ?_
                   refine aw_if_ne (tgt := 16) eX11_hang_11 (by decide) bt_r (fun hh => have h53 := bt1 hh; ?_) (fun hh => have h53 := bt0 hh; ?_)
                   · first
                     | (exfalso; omega; done)
                     | (refine aw_blk oX11_hang_16 (pc' := 20) (ls' := [_, _, _, _]) (st' := [_, _, _]) (cs := []) rfl trivial ?_
                        refine aw_ciS (rest := []) (c_X11_between (by omega) (by omega) (by omega)) kX11_between eX11_hang_20 lX11_hang_20 rfl rfl (Nat.le_of_ble_eq_true rfl) ⟨Nat.le_of_ble_eq_true rfl, Nat.le_of_ble_eq_true rfl⟩ ⟨Nat.le_refl _, Nat.le_refl _⟩ ?_
                        refine aw_if_ne (tgt := 29) eX11_hang_23 (by decide) bt_r (fun hh => have h54 := bt1 hh; ?_) (fun hh => have h54 := bt0 hh; ?_)
                        · first
                          | (exfalso; omega; done)
                          | (refine aw_blk oX11_hang_29 (pc' := 38) (ls' := [_, _, _, _]) (st' := [_]) (cs := [(_, _)]) rfl (⟨⟨by omega, by omega⟩, trivial⟩) ?_
                             refine aw_if_ne (tgt := 53) eX11_hang_38 (by decide) (by omega) (fun h55 => ?_) (fun h55 => ?_)
                             · first
                               | (exfalso; omega; done)
                               | (refine aw_blk oX11_hang_53 (pc' := 55) (ls' := [_, _, _, _]) (st' := [_]) (cs := []) rfl trivial ?_
                                  refine aw_iret eX11_hang_55 rfl (Nat.le_refl _) (Nat.le_refl _) ?_
                                  exact pe_i rfl rfl rfl)
                             · first
                               | (exfalso; omega; done)
                               | (refine aw_blk oX11_hang_41 (pc' := 50) (ls' := [_, _, _, _]) (st' := [_]) (cs := [(_, _)]) rfl (⟨⟨by omega, by omega⟩, trivial⟩) ?_
                                  refine aw_if_eq (tgt := 56) eX11_hang_50 (by decide) (by omega) (fun h56 => ?_) (fun h56 => ?_)
                                  · first
                                    | (exfalso; omega; done)
                                    | (refine aw_blk oX11_hang_56 (pc' := 58) (ls' := [_, _, _, _]) (st' := [_, _]) (cs := []) rfl trivial ?_
                                       refine aw_icmp_lt (tgt := 64) eX11_hang_58 (by decide) (by omega) (by omega) (fun h57 => ?_) (fun h57 => ?_)
                                       · first
                                         | (exfalso; omega; done)
                                         | (refine aw_blk oX11_hang_64 (pc' := 70) (ls' := [_, _, _, _]) (st' := [_, _, _]) (cs := []) rfl trivial ?_
                                            refine aw_ciV (rest := []) (c_hangingOn (by omega) (by omega) hP hF) kX6_hangingOn eX11_hang_70 lX11_hang_70 rfl rfl rfl rfl (Nat.le_of_ble_eq_true rfl) ⟨Nat.le_of_ble_eq_true rfl, Nat.le_of_ble_eq_true rfl⟩ ⟨Nat.le_refl _, Nat.le_refl _⟩ ?_
                                            refine aw_blk oX11_hang_73 (pc' := 80) (ls' := [_, _, _, _]) (st' := [_, _]) (cs := [(_, _)]) rfl (⟨⟨by omega, by omega⟩, trivial⟩) ?_
                                            refine aw_icmp_lt (tgt := 86) eX11_hang_80 (by decide) (by omega) (by omega) (fun h58 => ?_) (fun h58 => ?_)
                                            · first
                                              | (exfalso; omega; done)
                                              | (refine aw_blk oX11_hang_86 (pc' := 93) (ls' := [_, _, _, _]) (st' := [_, _, _, _]) (cs := []) rfl trivial ?_
                                                 refine aw_ciV (rest := []) (c_rehang (by omega)) kX6_rehang eX11_hang_93 lX11_hang_93 rfl rfl rfl rfl (Nat.le_of_ble_eq_true rfl) ⟨Nat.le_of_ble_eq_true rfl, Nat.le_of_ble_eq_true rfl⟩ ⟨Nat.le_refl _, Nat.le_refl _⟩ ?_
                                                 refine aw_iret eX11_hang_96 rfl (Nat.le_refl _) (Nat.le_refl _) ?_
                                                 exact pe_i rfl rfl rfl)
                                            · first
                                              | (exfalso; omega; done)
                                              | (refine aw_blk oX11_hang_83 (pc' := 85) (ls' := [_, _, _, _]) (st' := [_]) (cs := []) rfl trivial ?_
                                                 refine aw_iret eX11_hang_85 rfl (Nat.le_refl _) (Nat.le_refl _) ?_
                                                 exact pe_i rfl rfl rfl))
                                       · first
                                         | (exfalso; omega; done)
                                         | (refine aw_blk oX11_hang_61 (pc' := 63) (ls' := [_, _, _, _]) (st' := [_]) (cs := []) rfl trivial ?_
                                            refine aw_iret eX11_hang_63 rfl (Nat.le_refl _) (Nat.le_refl _) ?_
                                            exact pe_i rfl rfl rfl))
                                  · first
                                    | (exfalso; omega; done)
                                    | (refine aw_blk oX11_hang_53 (pc' := 55) (ls' := [_, _, _, _]) (st' := [_]) (cs := []) rfl trivial ?_
                                       refine aw_iret eX11_hang_55 rfl (Nat.le_refl _) (Nat.le_refl _) ?_
                                       exact pe_i rfl rfl rfl)))
                        · first
                          | (exfalso; omega; done)
                          | (refine aw_blk oX11_hang_26 (pc' := 28) (ls' := [_, _, _, _]) (st' := [_]) (cs := []) rfl trivial ?_
                             refine aw_iret eX11_hang_28 rfl (Nat.le_refl _) (Nat.le_refl _) ?_
                             exact pe_i rfl rfl rfl))
                   · first
                     | (exfalso; omega; done)
                     | (refine aw_blk oX11_hang_14 (pc' := 15) (ls' := [_, _, _, _]) (st' := [_]) (cs := []) rfl trivial ?_
                        refine aw_iret eX11_hang_15 rfl (Nat.le_refl _) (Nat.le_refl _) ?_
                        exact pe_i rfl rfl rfl))
            · refine AMet.of kX12_hang.1 (Nat.le_of_ble_eq_true rfl) rfl ?_
              refine aw_blk oX12_hang_0 (pc' := 1) (ls' := [_, _, _, _, _]) (st' := [_]) (cs := []) rfl trivial ?_
              refine aw_ciS (rest := []) (c_X12_isNode (by omega)) kX12_isNode eX12_hang_1 lX12_hang_1 rfl rfl (Nat.le_of_ble_eq_true rfl) ⟨Nat.le_of_ble_eq_true rfl, Nat.le_of_ble_eq_true rfl⟩ ⟨Nat.le_refl _, Nat.le_refl _⟩ ?_
              refine aw_if_eq (tgt := 14) eX12_hang_4 (by decide) bt_r (fun hh => have h59 := bt0 hh; ?_) (fun hh => have h59 := bt1 hh; ?_)
              · first
                | (exfalso; omega; done)
                | (refine aw_blk oX12_hang_14 (pc' := 15) (ls' := [_, _, _, _, _]) (st' := [_]) (cs := []) rfl trivial ?_
                   refine aw_iret eX12_hang_15 rfl (Nat.le_refl _) (Nat.le_refl _) ?_
                   exact pe_i rfl rfl rfl)
              · first
                | (exfalso; omega; done)
                | (refine aw_blk oX12_hang_7 (pc' := 8) (ls' := [_, _, _, _, _]) (st' := [_]) (cs := []) rfl trivial ?_
                   refine aw_ciS (rest := []) (c_X12_isNode (by omega)) kX12_isNode eX12_hang_8 lX12_hang_8 rfl rfl (Nat.le_of_ble_eq_true rfl) ⟨Nat.le_of_ble_eq_true rfl, Nat.le_of_ble_eq_true rfl⟩ ⟨Nat.le_refl _, Nat.le_refl _⟩ ?_
                   refine aw_if_ne (tgt := 16) eX12_hang_11 (by decide) bt_r (fun hh => have h60 := bt1 hh; ?_) (fun hh => have h60 := bt0 hh; ?_)
                   · first
                     | (exfalso; omega; done)
                     | (refine aw_blk oX12_hang_16 (pc' := 20) (ls' := [_, _, _, _, _]) (st' := [_, _, _]) (cs := []) rfl trivial ?_
                        refine aw_ciS (rest := []) (c_X12_in (by omega) (by omega) (by omega)) kX12_in eX12_hang_20 lX12_hang_20 rfl rfl (Nat.le_of_ble_eq_true rfl) ⟨Nat.le_of_ble_eq_true rfl, Nat.le_of_ble_eq_true rfl⟩ ⟨Nat.le_refl _, Nat.le_refl _⟩ ?_
                        refine aw_if_ne (tgt := 29) eX12_hang_23 (by decide) bt_r (fun hh => have h61 := bt1 hh; ?_) (fun hh => have h61 := bt0 hh; ?_)
                        · first
                          | (exfalso; omega; done)
                          | (refine aw_blk oX12_hang_29 (pc' := 35) (ls' := [_, _, _, _, _]) (st' := [_]) (cs := [(_, _)]) rfl (⟨⟨by omega, by omega⟩, trivial⟩) ?_
                             refine aw_if_ne (tgt := 47) eX12_hang_35 (by decide) (by omega) (fun h62 => ?_) (fun h62 => ?_)
                             · first
                               | (exfalso; omega; done)
                               | (refine aw_blk oX12_hang_47 (pc' := 49) (ls' := [_, _, _, _, _]) (st' := [_]) (cs := []) rfl trivial ?_
                                  refine aw_iret eX12_hang_49 rfl (Nat.le_refl _) (Nat.le_refl _) ?_
                                  exact pe_i rfl rfl rfl)
                             · first
                               | (exfalso; omega; done)
                               | (refine aw_blk oX12_hang_38 (pc' := 44) (ls' := [_, _, _, _, _]) (st' := [_]) (cs := [(_, _)]) rfl (⟨⟨by omega, by omega⟩, trivial⟩) ?_
                                  refine aw_if_eq (tgt := 50) eX12_hang_44 (by decide) (by omega) (fun h63 => ?_) (fun h63 => ?_)
                                  · first
                                    | (exfalso; omega; done)
                                    | (refine aw_blk oX12_hang_50 (pc' := 52) (ls' := [_, _, _, _, _]) (st' := [_, _]) (cs := []) rfl trivial ?_
                                       refine aw_icmp_lt (tgt := 58) eX12_hang_52 (by decide) (by omega) (by omega) (fun h64 => ?_) (fun h64 => ?_)
                                       · first
                                         | (exfalso; omega; done)
                                         | (refine aw_blk oX12_hang_58 (pc' := 61) (ls' := [_, _, _, _, _]) (st' := [_, _, _]) (cs := []) rfl trivial ?_
                                            refine aw_ciV (rest := []) (c_hungOn (by omega) (by omega) hPm hFm) kX12_hungOn eX12_hang_61 lX12_hang_61 rfl rfl rfl rfl (Nat.le_of_ble_eq_true rfl) ⟨Nat.le_of_ble_eq_true rfl, Nat.le_of_ble_eq_true rfl⟩ ⟨Nat.le_refl _, Nat.le_refl _⟩ ?_
                                            refine aw_blk oX12_hang_64 (pc' := 71) (ls' := [_, _, _, _, _]) (st' := [_, _]) (cs := [(_, _)]) rfl (⟨⟨by omega, by omega⟩, trivial⟩) ?_
                                            refine aw_icmp_lt (tgt := 77) eX12_hang_71 (by decide) (by omega) (by omega) (fun h65 => ?_) (fun h65 => ?_)
                                            · first
                                              | (exfalso; omega; done)
                                              | (refine aw_blk oX12_hang_77 (pc' := 101) (ls' := [_, _, _, _, _]) (st' := [_]) (cs := [(_, _), (_, _), (_, _)]) rfl (⟨⟨by omega, by omega⟩, ⟨by omega, by omega⟩, ⟨by omega, by omega⟩, trivial⟩) ?_
                                                 refine aw_iret eX12_hang_101 rfl (Nat.le_refl _) (Nat.le_refl _) ?_
                                                 exact pe_i rfl rfl rfl)
                                            · first
                                              | (exfalso; omega; done)
                                              | (refine aw_blk oX12_hang_74 (pc' := 76) (ls' := [_, _, _, _, _]) (st' := [_]) (cs := []) rfl trivial ?_
                                                 refine aw_iret eX12_hang_76 rfl (Nat.le_refl _) (Nat.le_refl _) ?_
                                                 exact pe_i rfl rfl rfl))
                                       · first
                                         | (exfalso; omega; done)
                                         | (refine aw_blk oX12_hang_55 (pc' := 57) (ls' := [_, _, _, _, _]) (st' := [_]) (cs := []) rfl trivial ?_
                                            refine aw_iret eX12_hang_57 rfl (Nat.le_refl _) (Nat.le_refl _) ?_
                                            exact pe_i rfl rfl rfl))
                                  · first
                                    | (exfalso; omega; done)
                                    | (refine aw_blk oX12_hang_47 (pc' := 49) (ls' := [_, _, _, _, _]) (st' := [_]) (cs := []) rfl trivial ?_
                                       refine aw_iret eX12_hang_49 rfl (Nat.le_refl _) (Nat.le_refl _) ?_
                                       exact pe_i rfl rfl rfl)))
                        · first
                          | (exfalso; omega; done)
                          | (refine aw_blk oX12_hang_26 (pc' := 28) (ls' := [_, _, _, _, _]) (st' := [_]) (cs := []) rfl trivial ?_
                             refine aw_iret eX12_hang_28 rfl (Nat.le_refl _) (Nat.le_refl _) ?_
                             exact pe_i rfl rfl rfl))
                   · first
                     | (exfalso; omega; done)
                     | (refine aw_blk oX12_hang_14 (pc' := 15) (ls' := [_, _, _, _, _]) (st' := [_]) (cs := []) rfl trivial ?_
                        refine aw_iret eX12_hang_15 rfl (Nat.le_refl _) (Nat.le_refl _) ?_
                        exact pe_i rfl rfl rfl))
        · refine ⟨-5, μ, μ, ?_, ?_, by decide, h, SR.rf⟩
          · refine AMet.of kX11_hang.1 (Nat.le_of_ble_eq_true rfl) rfl ?_
            refine aw_blk oX11_hang_0 (pc' := 1) (ls' := [_, _, _, _]) (st' := [_]) (cs := []) rfl trivial ?_
            refine aw_ciS (rest := []) (c_X11_isNode (by omega)) kX11_isNode eX11_hang_1 lX11_hang_1 rfl rfl (Nat.le_of_ble_eq_true rfl) ⟨Nat.le_of_ble_eq_true rfl, Nat.le_of_ble_eq_true rfl⟩ ⟨Nat.le_refl _, Nat.le_refl _⟩ ?_
            refine aw_if_eq (tgt := 14) eX11_hang_4 (by decide) bt_r (fun hh => have h66 := bt0 hh; ?_) (fun hh => have h66 := bt1 hh; ?_)
            · first
              | (exfalso; omega; done)
              | (refine aw_blk oX11_hang_14 (pc' := 15) (ls' := [_, _, _, _]) (st' := [_]) (cs := []) rfl trivial ?_
                 refine aw_iret eX11_hang_15 rfl (Nat.le_refl _) (Nat.le_refl _) ?_
                 exact pe_i rfl rfl rfl)
            · first
              | (exfalso; omega; done)
              | (refine aw_blk oX11_hang_7 (pc' := 8) (ls' := [_, _, _, _]) (st' := [_]) (cs := []) rfl trivial ?_
                 refine aw_ciS (rest := []) (c_X11_isNode (by omega)) kX11_isNode eX11_hang_8 lX11_hang_8 rfl rfl (Nat.le_of_ble_eq_true rfl) ⟨Nat.le_of_ble_eq_true rfl, Nat.le_of_ble_eq_true rfl⟩ ⟨Nat.le_refl _, Nat.le_refl _⟩ ?_
                 refine aw_if_ne (tgt := 16) eX11_hang_11 (by decide) bt_r (fun hh => have h67 := bt1 hh; ?_) (fun hh => have h67 := bt0 hh; ?_)
                 · first
                   | (exfalso; omega; done)
                   | (refine aw_blk oX11_hang_16 (pc' := 20) (ls' := [_, _, _, _]) (st' := [_, _, _]) (cs := []) rfl trivial ?_
                      refine aw_ciS (rest := []) (c_X11_between (by omega) (by omega) (by omega)) kX11_between eX11_hang_20 lX11_hang_20 rfl rfl (Nat.le_of_ble_eq_true rfl) ⟨Nat.le_of_ble_eq_true rfl, Nat.le_of_ble_eq_true rfl⟩ ⟨Nat.le_refl _, Nat.le_refl _⟩ ?_
                      refine aw_if_ne (tgt := 29) eX11_hang_23 (by decide) bt_r (fun hh => have h68 := bt1 hh; ?_) (fun hh => have h68 := bt0 hh; ?_)
                      · first
                        | (exfalso; omega; done)
                        | (refine aw_blk oX11_hang_29 (pc' := 38) (ls' := [_, _, _, _]) (st' := [_]) (cs := [(_, _)]) rfl (⟨⟨by omega, by omega⟩, trivial⟩) ?_
                           refine aw_if_ne (tgt := 53) eX11_hang_38 (by decide) (by omega) (fun h69 => ?_) (fun h69 => ?_)
                           · first
                             | (exfalso; omega; done)
                             | (refine aw_blk oX11_hang_53 (pc' := 55) (ls' := [_, _, _, _]) (st' := [_]) (cs := []) rfl trivial ?_
                                refine aw_iret eX11_hang_55 rfl (Nat.le_refl _) (Nat.le_refl _) ?_
                                exact pe_i rfl rfl rfl)
                           · first
                             | (exfalso; omega; done)
                             | (refine aw_blk oX11_hang_41 (pc' := 50) (ls' := [_, _, _, _]) (st' := [_]) (cs := [(_, _)]) rfl (⟨⟨by omega, by omega⟩, trivial⟩) ?_
                                refine aw_if_eq (tgt := 56) eX11_hang_50 (by decide) (by omega) (fun h70 => ?_) (fun h70 => ?_)
                                · first
                                  | (exfalso; omega; done)
                                  | (refine aw_blk oX11_hang_56 (pc' := 58) (ls' := [_, _, _, _]) (st' := [_, _]) (cs := []) rfl trivial ?_
                                     refine aw_icmp_lt (tgt := 64) eX11_hang_58 (by decide) (by omega) (by omega) (fun h71 => ?_) (fun h71 => ?_)
                                     · first
                                       | (exfalso; omega; done)
                                       | (refine aw_blk oX11_hang_64 (pc' := 70) (ls' := [_, _, _, _]) (st' := [_, _, _]) (cs := []) rfl trivial ?_
                                          refine aw_ciV (rest := []) (c_hangingOn (by omega) (by omega) hP hF) kX6_hangingOn eX11_hang_70 lX11_hang_70 rfl rfl rfl rfl (Nat.le_of_ble_eq_true rfl) ⟨Nat.le_of_ble_eq_true rfl, Nat.le_of_ble_eq_true rfl⟩ ⟨Nat.le_refl _, Nat.le_refl _⟩ ?_
                                          refine aw_blk oX11_hang_73 (pc' := 80) (ls' := [_, _, _, _]) (st' := [_, _]) (cs := [(_, _)]) rfl (⟨⟨by omega, by omega⟩, trivial⟩) ?_
                                          refine aw_icmp_lt (tgt := 86) eX11_hang_80 (by decide) (by omega) (by omega) (fun h72 => ?_) (fun h72 => ?_)
                                          · first
                                            | (exfalso; omega; done)
                                            | (refine aw_blk oX11_hang_86 (pc' := 93) (ls' := [_, _, _, _]) (st' := [_, _, _, _]) (cs := []) rfl trivial ?_
                                               refine aw_ciV (rest := []) (c_rehang (by omega)) kX6_rehang eX11_hang_93 lX11_hang_93 rfl rfl rfl rfl (Nat.le_of_ble_eq_true rfl) ⟨Nat.le_of_ble_eq_true rfl, Nat.le_of_ble_eq_true rfl⟩ ⟨Nat.le_refl _, Nat.le_refl _⟩ ?_
                                               refine aw_iret eX11_hang_96 rfl (Nat.le_refl _) (Nat.le_refl _) ?_
                                               exact pe_i rfl rfl rfl)
                                          · first
                                            | (exfalso; omega; done)
                                            | (refine aw_blk oX11_hang_83 (pc' := 85) (ls' := [_, _, _, _]) (st' := [_]) (cs := []) rfl trivial ?_
                                               refine aw_iret eX11_hang_85 rfl (Nat.le_refl _) (Nat.le_refl _) ?_
                                               exact pe_i rfl rfl rfl))
                                     · first
                                       | (exfalso; omega; done)
                                       | (refine aw_blk oX11_hang_61 (pc' := 63) (ls' := [_, _, _, _]) (st' := [_]) (cs := []) rfl trivial ?_
                                          refine aw_iret eX11_hang_63 rfl (Nat.le_refl _) (Nat.le_refl _) ?_
                                          exact pe_i rfl rfl rfl))
                                · first
                                  | (exfalso; omega; done)
                                  | (refine aw_blk oX11_hang_53 (pc' := 55) (ls' := [_, _, _, _]) (st' := [_]) (cs := []) rfl trivial ?_
                                     refine aw_iret eX11_hang_55 rfl (Nat.le_refl _) (Nat.le_refl _) ?_
                                     exact pe_i rfl rfl rfl)))
                      · first
                        | (exfalso; omega; done)
                        | (refine aw_blk oX11_hang_26 (pc' := 28) (ls' := [_, _, _, _]) (st' := [_]) (cs := []) rfl trivial ?_
                           refine aw_iret eX11_hang_28 rfl (Nat.le_refl _) (Nat.le_refl _) ?_
                           exact pe_i rfl rfl rfl))
                 · first
                   | (exfalso; omega; done)
                   | (refine aw_blk oX11_hang_14 (pc' := 15) (ls' := [_, _, _, _]) (st' := [_]) (cs := []) rfl trivial ?_
                      refine aw_iret eX11_hang_15 rfl (Nat.le_refl _) (Nat.le_refl _) ?_
                      exact pe_i rfl rfl rfl))
          · refine AMet.of kX12_hang.1 (Nat.le_of_ble_eq_true rfl) rfl ?_
            refine aw_blk oX12_hang_0 (pc' := 1) (ls' := [_, _, _, _, _]) (st' := [_]) (cs := []) rfl trivial ?_
            refine aw_ciS (rest := []) (c_X12_isNode (by omega)) kX12_isNode eX12_hang_1 lX12_hang_1 rfl rfl (Nat.le_of_ble_eq_true rfl) ⟨Nat.le_of_ble_eq_true rfl, Nat.le_of_ble_eq_true rfl⟩ ⟨Nat.le_refl _, Nat.le_refl _⟩ ?_
            refine aw_if_eq (tgt := 14) eX12_hang_4 (by decide) bt_r (fun hh => have h73 := bt0 hh; ?_) (fun hh => have h73 := bt1 hh; ?_)
            · first
              | (exfalso; omega; done)
              | (refine aw_blk oX12_hang_14 (pc' := 15) (ls' := [_, _, _, _, _]) (st' := [_]) (cs := []) rfl trivial ?_
                 refine aw_iret eX12_hang_15 rfl (Nat.le_refl _) (Nat.le_refl _) ?_
                 exact pe_i rfl rfl rfl)
            · first
              | (exfalso; omega; done)
              | (refine aw_blk oX12_hang_7 (pc' := 8) (ls' := [_, _, _, _, _]) (st' := [_]) (cs := []) rfl trivial ?_
                 refine aw_ciS (rest := []) (c_X12_isNode (by omega)) kX12_isNode eX12_hang_8 lX12_hang_8 rfl rfl (Nat.le_of_ble_eq_true rfl) ⟨Nat.le_of_ble_eq_true rfl, Nat.le_of_ble_eq_true rfl⟩ ⟨Nat.le_refl _, Nat.le_refl _⟩ ?_
                 refine aw_if_ne (tgt := 16) eX12_hang_11 (by decide) bt_r (fun hh => have h74 := bt1 hh; ?_) (fun hh => have h74 := bt0 hh; ?_)
                 · first
                   | (exfalso; omega; done)
                   | (refine aw_blk oX12_hang_16 (pc' := 20) (ls' := [_, _, _, _, _]) (st' := [_, _, _]) (cs := []) rfl trivial ?_
                      refine aw_ciS (rest := []) (c_X12_in (by omega) (by omega) (by omega)) kX12_in eX12_hang_20 lX12_hang_20 rfl rfl (Nat.le_of_ble_eq_true rfl) ⟨Nat.le_of_ble_eq_true rfl, Nat.le_of_ble_eq_true rfl⟩ ⟨Nat.le_refl _, Nat.le_refl _⟩ ?_
                      refine aw_if_ne (tgt := 29) eX12_hang_23 (by decide) bt_r (fun hh => have h75 := bt1 hh; ?_) (fun hh => have h75 := bt0 hh; ?_)
                      · first
                        | (exfalso; omega; done)
                        | (refine aw_blk oX12_hang_29 (pc' := 35) (ls' := [_, _, _, _, _]) (st' := [_]) (cs := [(_, _)]) rfl (⟨⟨by omega, by omega⟩, trivial⟩) ?_
                           refine aw_if_ne (tgt := 47) eX12_hang_35 (by decide) (by omega) (fun h76 => ?_) (fun h76 => ?_)
                           · first
                             | (exfalso; omega; done)
                             | (refine aw_blk oX12_hang_47 (pc' := 49) (ls' := [_, _, _, _, _]) (st' := [_]) (cs := []) rfl trivial ?_
                                refine aw_iret eX12_hang_49 rfl (Nat.le_refl _) (Nat.le_refl _) ?_
                                exact pe_i rfl rfl rfl)
                           · first
                             | (exfalso; omega; done)
                             | (refine aw_blk oX12_hang_38 (pc' := 44) (ls' := [_, _, _, _, _]) (st' := [_]) (cs := [(_, _)]) rfl (⟨⟨by omega, by omega⟩, trivial⟩) ?_
                                refine aw_if_eq (tgt := 50) eX12_hang_44 (by decide) (by omega) (fun h77 => ?_) (fun h77 => ?_)
                                · first
                                  | (exfalso; omega; done)
                                  | (refine aw_blk oX12_hang_50 (pc' := 52) (ls' := [_, _, _, _, _]) (st' := [_, _]) (cs := []) rfl trivial ?_
                                     refine aw_icmp_lt (tgt := 58) eX12_hang_52 (by decide) (by omega) (by omega) (fun h78 => ?_) (fun h78 => ?_)
                                     · first
                                       | (exfalso; omega; done)
                                       | (refine aw_blk oX12_hang_58 (pc' := 61) (ls' := [_, _, _, _, _]) (st' := [_, _, _]) (cs := []) rfl trivial ?_
                                          refine aw_ciV (rest := []) (c_hungOn (by omega) (by omega) hPm hFm) kX12_hungOn eX12_hang_61 lX12_hang_61 rfl rfl rfl rfl (Nat.le_of_ble_eq_true rfl) ⟨Nat.le_of_ble_eq_true rfl, Nat.le_of_ble_eq_true rfl⟩ ⟨Nat.le_refl _, Nat.le_refl _⟩ ?_
                                          refine aw_blk oX12_hang_64 (pc' := 71) (ls' := [_, _, _, _, _]) (st' := [_, _]) (cs := [(_, _)]) rfl (⟨⟨by omega, by omega⟩, trivial⟩) ?_
                                          refine aw_icmp_lt (tgt := 77) eX12_hang_71 (by decide) (by omega) (by omega) (fun h79 => ?_) (fun h79 => ?_)
                                          · first
                                            | (exfalso; omega; done)
                                            | (refine aw_blk oX12_hang_77 (pc' := 101) (ls' := [_, _, _, _, _]) (st' := [_]) (cs := [(_, _), (_, _), (_, _)]) rfl (⟨⟨by omega, by omega⟩, ⟨by omega, by omega⟩, ⟨by omega, by omega⟩, trivial⟩) ?_
                                               refine aw_iret eX12_hang_101 rfl (Nat.le_refl _) (Nat.le_refl _) ?_
                                               exact pe_i rfl rfl rfl)
                                          · first
                                            | (exfalso; omega; done)
                                            | (refine aw_blk oX12_hang_74 (pc' := 76) (ls' := [_, _, _, _, _]) (st' := [_]) (cs := []) rfl trivial ?_
                                               refine aw_iret eX12_hang_76 rfl (Nat.le_refl _) (Nat.le_refl _) ?_
                                               exact pe_i rfl rfl rfl))
                                     · first
                                       | (exfalso; omega; done)
                                       | (refine aw_blk oX12_hang_55 (pc' := 57) (ls' := [_, _, _, _, _]) (st' := [_]) (cs := []) rfl trivial ?_
                                          refine aw_iret eX12_hang_57 rfl (Nat.le_refl _) (Nat.le_refl _) ?_
                                          exact pe_i rfl rfl rfl))
                                · first
                                  | (exfalso; omega; done)
                                  | (refine aw_blk oX12_hang_47 (pc' := 49) (ls' := [_, _, _, _, _]) (st' := [_]) (cs := []) rfl trivial ?_
                                     refine aw_iret eX12_hang_49 rfl (Nat.le_refl _) (Nat.le_refl _) ?_
                                     exact pe_i rfl rfl rfl)))
                      · first
                        | (exfalso; omega; done)
                        | (refine aw_blk oX12_hang_26 (pc' := 28) (ls' := [_, _, _, _, _]) (st' := [_]) (cs := []) rfl trivial ?_
                           refine aw_iret eX12_hang_28 rfl (Nat.le_refl _) (Nat.le_refl _) ?_
                           exact pe_i rfl rfl rfl))
                 · first
                   | (exfalso; omega; done)
                   | (refine aw_blk oX12_hang_14 (pc' := 15) (ls' := [_, _, _, _, _]) (st' := [_]) (cs := []) rfl trivial ?_
                      refine aw_iret eX12_hang_15 rfl (Nat.le_refl _) (Nat.le_refl _) ?_
                      exact pe_i rfl rfl rfl))
      · refine ⟨-3, μ, μ, ?_, ?_, by decide, h, SR.rf⟩
        · refine AMet.of kX11_hang.1 (Nat.le_of_ble_eq_true rfl) rfl ?_
          refine aw_blk oX11_hang_0 (pc' := 1) (ls' := [_, _, _, _]) (st' := [_]) (cs := []) rfl trivial ?_
          refine aw_ciS (rest := []) (c_X11_isNode (by omega)) kX11_isNode eX11_hang_1 lX11_hang_1 rfl rfl (Nat.le_of_ble_eq_true rfl) ⟨Nat.le_of_ble_eq_true rfl, Nat.le_of_ble_eq_true rfl⟩ ⟨Nat.le_refl _, Nat.le_refl _⟩ ?_
          refine aw_if_eq (tgt := 14) eX11_hang_4 (by decide) bt_r (fun hh => have h80 := bt0 hh; ?_) (fun hh => have h80 := bt1 hh; ?_)
          · first
            | (exfalso; omega; done)
            | (refine aw_blk oX11_hang_14 (pc' := 15) (ls' := [_, _, _, _]) (st' := [_]) (cs := []) rfl trivial ?_
               refine aw_iret eX11_hang_15 rfl (Nat.le_refl _) (Nat.le_refl _) ?_
               exact pe_i rfl rfl rfl)
          · first
            | (exfalso; omega; done)
            | (refine aw_blk oX11_hang_7 (pc' := 8) (ls' := [_, _, _, _]) (st' := [_]) (cs := []) rfl trivial ?_
               refine aw_ciS (rest := []) (c_X11_isNode (by omega)) kX11_isNode eX11_hang_8 lX11_hang_8 rfl rfl (Nat.le_of_ble_eq_true rfl) ⟨Nat.le_of_ble_eq_true rfl, Nat.le_of_ble_eq_true rfl⟩ ⟨Nat.le_refl _, Nat.le_refl _⟩ ?_
               refine aw_if_ne (tgt := 16) eX11_hang_11 (by decide) bt_r (fun hh => have h81 := bt1 hh; ?_) (fun hh => have h81 := bt0 hh; ?_)
               · first
                 | (exfalso; omega; done)
                 | (refine aw_blk oX11_hang_16 (pc' := 20) (ls' := [_, _, _, _]) (st' := [_, _, _]) (cs := []) rfl trivial ?_
                    refine aw_ciS (rest := []) (c_X11_between (by omega) (by omega) (by omega)) kX11_between eX11_hang_20 lX11_hang_20 rfl rfl (Nat.le_of_ble_eq_true rfl) ⟨Nat.le_of_ble_eq_true rfl, Nat.le_of_ble_eq_true rfl⟩ ⟨Nat.le_refl _, Nat.le_refl _⟩ ?_
                    refine aw_if_ne (tgt := 29) eX11_hang_23 (by decide) bt_r (fun hh => have h82 := bt1 hh; ?_) (fun hh => have h82 := bt0 hh; ?_)
                    · first
                      | (exfalso; omega; done)
                      | (refine aw_blk oX11_hang_29 (pc' := 38) (ls' := [_, _, _, _]) (st' := [_]) (cs := [(_, _)]) rfl (⟨⟨by omega, by omega⟩, trivial⟩) ?_
                         refine aw_if_ne (tgt := 53) eX11_hang_38 (by decide) (by omega) (fun h83 => ?_) (fun h83 => ?_)
                         · first
                           | (exfalso; omega; done)
                           | (refine aw_blk oX11_hang_53 (pc' := 55) (ls' := [_, _, _, _]) (st' := [_]) (cs := []) rfl trivial ?_
                              refine aw_iret eX11_hang_55 rfl (Nat.le_refl _) (Nat.le_refl _) ?_
                              exact pe_i rfl rfl rfl)
                         · first
                           | (exfalso; omega; done)
                           | (refine aw_blk oX11_hang_41 (pc' := 50) (ls' := [_, _, _, _]) (st' := [_]) (cs := [(_, _)]) rfl (⟨⟨by omega, by omega⟩, trivial⟩) ?_
                              refine aw_if_eq (tgt := 56) eX11_hang_50 (by decide) (by omega) (fun h84 => ?_) (fun h84 => ?_)
                              · first
                                | (exfalso; omega; done)
                                | (refine aw_blk oX11_hang_56 (pc' := 58) (ls' := [_, _, _, _]) (st' := [_, _]) (cs := []) rfl trivial ?_
                                   refine aw_icmp_lt (tgt := 64) eX11_hang_58 (by decide) (by omega) (by omega) (fun h85 => ?_) (fun h85 => ?_)
                                   · first
                                     | (exfalso; omega; done)
                                     | (refine aw_blk oX11_hang_64 (pc' := 70) (ls' := [_, _, _, _]) (st' := [_, _, _]) (cs := []) rfl trivial ?_
                                        refine aw_ciV (rest := []) (c_hangingOn (by omega) (by omega) hP hF) kX6_hangingOn eX11_hang_70 lX11_hang_70 rfl rfl rfl rfl (Nat.le_of_ble_eq_true rfl) ⟨Nat.le_of_ble_eq_true rfl, Nat.le_of_ble_eq_true rfl⟩ ⟨Nat.le_refl _, Nat.le_refl _⟩ ?_
                                        refine aw_blk oX11_hang_73 (pc' := 80) (ls' := [_, _, _, _]) (st' := [_, _]) (cs := [(_, _)]) rfl (⟨⟨by omega, by omega⟩, trivial⟩) ?_
                                        refine aw_icmp_lt (tgt := 86) eX11_hang_80 (by decide) (by omega) (by omega) (fun h86 => ?_) (fun h86 => ?_)
                                        · first
                                          | (exfalso; omega; done)
                                          | (refine aw_blk oX11_hang_86 (pc' := 93) (ls' := [_, _, _, _]) (st' := [_, _, _, _]) (cs := []) rfl trivial ?_
                                             refine aw_ciV (rest := []) (c_rehang (by omega)) kX6_rehang eX11_hang_93 lX11_hang_93 rfl rfl rfl rfl (Nat.le_of_ble_eq_true rfl) ⟨Nat.le_of_ble_eq_true rfl, Nat.le_of_ble_eq_true rfl⟩ ⟨Nat.le_refl _, Nat.le_refl _⟩ ?_
                                             refine aw_iret eX11_hang_96 rfl (Nat.le_refl _) (Nat.le_refl _) ?_
                                             exact pe_i rfl rfl rfl)
                                        · first
                                          | (exfalso; omega; done)
                                          | (refine aw_blk oX11_hang_83 (pc' := 85) (ls' := [_, _, _, _]) (st' := [_]) (cs := []) rfl trivial ?_
                                             refine aw_iret eX11_hang_85 rfl (Nat.le_refl _) (Nat.le_refl _) ?_
                                             exact pe_i rfl rfl rfl))
                                   · first
                                     | (exfalso; omega; done)
                                     | (refine aw_blk oX11_hang_61 (pc' := 63) (ls' := [_, _, _, _]) (st' := [_]) (cs := []) rfl trivial ?_
                                        refine aw_iret eX11_hang_63 rfl (Nat.le_refl _) (Nat.le_refl _) ?_
                                        exact pe_i rfl rfl rfl))
                              · first
                                | (exfalso; omega; done)
                                | (refine aw_blk oX11_hang_53 (pc' := 55) (ls' := [_, _, _, _]) (st' := [_]) (cs := []) rfl trivial ?_
                                   refine aw_iret eX11_hang_55 rfl (Nat.le_refl _) (Nat.le_refl _) ?_
                                   exact pe_i rfl rfl rfl)))
                    · first
                      | (exfalso; omega; done)
                      | (refine aw_blk oX11_hang_26 (pc' := 28) (ls' := [_, _, _, _]) (st' := [_]) (cs := []) rfl trivial ?_
                         refine aw_iret eX11_hang_28 rfl (Nat.le_refl _) (Nat.le_refl _) ?_
                         exact pe_i rfl rfl rfl))
               · first
                 | (exfalso; omega; done)
                 | (refine aw_blk oX11_hang_14 (pc' := 15) (ls' := [_, _, _, _]) (st' := [_]) (cs := []) rfl trivial ?_
                    refine aw_iret eX11_hang_15 rfl (Nat.le_refl _) (Nat.le_refl _) ?_
                    exact pe_i rfl rfl rfl))
        · refine AMet.of kX12_hang.1 (Nat.le_of_ble_eq_true rfl) rfl ?_
          refine aw_blk oX12_hang_0 (pc' := 1) (ls' := [_, _, _, _, _]) (st' := [_]) (cs := []) rfl trivial ?_
          refine aw_ciS (rest := []) (c_X12_isNode (by omega)) kX12_isNode eX12_hang_1 lX12_hang_1 rfl rfl (Nat.le_of_ble_eq_true rfl) ⟨Nat.le_of_ble_eq_true rfl, Nat.le_of_ble_eq_true rfl⟩ ⟨Nat.le_refl _, Nat.le_refl _⟩ ?_
          refine aw_if_eq (tgt := 14) eX12_hang_4 (by decide) bt_r (fun hh => have h87 := bt0 hh; ?_) (fun hh => have h87 := bt1 hh; ?_)
          · first
            | (exfalso; omega; done)
            | (refine aw_blk oX12_hang_14 (pc' := 15) (ls' := [_, _, _, _, _]) (st' := [_]) (cs := []) rfl trivial ?_
               refine aw_iret eX12_hang_15 rfl (Nat.le_refl _) (Nat.le_refl _) ?_
               exact pe_i rfl rfl rfl)
          · first
            | (exfalso; omega; done)
            | (refine aw_blk oX12_hang_7 (pc' := 8) (ls' := [_, _, _, _, _]) (st' := [_]) (cs := []) rfl trivial ?_
               refine aw_ciS (rest := []) (c_X12_isNode (by omega)) kX12_isNode eX12_hang_8 lX12_hang_8 rfl rfl (Nat.le_of_ble_eq_true rfl) ⟨Nat.le_of_ble_eq_true rfl, Nat.le_of_ble_eq_true rfl⟩ ⟨Nat.le_refl _, Nat.le_refl _⟩ ?_
               refine aw_if_ne (tgt := 16) eX12_hang_11 (by decide) bt_r (fun hh => have h88 := bt1 hh; ?_) (fun hh => have h88 := bt0 hh; ?_)
               · first
                 | (exfalso; omega; done)
                 | (refine aw_blk oX12_hang_16 (pc' := 20) (ls' := [_, _, _, _, _]) (st' := [_, _, _]) (cs := []) rfl trivial ?_
                    refine aw_ciS (rest := []) (c_X12_in (by omega) (by omega) (by omega)) kX12_in eX12_hang_20 lX12_hang_20 rfl rfl (Nat.le_of_ble_eq_true rfl) ⟨Nat.le_of_ble_eq_true rfl, Nat.le_of_ble_eq_true rfl⟩ ⟨Nat.le_refl _, Nat.le_refl _⟩ ?_
                    refine aw_if_ne (tgt := 29) eX12_hang_23 (by decide) bt_r (fun hh => have h89 := bt1 hh; ?_) (fun hh => have h89 := bt0 hh; ?_)
                    · first
                      | (exfalso; omega; done)
                      | (refine aw_blk oX12_hang_29 (pc' := 35) (ls' := [_, _, _, _, _]) (st' := [_]) (cs := [(_, _)]) rfl (⟨⟨by omega, by omega⟩, trivial⟩) ?_
                         refine aw_if_ne (tgt := 47) eX12_hang_35 (by decide) (by omega) (fun h90 => ?_) (fun h90 => ?_)
                         · first
                           | (exfalso; omega; done)
                           | (refine aw_blk oX12_hang_47 (pc' := 49) (ls' := [_, _, _, _, _]) (st' := [_]) (cs := []) rfl trivial ?_
                              refine aw_iret eX12_hang_49 rfl (Nat.le_refl _) (Nat.le_refl _) ?_
                              exact pe_i rfl rfl rfl)
                         · first
                           | (exfalso; omega; done)
                           | (refine aw_blk oX12_hang_38 (pc' := 44) (ls' := [_, _, _, _, _]) (st' := [_]) (cs := [(_, _)]) rfl (⟨⟨by omega, by omega⟩, trivial⟩) ?_
                              refine aw_if_eq (tgt := 50) eX12_hang_44 (by decide) (by omega) (fun h91 => ?_) (fun h91 => ?_)
                              · first
                                | (exfalso; omega; done)
                                | (refine aw_blk oX12_hang_50 (pc' := 52) (ls' := [_, _, _, _, _]) (st' := [_, _]) (cs := []) rfl trivial ?_
                                   refine aw_icmp_lt (tgt := 58) eX12_hang_52 (by decide) (by omega) (by omega) (fun h92 => ?_) (fun h92 => ?_)
                                   · first
                                     | (exfalso; omega; done)
                                     | (refine aw_blk oX12_hang_58 (pc' := 61) (ls' := [_, _, _, _, _]) (st' := [_, _, _]) (cs := []) rfl trivial ?_
                                        refine aw_ciV (rest := []) (c_hungOn (by omega) (by omega) hPm hFm) kX12_hungOn eX12_hang_61 lX12_hang_61 rfl rfl rfl rfl (Nat.le_of_ble_eq_true rfl) ⟨Nat.le_of_ble_eq_true rfl, Nat.le_of_ble_eq_true rfl⟩ ⟨Nat.le_refl _, Nat.le_refl _⟩ ?_
                                        refine aw_blk oX12_hang_64 (pc' := 71) (ls' := [_, _, _, _, _]) (st' := [_, _]) (cs := [(_, _)]) rfl (⟨⟨by omega, by omega⟩, trivial⟩) ?_
                                        refine aw_icmp_lt (tgt := 77) eX12_hang_71 (by decide) (by omega) (by omega) (fun h93 => ?_) (fun h93 => ?_)
                                        · first
                                          | (exfalso; omega; done)
                                          | (refine aw_blk oX12_hang_77 (pc' := 101) (ls' := [_, _, _, _, _]) (st' := [_]) (cs := [(_, _), (_, _), (_, _)]) rfl (⟨⟨by omega, by omega⟩, ⟨by omega, by omega⟩, ⟨by omega, by omega⟩, trivial⟩) ?_
                                             refine aw_iret eX12_hang_101 rfl (Nat.le_refl _) (Nat.le_refl _) ?_
                                             exact pe_i rfl rfl rfl)
                                        · first
                                          | (exfalso; omega; done)
                                          | (refine aw_blk oX12_hang_74 (pc' := 76) (ls' := [_, _, _, _, _]) (st' := [_]) (cs := []) rfl trivial ?_
                                             refine aw_iret eX12_hang_76 rfl (Nat.le_refl _) (Nat.le_refl _) ?_
                                             exact pe_i rfl rfl rfl))
                                   · first
                                     | (exfalso; omega; done)
                                     | (refine aw_blk oX12_hang_55 (pc' := 57) (ls' := [_, _, _, _, _]) (st' := [_]) (cs := []) rfl trivial ?_
                                        refine aw_iret eX12_hang_57 rfl (Nat.le_refl _) (Nat.le_refl _) ?_
                                        exact pe_i rfl rfl rfl))
                              · first
                                | (exfalso; omega; done)
                                | (refine aw_blk oX12_hang_47 (pc' := 49) (ls' := [_, _, _, _, _]) (st' := [_]) (cs := []) rfl trivial ?_
                                   refine aw_iret eX12_hang_49 rfl (Nat.le_refl _) (Nat.le_refl _) ?_
                                   exact pe_i rfl rfl rfl)))
                    · first
                      | (exfalso; omega; done)
                      | (refine aw_blk oX12_hang_26 (pc' := 28) (ls' := [_, _, _, _, _]) (st' := [_]) (cs := []) rfl trivial ?_
                         refine aw_iret eX12_hang_28 rfl (Nat.le_refl _) (Nat.le_refl _) ?_
                         exact pe_i rfl rfl rfl))
               · first
                 | (exfalso; omega; done)
                 | (refine aw_blk oX12_hang_14 (pc' := 15) (ls' := [_, _, _, _, _]) (st' := [_]) (cs := []) rfl trivial ?_
                    refine aw_iret eX12_hang_15 rfl (Nat.le_refl _) (Nat.le_refl _) ?_
                    exact pe_i rfl rfl rfl))
    · refine ⟨-2, μ, μ, ?_, ?_, by decide, h, SR.rf⟩
      · refine AMet.of kX11_hang.1 (Nat.le_of_ble_eq_true rfl) rfl ?_
        refine aw_blk oX11_hang_0 (pc' := 1) (ls' := [_, _, _, _]) (st' := [_]) (cs := []) rfl trivial ?_
        refine aw_ciS (rest := []) (c_X11_isNode (by omega)) kX11_isNode eX11_hang_1 lX11_hang_1 rfl rfl (Nat.le_of_ble_eq_true rfl) ⟨Nat.le_of_ble_eq_true rfl, Nat.le_of_ble_eq_true rfl⟩ ⟨Nat.le_refl _, Nat.le_refl _⟩ ?_
        refine aw_if_eq (tgt := 14) eX11_hang_4 (by decide) bt_r (fun hh => have h94 := bt0 hh; ?_) (fun hh => have h94 := bt1 hh; ?_)
        · first
          | (exfalso; omega; done)
          | (refine aw_blk oX11_hang_14 (pc' := 15) (ls' := [_, _, _, _]) (st' := [_]) (cs := []) rfl trivial ?_
             refine aw_iret eX11_hang_15 rfl (Nat.le_refl _) (Nat.le_refl _) ?_
             exact pe_i rfl rfl rfl)
        · first
          | (exfalso; omega; done)
          | (refine aw_blk oX11_hang_7 (pc' := 8) (ls' := [_, _, _, _]) (st' := [_]) (cs := []) rfl trivial ?_
             refine aw_ciS (rest := []) (c_X11_isNode (by omega)) kX11_isNode eX11_hang_8 lX11_hang_8 rfl rfl (Nat.le_of_ble_eq_true rfl) ⟨Nat.le_of_ble_eq_true rfl, Nat.le_of_ble_eq_true rfl⟩ ⟨Nat.le_refl _, Nat.le_refl _⟩ ?_
             refine aw_if_ne (tgt := 16) eX11_hang_11 (by decide) bt_r (fun hh => have h95 := bt1 hh; ?_) (fun hh => have h95 := bt0 hh; ?_)
             · first
               | (exfalso; omega; done)
               | (refine aw_blk oX11_hang_16 (pc' := 20) (ls' := [_, _, _, _]) (st' := [_, _, _]) (cs := []) rfl trivial ?_
                  refine aw_ciS (rest := []) (c_X11_between (by omega) (by omega) (by omega)) kX11_between eX11_hang_20 lX11_hang_20 rfl rfl (Nat.le_of_ble_eq_true rfl) ⟨Nat.le_of_ble_eq_true rfl, Nat.le_of_ble_eq_true rfl⟩ ⟨Nat.le_refl _, Nat.le_refl _⟩ ?_
                  refine aw_if_ne (tgt := 29) eX11_hang_23 (by decide) bt_r (fun hh => have h96 := bt1 hh; ?_) (fun hh => have h96 := bt0 hh; ?_)
                  · first
                    | (exfalso; omega; done)
                    | (refine aw_blk oX11_hang_29 (pc' := 38) (ls' := [_, _, _, _]) (st' := [_]) (cs := [(_, _)]) rfl (⟨⟨by omega, by omega⟩, trivial⟩) ?_
                       refine aw_if_ne (tgt := 53) eX11_hang_38 (by decide) (by omega) (fun h97 => ?_) (fun h97 => ?_)
                       · first
                         | (exfalso; omega; done)
                         | (refine aw_blk oX11_hang_53 (pc' := 55) (ls' := [_, _, _, _]) (st' := [_]) (cs := []) rfl trivial ?_
                            refine aw_iret eX11_hang_55 rfl (Nat.le_refl _) (Nat.le_refl _) ?_
                            exact pe_i rfl rfl rfl)
                       · first
                         | (exfalso; omega; done)
                         | (refine aw_blk oX11_hang_41 (pc' := 50) (ls' := [_, _, _, _]) (st' := [_]) (cs := [(_, _)]) rfl (⟨⟨by omega, by omega⟩, trivial⟩) ?_
                            refine aw_if_eq (tgt := 56) eX11_hang_50 (by decide) (by omega) (fun h98 => ?_) (fun h98 => ?_)
                            · first
                              | (exfalso; omega; done)
                              | (refine aw_blk oX11_hang_56 (pc' := 58) (ls' := [_, _, _, _]) (st' := [_, _]) (cs := []) rfl trivial ?_
                                 refine aw_icmp_lt (tgt := 64) eX11_hang_58 (by decide) (by omega) (by omega) (fun h99 => ?_) (fun h99 => ?_)
                                 · first
                                   | (exfalso; omega; done)
                                   | (refine aw_blk oX11_hang_64 (pc' := 70) (ls' := [_, _, _, _]) (st' := [_, _, _]) (cs := []) rfl trivial ?_
                                      refine aw_ciV (rest := []) (c_hangingOn (by omega) (by omega) hP hF) kX6_hangingOn eX11_hang_70 lX11_hang_70 rfl rfl rfl rfl (Nat.le_of_ble_eq_true rfl) ⟨Nat.le_of_ble_eq_true rfl, Nat.le_of_ble_eq_true rfl⟩ ⟨Nat.le_refl _, Nat.le_refl _⟩ ?_
                                      refine aw_blk oX11_hang_73 (pc' := 80) (ls' := [_, _, _, _]) (st' := [_, _]) (cs := [(_, _)]) rfl (⟨⟨by omega, by omega⟩, trivial⟩) ?_
                                      refine aw_icmp_lt (tgt := 86) eX11_hang_80 (by decide) (by omega) (by omega) (fun h100 => ?_) (fun h100 => ?_)
                                      · first
                                        | (exfalso; omega; done)
                                        | (refine aw_blk oX11_hang_86 (pc' := 93) (ls' := [_, _, _, _]) (st' := [_, _, _, _]) (cs := []) rfl trivial ?_
                                           refine aw_ciV (rest := []) (c_rehang (by omega)) kX6_rehang eX11_hang_93 lX11_hang_93 rfl rfl rfl rfl (Nat.le_of_ble_eq_true rfl) ⟨Nat.le_of_ble_eq_true rfl, Nat.le_of_ble_eq_true rfl⟩ ⟨Nat.le_refl _, Nat.le_refl _⟩ ?_
                                           refine aw_iret eX11_hang_96 rfl (Nat.le_refl _) (Nat.le_refl _) ?_
                                           exact pe_i rfl rfl rfl)
                                      · first
                                        | (exfalso; omega; done)
                                        | (refine aw_blk oX11_hang_83 (pc' := 85) (ls' := [_, _, _, _]) (st' := [_]) (cs := []) rfl trivial ?_
                                           refine aw_iret eX11_hang_85 rfl (Nat.le_refl _) (Nat.le_refl _) ?_
                                           exact pe_i rfl rfl rfl))
                                 · first
                                   | (exfalso; omega; done)
                                   | (refine aw_blk oX11_hang_61 (pc' := 63) (ls' := [_, _, _, _]) (st' := [_]) (cs := []) rfl trivial ?_
                                      refine aw_iret eX11_hang_63 rfl (Nat.le_refl _) (Nat.le_refl _) ?_
                                      exact pe_i rfl rfl rfl))
                            · first
                              | (exfalso; omega; done)
                              | (refine aw_blk oX11_hang_53 (pc' := 55) (ls' := [_, _, _, _]) (st' := [_]) (cs := []) rfl trivial ?_
                                 refine aw_iret eX11_hang_55 rfl (Nat.le_refl _) (Nat.le_refl _) ?_
                                 exact pe_i rfl rfl rfl)))
                  · first
                    | (exfalso; omega; done)
                    | (refine aw_blk oX11_hang_26 (pc' := 28) (ls' := [_, _, _, _]) (st' := [_]) (cs := []) rfl trivial ?_
                       refine aw_iret eX11_hang_28 rfl (Nat.le_refl _) (Nat.le_refl _) ?_
                       exact pe_i rfl rfl rfl))
             · first
               | (exfalso; omega; done)
               | (refine aw_blk oX11_hang_14 (pc' := 15) (ls' := [_, _, _, _]) (st' := [_]) (cs := []) rfl trivial ?_
                  refine aw_iret eX11_hang_15 rfl (Nat.le_refl _) (Nat.le_refl _) ?_
                  exact pe_i rfl rfl rfl))
      · refine AMet.of kX12_hang.1 (Nat.le_of_ble_eq_true rfl) rfl ?_
        refine aw_blk oX12_hang_0 (pc' := 1) (ls' := [_, _, _, _, _]) (st' := [_]) (cs := []) rfl trivial ?_
        refine aw_ciS (rest := []) (c_X12_isNode (by omega)) kX12_isNode eX12_hang_1 lX12_hang_1 rfl rfl (Nat.le_of_ble_eq_true rfl) ⟨Nat.le_of_ble_eq_true rfl, Nat.le_of_ble_eq_true rfl⟩ ⟨Nat.le_refl _, Nat.le_refl _⟩ ?_
        refine aw_if_eq (tgt := 14) eX12_hang_4 (by decide) bt_r (fun hh => have h101 := bt0 hh; ?_) (fun hh => have h101 := bt1 hh; ?_)
        · first
          | (exfalso; omega; done)
          | (refine aw_blk oX12_hang_14 (pc' := 15) (ls' := [_, _, _, _, _]) (st' := [_]) (cs := []) rfl trivial ?_
             refine aw_iret eX12_hang_15 rfl (Nat.le_refl _) (Nat.le_refl _) ?_
             exact pe_i rfl rfl rfl)
        · first
          | (exfalso; omega; done)
          | (refine aw_blk oX12_hang_7 (pc' := 8) (ls' := [_, _, _, _, _]) (st' := [_]) (cs := []) rfl trivial ?_
             refine aw_ciS (rest := []) (c_X12_isNode (by omega)) kX12_isNode eX12_hang_8 lX12_hang_8 rfl rfl (Nat.le_of_ble_eq_true rfl) ⟨Nat.le_of_ble_eq_true rfl, Nat.le_of_ble_eq_true rfl⟩ ⟨Nat.le_refl _, Nat.le_refl _⟩ ?_
             refine aw_if_ne (tgt := 16) eX12_hang_11 (by decide) bt_r (fun hh => have h102 := bt1 hh; ?_) (fun hh => have h102 := bt0 hh; ?_)
             · first
               | (exfalso; omega; done)
               | (refine aw_blk oX12_hang_16 (pc' := 20) (ls' := [_, _, _, _, _]) (st' := [_, _, _]) (cs := []) rfl trivial ?_
                  refine aw_ciS (rest := []) (c_X12_in (by omega) (by omega) (by omega)) kX12_in eX12_hang_20 lX12_hang_20 rfl rfl (Nat.le_of_ble_eq_true rfl) ⟨Nat.le_of_ble_eq_true rfl, Nat.le_of_ble_eq_true rfl⟩ ⟨Nat.le_refl _, Nat.le_refl _⟩ ?_
                  refine aw_if_ne (tgt := 29) eX12_hang_23 (by decide) bt_r (fun hh => have h103 := bt1 hh; ?_) (fun hh => have h103 := bt0 hh; ?_)
                  · first
                    | (exfalso; omega; done)
                    | (refine aw_blk oX12_hang_29 (pc' := 35) (ls' := [_, _, _, _, _]) (st' := [_]) (cs := [(_, _)]) rfl (⟨⟨by omega, by omega⟩, trivial⟩) ?_
                       refine aw_if_ne (tgt := 47) eX12_hang_35 (by decide) (by omega) (fun h104 => ?_) (fun h104 => ?_)
                       · first
                         | (exfalso; omega; done)
                         | (refine aw_blk oX12_hang_47 (pc' := 49) (ls' := [_, _, _, _, _]) (st' := [_]) (cs := []) rfl trivial ?_
                            refine aw_iret eX12_hang_49 rfl (Nat.le_refl _) (Nat.le_refl _) ?_
                            exact pe_i rfl rfl rfl)
                       · first
                         | (exfalso; omega; done)
                         | (refine aw_blk oX12_hang_38 (pc' := 44) (ls' := [_, _, _, _, _]) (st' := [_]) (cs := [(_, _)]) rfl (⟨⟨by omega, by omega⟩, trivial⟩) ?_
                            refine aw_if_eq (tgt := 50) eX12_hang_44 (by decide) (by omega) (fun h105 => ?_) (fun h105 => ?_)
                            · first
                              | (exfalso; omega; done)
                              | (refine aw_blk oX12_hang_50 (pc' := 52) (ls' := [_, _, _, _, _]) (st' := [_, _]) (cs := []) rfl trivial ?_
                                 refine aw_icmp_lt (tgt := 58) eX12_hang_52 (by decide) (by omega) (by omega) (fun h106 => ?_) (fun h106 => ?_)
                                 · first
                                   | (exfalso; omega; done)
                                   | (refine aw_blk oX12_hang_58 (pc' := 61) (ls' := [_, _, _, _, _]) (st' := [_, _, _]) (cs := []) rfl trivial ?_
                                      refine aw_ciV (rest := []) (c_hungOn (by omega) (by omega) hPm hFm) kX12_hungOn eX12_hang_61 lX12_hang_61 rfl rfl rfl rfl (Nat.le_of_ble_eq_true rfl) ⟨Nat.le_of_ble_eq_true rfl, Nat.le_of_ble_eq_true rfl⟩ ⟨Nat.le_refl _, Nat.le_refl _⟩ ?_
                                      refine aw_blk oX12_hang_64 (pc' := 71) (ls' := [_, _, _, _, _]) (st' := [_, _]) (cs := [(_, _)]) rfl (⟨⟨by omega, by omega⟩, trivial⟩) ?_
                                      refine aw_icmp_lt (tgt := 77) eX12_hang_71 (by decide) (by omega) (by omega) (fun h107 => ?_) (fun h107 => ?_)
                                      · first
                                        | (exfalso; omega; done)
                                        | (refine aw_blk oX12_hang_77 (pc' := 101) (ls' := [_, _, _, _, _]) (st' := [_]) (cs := [(_, _), (_, _), (_, _)]) rfl (⟨⟨by omega, by omega⟩, ⟨by omega, by omega⟩, ⟨by omega, by omega⟩, trivial⟩) ?_
                                           refine aw_iret eX12_hang_101 rfl (Nat.le_refl _) (Nat.le_refl _) ?_
                                           exact pe_i rfl rfl rfl)
                                      · first
                                        | (exfalso; omega; done)
                                        | (refine aw_blk oX12_hang_74 (pc' := 76) (ls' := [_, _, _, _, _]) (st' := [_]) (cs := []) rfl trivial ?_
                                           refine aw_iret eX12_hang_76 rfl (Nat.le_refl _) (Nat.le_refl _) ?_
                                           exact pe_i rfl rfl rfl))
                                 · first
                                   | (exfalso; omega; done)
                                   | (refine aw_blk oX12_hang_55 (pc' := 57) (ls' := [_, _, _, _, _]) (st' := [_]) (cs := []) rfl trivial ?_
                                      refine aw_iret eX12_hang_57 rfl (Nat.le_refl _) (Nat.le_refl _) ?_
                                      exact pe_i rfl rfl rfl))
                            · first
                              | (exfalso; omega; done)
                              | (refine aw_blk oX12_hang_47 (pc' := 49) (ls' := [_, _, _, _, _]) (st' := [_]) (cs := []) rfl trivial ?_
                                 refine aw_iret eX12_hang_49 rfl (Nat.le_refl _) (Nat.le_refl _) ?_
                                 exact pe_i rfl rfl rfl)))
                  · first
                    | (exfalso; omega; done)
                    | (refine aw_blk oX12_hang_26 (pc' := 28) (ls' := [_, _, _, _, _]) (st' := [_]) (cs := []) rfl trivial ?_
                       refine aw_iret eX12_hang_28 rfl (Nat.le_refl _) (Nat.le_refl _) ?_
                       exact pe_i rfl rfl rfl))
             · first
               | (exfalso; omega; done)
               | (refine aw_blk oX12_hang_14 (pc' := 15) (ls' := [_, _, _, _, _]) (st' := [_]) (cs := []) rfl trivial ?_
                  refine aw_iret eX12_hang_15 rfl (Nat.le_refl _) (Nat.le_refl _) ?_
                  exact pe_i rfl rfl rfl))
  · refine ⟨-1, μ, μ, ?_, ?_, by decide, h, SR.rf⟩
    · refine AMet.of kX11_hang.1 (Nat.le_of_ble_eq_true rfl) rfl ?_
      refine aw_blk oX11_hang_0 (pc' := 1) (ls' := [_, _, _, _]) (st' := [_]) (cs := []) rfl trivial ?_
      refine aw_ciS (rest := []) (c_X11_isNode (by omega)) kX11_isNode eX11_hang_1 lX11_hang_1 rfl rfl (Nat.le_of_ble_eq_true rfl) ⟨Nat.le_of_ble_eq_true rfl, Nat.le_of_ble_eq_true rfl⟩ ⟨Nat.le_refl _, Nat.le_refl _⟩ ?_
      refine aw_if_eq (tgt := 14) eX11_hang_4 (by decide) bt_r (fun hh => have h108 := bt0 hh; ?_) (fun hh => have h108 := bt1 hh; ?_)
      · first
        | (exfalso; omega; done)
        | (refine aw_blk oX11_hang_14 (pc' := 15) (ls' := [_, _, _, _]) (st' := [_]) (cs := []) rfl trivial ?_
           refine aw_iret eX11_hang_15 rfl (Nat.le_refl _) (Nat.le_refl _) ?_
           exact pe_i rfl rfl rfl)
      · first
        | (exfalso; omega; done)
        | (refine aw_blk oX11_hang_7 (pc' := 8) (ls' := [_, _, _, _]) (st' := [_]) (cs := []) rfl trivial ?_
           refine aw_ciS (rest := []) (c_X11_isNode (by omega)) kX11_isNode eX11_hang_8 lX11_hang_8 rfl rfl (Nat.le_of_ble_eq_true rfl) ⟨Nat.le_of_ble_eq_true rfl, Nat.le_of_ble_eq_true rfl⟩ ⟨Nat.le_refl _, Nat.le_refl _⟩ ?_
           refine aw_if_ne (tgt := 16) eX11_hang_11 (by decide) bt_r (fun hh => have h109 := bt1 hh; ?_) (fun hh => have h109 := bt0 hh; ?_)
           · first
             | (exfalso; omega; done)
             | (refine aw_blk oX11_hang_16 (pc' := 20) (ls' := [_, _, _, _]) (st' := [_, _, _]) (cs := []) rfl trivial ?_
                refine aw_ciS (rest := []) (c_X11_between (by omega) (by omega) (by omega)) kX11_between eX11_hang_20 lX11_hang_20 rfl rfl (Nat.le_of_ble_eq_true rfl) ⟨Nat.le_of_ble_eq_true rfl, Nat.le_of_ble_eq_true rfl⟩ ⟨Nat.le_refl _, Nat.le_refl _⟩ ?_
                refine aw_if_ne (tgt := 29) eX11_hang_23 (by decide) bt_r (fun hh => have h110 := bt1 hh; ?_) (fun hh => have h110 := bt0 hh; ?_)
                · first
                  | (exfalso; omega; done)
                  | (refine aw_blk oX11_hang_29 (pc' := 38) (ls' := [_, _, _, _]) (st' := [_]) (cs := [(_, _)]) rfl (⟨⟨by omega, by omega⟩, trivial⟩) ?_
                     refine aw_if_ne (tgt := 53) eX11_hang_38 (by decide) (by omega) (fun h111 => ?_) (fun h111 => ?_)
                     · first
                       | (exfalso; omega; done)
                       | (refine aw_blk oX11_hang_53 (pc' := 55) (ls' := [_, _, _, _]) (st' := [_]) (cs := []) rfl trivial ?_
                          refine aw_iret eX11_hang_55 rfl (Nat.le_refl _) (Nat.le_refl _) ?_
                          exact pe_i rfl rfl rfl)
                     · first
                       | (exfalso; omega; done)
                       | (refine aw_blk oX11_hang_41 (pc' := 50) (ls' := [_, _, _, _]) (st' := [_]) (cs := [(_, _)]) rfl (⟨⟨by omega, by omega⟩, trivial⟩) ?_
                          refine aw_if_eq (tgt := 56) eX11_hang_50 (by decide) (by omega) (fun h112 => ?_) (fun h112 => ?_)
                          · first
                            | (exfalso; omega; done)
                            | (refine aw_blk oX11_hang_56 (pc' := 58) (ls' := [_, _, _, _]) (st' := [_, _]) (cs := []) rfl trivial ?_
                               refine aw_icmp_lt (tgt := 64) eX11_hang_58 (by decide) (by omega) (by omega) (fun h113 => ?_) (fun h113 => ?_)
                               · first
                                 | (exfalso; omega; done)
                                 | (refine aw_blk oX11_hang_64 (pc' := 70) (ls' := [_, _, _, _]) (st' := [_, _, _]) (cs := []) rfl trivial ?_
                                    refine aw_ciV (rest := []) (c_hangingOn (by omega) (by omega) hP hF) kX6_hangingOn eX11_hang_70 lX11_hang_70 rfl rfl rfl rfl (Nat.le_of_ble_eq_true rfl) ⟨Nat.le_of_ble_eq_true rfl, Nat.le_of_ble_eq_true rfl⟩ ⟨Nat.le_refl _, Nat.le_refl _⟩ ?_
                                    refine aw_blk oX11_hang_73 (pc' := 80) (ls' := [_, _, _, _]) (st' := [_, _]) (cs := [(_, _)]) rfl (⟨⟨by omega, by omega⟩, trivial⟩) ?_
                                    refine aw_icmp_lt (tgt := 86) eX11_hang_80 (by decide) (by omega) (by omega) (fun h114 => ?_) (fun h114 => ?_)
                                    · first
                                      | (exfalso; omega; done)
                                      | (refine aw_blk oX11_hang_86 (pc' := 93) (ls' := [_, _, _, _]) (st' := [_, _, _, _]) (cs := []) rfl trivial ?_
                                         refine aw_ciV (rest := []) (c_rehang (by omega)) kX6_rehang eX11_hang_93 lX11_hang_93 rfl rfl rfl rfl (Nat.le_of_ble_eq_true rfl) ⟨Nat.le_of_ble_eq_true rfl, Nat.le_of_ble_eq_true rfl⟩ ⟨Nat.le_refl _, Nat.le_refl _⟩ ?_
                                         refine aw_iret eX11_hang_96 rfl (Nat.le_refl _) (Nat.le_refl _) ?_
                                         exact pe_i rfl rfl rfl)
                                    · first
                                      | (exfalso; omega; done)
                                      | (refine aw_blk oX11_hang_83 (pc' := 85) (ls' := [_, _, _, _]) (st' := [_]) (cs := []) rfl trivial ?_
                                         refine aw_iret eX11_hang_85 rfl (Nat.le_refl _) (Nat.le_refl _) ?_
                                         exact pe_i rfl rfl rfl))
                               · first
                                 | (exfalso; omega; done)
                                 | (refine aw_blk oX11_hang_61 (pc' := 63) (ls' := [_, _, _, _]) (st' := [_]) (cs := []) rfl trivial ?_
                                    refine aw_iret eX11_hang_63 rfl (Nat.le_refl _) (Nat.le_refl _) ?_
                                    exact pe_i rfl rfl rfl))
                          · first
                            | (exfalso; omega; done)
                            | (refine aw_blk oX11_hang_53 (pc' := 55) (ls' := [_, _, _, _]) (st' := [_]) (cs := []) rfl trivial ?_
                               refine aw_iret eX11_hang_55 rfl (Nat.le_refl _) (Nat.le_refl _) ?_
                               exact pe_i rfl rfl rfl)))
                · first
                  | (exfalso; omega; done)
                  | (refine aw_blk oX11_hang_26 (pc' := 28) (ls' := [_, _, _, _]) (st' := [_]) (cs := []) rfl trivial ?_
                     refine aw_iret eX11_hang_28 rfl (Nat.le_refl _) (Nat.le_refl _) ?_
                     exact pe_i rfl rfl rfl))
           · first
             | (exfalso; omega; done)
             | (refine aw_blk oX11_hang_14 (pc' := 15) (ls' := [_, _, _, _]) (st' := [_]) (cs := []) rfl trivial ?_
                refine aw_iret eX11_hang_15 rfl (Nat.le_refl _) (Nat.le_refl _) ?_
                exact pe_i rfl rfl rfl))
    · refine AMet.of kX12_hang.1 (Nat.le_of_ble_eq_true rfl) rfl ?_
      refine aw_blk oX12_hang_0 (pc' := 1) (ls' := [_, _, _, _, _]) (st' := [_]) (cs := []) rfl trivial ?_
      refine aw_ciS (rest := []) (c_X12_isNode (by omega)) kX12_isNode eX12_hang_1 lX12_hang_1 rfl rfl (Nat.le_of_ble_eq_true rfl) ⟨Nat.le_of_ble_eq_true rfl, Nat.le_of_ble_eq_true rfl⟩ ⟨Nat.le_refl _, Nat.le_refl _⟩ ?_
      refine aw_if_eq (tgt := 14) eX12_hang_4 (by decide) bt_r (fun hh => have h115 := bt0 hh; ?_) (fun hh => have h115 := bt1 hh; ?_)
      · first
        | (exfalso; omega; done)
        | (refine aw_blk oX12_hang_14 (pc' := 15) (ls' := [_, _, _, _, _]) (st' := [_]) (cs := []) rfl trivial ?_
           refine aw_iret eX12_hang_15 rfl (Nat.le_refl _) (Nat.le_refl _) ?_
           exact pe_i rfl rfl rfl)
      · first
        | (exfalso; omega; done)
        | (refine aw_blk oX12_hang_7 (pc' := 8) (ls' := [_, _, _, _, _]) (st' := [_]) (cs := []) rfl trivial ?_
           refine aw_ciS (rest := []) (c_X12_isNode (by omega)) kX12_isNode eX12_hang_8 lX12_hang_8 rfl rfl (Nat.le_of_ble_eq_true rfl) ⟨Nat.le_of_ble_eq_true rfl, Nat.le_of_ble_eq_true rfl⟩ ⟨Nat.le_refl _, Nat.le_refl _⟩ ?_
           refine aw_if_ne (tgt := 16) eX12_hang_11 (by decide) bt_r (fun hh => have h116 := bt1 hh; ?_) (fun hh => have h116 := bt0 hh; ?_)
           · first
             | (exfalso; omega; done)
             | (refine aw_blk oX12_hang_16 (pc' := 20) (ls' := [_, _, _, _, _]) (st' := [_, _, _]) (cs := []) rfl trivial ?_
                refine aw_ciS (rest := []) (c_X12_in (by omega) (by omega) (by omega)) kX12_in eX12_hang_20 lX12_hang_20 rfl rfl (Nat.le_of_ble_eq_true rfl) ⟨Nat.le_of_ble_eq_true rfl, Nat.le_of_ble_eq_true rfl⟩ ⟨Nat.le_refl _, Nat.le_refl _⟩ ?_
                refine aw_if_ne (tgt := 29) eX12_hang_23 (by decide) bt_r (fun hh => have h117 := bt1 hh; ?_) (fun hh => have h117 := bt0 hh; ?_)
                · first
                  | (exfalso; omega; done)
                  | (refine aw_blk oX12_hang_29 (pc' := 35) (ls' := [_, _, _, _, _]) (st' := [_]) (cs := [(_, _)]) rfl (⟨⟨by omega, by omega⟩, trivial⟩) ?_
                     refine aw_if_ne (tgt := 47) eX12_hang_35 (by decide) (by omega) (fun h118 => ?_) (fun h118 => ?_)
                     · first
                       | (exfalso; omega; done)
                       | (refine aw_blk oX12_hang_47 (pc' := 49) (ls' := [_, _, _, _, _]) (st' := [_]) (cs := []) rfl trivial ?_
                          refine aw_iret eX12_hang_49 rfl (Nat.le_refl _) (Nat.le_refl _) ?_
                          exact pe_i rfl rfl rfl)
                     · first
                       | (exfalso; omega; done)
                       | (refine aw_blk oX12_hang_38 (pc' := 44) (ls' := [_, _, _, _, _]) (st' := [_]) (cs := [(_, _)]) rfl (⟨⟨by omega, by omega⟩, trivial⟩) ?_
                          refine aw_if_eq (tgt := 50) eX12_hang_44 (by decide) (by omega) (fun h119 => ?_) (fun h119 => ?_)
                          · first
                            | (exfalso; omega; done)
                            | (refine aw_blk oX12_hang_50 (pc' := 52) (ls' := [_, _, _, _, _]) (st' := [_, _]) (cs := []) rfl trivial ?_
                               refine aw_icmp_lt (tgt := 58) eX12_hang_52 (by decide) (by omega) (by omega) (fun h120 => ?_) (fun h120 => ?_)
                               · first
                                 | (exfalso; omega; done)
                                 | (refine aw_blk oX12_hang_58 (pc' := 61) (ls' := [_, _, _, _, _]) (st' := [_, _, _]) (cs := []) rfl trivial ?_
                                    refine aw_ciV (rest := []) (c_hungOn (by omega) (by omega) hPm hFm) kX12_hungOn eX12_hang_61 lX12_hang_61 rfl rfl rfl rfl (Nat.le_of_ble_eq_true rfl) ⟨Nat.le_of_ble_eq_true rfl, Nat.le_of_ble_eq_true rfl⟩ ⟨Nat.le_refl _, Nat.le_refl _⟩ ?_
                                    refine aw_blk oX12_hang_64 (pc' := 71) (ls' := [_, _, _, _, _]) (st' := [_, _]) (cs := [(_, _)]) rfl (⟨⟨by omega, by omega⟩, trivial⟩) ?_
                                    refine aw_icmp_lt (tgt := 77) eX12_hang_71 (by decide) (by omega) (by omega) (fun h121 => ?_) (fun h121 => ?_)
                                    · first
                                      | (exfalso; omega; done)
                                      | (refine aw_blk oX12_hang_77 (pc' := 101) (ls' := [_, _, _, _, _]) (st' := [_]) (cs := [(_, _), (_, _), (_, _)]) rfl (⟨⟨by omega, by omega⟩, ⟨by omega, by omega⟩, ⟨by omega, by omega⟩, trivial⟩) ?_
                                         refine aw_iret eX12_hang_101 rfl (Nat.le_refl _) (Nat.le_refl _) ?_
                                         exact pe_i rfl rfl rfl)
                                    · first
                                      | (exfalso; omega; done)
                                      | (refine aw_blk oX12_hang_74 (pc' := 76) (ls' := [_, _, _, _, _]) (st' := [_]) (cs := []) rfl trivial ?_
                                         refine aw_iret eX12_hang_76 rfl (Nat.le_refl _) (Nat.le_refl _) ?_
                                         exact pe_i rfl rfl rfl))
                               · first
                                 | (exfalso; omega; done)
                                 | (refine aw_blk oX12_hang_55 (pc' := 57) (ls' := [_, _, _, _, _]) (st' := [_]) (cs := []) rfl trivial ?_
                                    refine aw_iret eX12_hang_57 rfl (Nat.le_refl _) (Nat.le_refl _) ?_
                                    exact pe_i rfl rfl rfl))
                          · first
                            | (exfalso; omega; done)
                            | (refine aw_blk oX12_hang_47 (pc' := 49) (ls' := [_, _, _, _, _]) (st' := [_]) (cs := []) rfl trivial ?_
                               refine aw_iret eX12_hang_49 rfl (Nat.le_refl _) (Nat.le_refl _) ?_
                               exact pe_i rfl rfl rfl)))
                · first
                  | (exfalso; omega; done)
                  | (refine aw_blk oX12_hang_26 (pc' := 28) (ls' := [_, _, _, _, _]) (st' := [_]) (cs := []) rfl trivial ?_
                     refine aw_iret eX12_hang_28 rfl (Nat.le_refl _) (Nat.le_refl _) ?_
                     exact pe_i rfl rfl rfl))
           · first
             | (exfalso; omega; done)
             | (refine aw_blk oX12_hang_14 (pc' := 15) (ls' := [_, _, _, _, _]) (st' := [_]) (cs := []) rfl trivial ?_
                refine aw_iret eX12_hang_15 rfl (Nat.le_refl _) (Nat.le_refl _) ?_
                exact pe_i rfl rfl rfl))
theorem l_tree {κ : KX} {μ : MM} {ν : ML} {w : Int} (hw : w = 0 ∨ w = 1) (hPm : okP (μ 73)) (hDm : okD (μ 74)) (hFm : okF (μ 75)) (hq : R32 (μ 58 5)) (n : Nat) : ∀ k : Nat, k + n = 10 → AX κ mX12_tree 60 (PE (some (aI (ndB (fun k => decide (μ 75 k = 0 ∧ (w = 0 ∨ bh (μ 73) (μ 74) 10 k ≤ μ 58 5))) 10))) μ ν) 13 [aR 55, aI w, aI (ndB (fun k => decide (μ 75 k = 0 ∧ (w = 0 ∨ bh (μ 73) (μ 74) 10 k ≤ μ 58 5))) k), aI k] [] μ ν := by
  induction n with
  | zero =>
    intro k hk
    have e : k = 10 := by omega
    subst e
    refine aw_blk oX12_tree_13 (pc' := 16) (ls' := [_, _, _, _]) (st' := [_, _]) (cs := []) rfl trivial ?_
    refine aw_icmp_ge (tgt := 62) eX12_tree_16 (by decide) (by omega) (by omega) (fun h => ?_) (fun h => ?_)
    · refine aw_blk oX12_tree_62 (pc' := 63) (ls' := [_, _, _, _]) (st' := [_]) (cs := []) rfl trivial ?_
      refine aw_iret eX12_tree_63 rfl (Nat.le_refl _) (Nat.le_refl _) ?_
      exact pe_i rfl rfl rfl
    · exfalso; omega
  | succ n ih =>
    intro k hk
    have g1 := hFm (k : Int) (by omega) (by omega)
    have g2 := bh_bd hPm hDm 10 (k : Int) (by omega)
    have T := ih (k + 1) (by omega)
    refine aw_blk oX12_tree_13 (pc' := 16) (ls' := [_, _, _, _]) (st' := [_, _]) (cs := []) rfl trivial ?_
    refine aw_icmp_ge (tgt := 62) eX12_tree_16 (by decide) (by omega) (by omega) (fun h => ?_) (fun h => ?_)
    · exfalso; omega
    · refine aw_blk oX12_tree_19 (pc' := 26) (ls' := [_, _, _, _]) (st' := [_, _]) (cs := [(_, _)]) rfl (⟨⟨by omega, by omega⟩, trivial⟩) ?_
      refine aw_if_ne (tgt := 53) eX12_tree_26 (by decide) (by omega) (fun h1 => ?_) (fun h1 => ?_)
      · rw [ndB_z (k := k) (decide_eq_false (fun q => h1 q.1))] at T
        refine aw_blk oX12_tree_53 (pc' := 54) (ls' := [_, _, _, _]) (st' := [_, _]) (cs := []) rfl trivial ?_
        refine aw_blk oX12_tree_54 (pc' := 13) (ls' := [_, _, _, _]) (st' := []) (cs := []) rfl trivial ?_
        exact T
      · refine aw_blk oX12_tree_29 (pc' := 30) (ls' := [_, _, _, _]) (st' := [_, _]) (cs := []) rfl trivial ?_
        refine aw_if_eq (tgt := 47) eX12_tree_30 (by decide) (by omega) (fun h2 => ?_) (fun h2 => ?_)
        · rw [ndB_t (k := k) (decide_eq_true ⟨h1, Or.inl h2⟩)] at T
          refine aw_blk oX12_tree_47 (pc' := 54) (ls' := [_, _, _, _]) (st' := [_, _]) (cs := []) rfl trivial ?_
          refine aw_blk oX12_tree_54 (pc' := 13) (ls' := [_, _, _, _]) (st' := []) (cs := []) rfl trivial ?_
          exact T
        · refine aw_blk oX12_tree_33 (pc' := 35) (ls' := [_, _, _, _]) (st' := [_, _, _]) (cs := []) rfl trivial ?_
          refine aw_ciV (rest := [_]) (c_behindOf hPm (by omega)) kX12_behindOf eX12_tree_35 lX12_tree_35 rfl rfl rfl rfl (Nat.le_of_ble_eq_true rfl) ⟨Nat.le_of_ble_eq_true rfl, Nat.le_of_ble_eq_true rfl⟩ ⟨Nat.le_refl _, Nat.le_refl _⟩ ?_
          refine aw_blk oX12_tree_38 (pc' := 44) (ls' := [_, _, _, _]) (st' := [_, _, _]) (cs := [(_, _)]) rfl (⟨⟨by omega, by omega⟩, trivial⟩) ?_
          refine aw_icmp_gt (tgt := 53) eX12_tree_44 (by decide) (by omega) (by omega) (fun h3 => ?_) (fun h3 => ?_)
          · rw [ndB_z (k := k) (decide_eq_false (fun q => by omega))] at T
            refine aw_blk oX12_tree_53 (pc' := 54) (ls' := [_, _, _, _]) (st' := [_, _]) (cs := []) rfl trivial ?_
            refine aw_blk oX12_tree_54 (pc' := 13) (ls' := [_, _, _, _]) (st' := []) (cs := []) rfl trivial ?_
            exact T
          · rw [ndB_t (k := k) (decide_eq_true ⟨h1, Or.inr (by omega)⟩)] at T
            refine aw_blk oX12_tree_47 (pc' := 54) (ls' := [_, _, _, _]) (st' := [_, _]) (cs := []) rfl trivial ?_
            refine aw_blk oX12_tree_54 (pc' := 13) (ls' := [_, _, _, _]) (st' := []) (cs := []) rfl trivial ?_
            exact T
theorem law_tree {κ : KX} {μ : MM} {ν : ML} {w : Int} (h : RN μ) (hs : RS μ) (hw : R32 w) : LawM RN csN κ mX11_tree mX12_tree [aI w] μ ν := by
  obtain ⟨hP, hD, hF, f0, f0m, e1, e2, e3, hst⟩ := id h
  obtain ⟨hPm, hDm, hFm⟩ := h.m
  have hwi := within_bd hs
  have fl : ∀ i : Int, 0 ≤ i → i < 10 → μ 75 i = μ 54 i := fun i a b => by
    by_cases q : i = 0
    · subst q; omega
    · exact e3 i (by omega) b
  by_cases c0 : w = 0 ∨ w = 1
  · have T := l_tree (κ := κ) (μ := μ) (ν := ν) c0 hPm hDm hFm (by omega) 10 0 rfl
    rw [ndB_eq (q := fun k => decide (μ 54 k = 0 ∧ (w = 0 ∨ bh (μ 52) (μ 53) 10 k ≤ μ 1 5))) 10 (fun k hk => by rw [fl k (by omega) (by omega), hwi.1, bh_eq hP e1 e2 10 k (by omega)])] at T
    have hz0 : w = 0 → ndB (fun k => decide (μ 54 k = 0)) 10 = ndB (fun k => decide (μ 54 k = 0 ∧ (w = 0 ∨ bh (μ 52) (μ 53) 10 k ≤ μ 1 5))) 10 := fun e => ndB_eq 10 (fun k hk => by simp [e])
    have hz1 : w = 1 → ndB (fun k => decide (μ 54 k = 0 ∧ bh (μ 52) (μ 53) 10 k ≤ μ 1 5)) 10 = ndB (fun k => decide (μ 54 k = 0 ∧ (w = 0 ∨ bh (μ 52) (μ 53) 10 k ≤ μ 1 5))) 10 := fun e => ndB_eq 10 (fun k hk => by simp [e])
    refine ⟨ndB (fun k => decide (μ 54 k = 0 ∧ (w = 0 ∨ bh (μ 52) (μ 53) 10 k ≤ μ 1 5))) 10, μ, μ, ?_, ?_, ndB_R 10, h, SR.rf⟩
    · skip
      refine AMet.of kX11_tree.1 (Nat.le_of_ble_eq_true rfl) rfl ?_
      refine aw_blk oX11_tree_0 (pc' := 1) (ls' := [_, _]) (st' := [_]) (cs := []) rfl trivial ?_
      refine aw_if_ne (tgt := 12) eX11_tree_1 (by decide) (by omega) (fun h122 => ?_) (fun h122 => ?_)
      · first
        | (exfalso; omega; done)
        | (refine aw_blk oX11_tree_12 (pc' := 14) (ls' := [_, _]) (st' := [_, _]) (cs := []) rfl trivial ?_
           refine aw_icmp_ne (tgt := 31) eX11_tree_14 (by decide) (by omega) (by omega) (fun h123 => ?_) (fun h123 => ?_)
           · first
             | (exfalso; omega; done)
             | (refine aw_blk oX11_tree_31 (pc' := 36) (ls' := [_, _]) (st' := [_, _, _]) (cs := []) rfl trivial ?_
                refine aw_ciS (rest := []) (c_X11_between (by omega) (by omega) (by omega)) kX11_between eX11_tree_36 lX11_tree_36 rfl rfl (Nat.le_of_ble_eq_true rfl) ⟨Nat.le_of_ble_eq_true rfl, Nat.le_of_ble_eq_true rfl⟩ ⟨Nat.le_refl _, Nat.le_refl _⟩ ?_
                refine aw_if_ne (tgt := 45) eX11_tree_39 (by decide) bt_r (fun hh => have h124 := bt1 hh; ?_) (fun hh => have h124 := bt0 hh; ?_)
                · first
                  | (exfalso; omega; done)
                  | (refine aw_blk oX11_tree_45 (pc' := 53) (ls' := [_, _]) (st' := [_, _]) (cs := []) rfl trivial ?_
                     refine aw_ciV (rest := []) (c_hangsOn (by omega) hF) kX6_hangsOn eX11_tree_53 lX11_tree_53 rfl rfl rfl rfl (Nat.le_of_ble_eq_true rfl) ⟨Nat.le_of_ble_eq_true rfl, Nat.le_of_ble_eq_true rfl⟩ ⟨Nat.le_refl _, Nat.le_refl _⟩ ?_
                     refine aw_iret eX11_tree_56 rfl (Nat.le_refl _) (Nat.le_refl _) ?_
                     exact pe_i (by first | exact hz0 (by omega) | exact hz1 (by omega)) rfl rfl)
                · first
                  | (exfalso; omega; done)
                  | (refine aw_blk oX11_tree_42 (pc' := 44) (ls' := [_, _]) (st' := [_]) (cs := []) rfl trivial ?_
                     refine aw_iret eX11_tree_44 rfl (Nat.le_refl _) (Nat.le_refl _) ?_
                     exact pe_i (by first | exact hz0 (by omega) | exact hz1 (by omega)) rfl rfl))
           · first
             | (exfalso; omega; done)
             | (refine aw_blk oX11_tree_17 (pc' := 27) (ls' := [_, _]) (st' := [_, _]) (cs := [(_, _)]) rfl (⟨⟨by omega, by omega⟩, trivial⟩) ?_
                refine aw_ciV (rest := []) (c_stW (by omega) hP hD hF) kX6_standingWithin eX11_tree_27 lX11_tree_27 rfl rfl rfl rfl (Nat.le_of_ble_eq_true rfl) ⟨Nat.le_of_ble_eq_true rfl, Nat.le_of_ble_eq_true rfl⟩ ⟨Nat.le_refl _, Nat.le_refl _⟩ ?_
                refine aw_iret eX11_tree_30 rfl (Nat.le_refl _) (Nat.le_refl _) ?_
                exact pe_i (by first | exact hz0 (by omega) | exact hz1 (by omega)) rfl rfl))
      · first
        | (exfalso; omega; done)
        | (refine aw_blk oX11_tree_4 (pc' := 8) (ls' := [_, _]) (st' := [_]) (cs := []) rfl trivial ?_
           refine aw_ciV (rest := []) (c_standing hF) kX6_standing eX11_tree_8 lX11_tree_8 rfl rfl rfl rfl (Nat.le_of_ble_eq_true rfl) ⟨Nat.le_of_ble_eq_true rfl, Nat.le_of_ble_eq_true rfl⟩ ⟨Nat.le_refl _, Nat.le_refl _⟩ ?_
           refine aw_iret eX11_tree_11 rfl (Nat.le_refl _) (Nat.le_refl _) ?_
           exact pe_i (by first | exact hz0 (by omega) | exact hz1 (by omega)) rfl rfl)
    · skip
      refine AMet.of kX12_tree.1 (Nat.le_of_ble_eq_true rfl) rfl ?_
      refine aw_blk oX12_tree_0 (pc' := 3) (ls' := [_, _, _, _]) (st' := [_]) (cs := []) rfl trivial ?_
      refine aw_if_eq (tgt := 11) eX12_tree_3 (by decide) (by omega) (fun h125 => ?_) (fun h125 => ?_)
      · first
        | (exfalso; omega; done)
        | (refine aw_blk oX12_tree_11 (pc' := 13) (ls' := [_, _, _, _]) (st' := []) (cs := []) rfl trivial ?_
           exact T)
      · first
        | (exfalso; omega; done)
        | (refine aw_blk oX12_tree_6 (pc' := 8) (ls' := [_, _, _, _]) (st' := [_, _]) (cs := []) rfl trivial ?_
           refine aw_icmp_ne (tgt := 64) eX12_tree_8 (by decide) (by omega) (by omega) (fun h126 => ?_) (fun h126 => ?_)
           · first
             | (exfalso; omega; done)
             | (refine aw_blk oX12_tree_64 (pc' := 69) (ls' := [_, _, _, _]) (st' := [_, _, _]) (cs := []) rfl trivial ?_
                refine aw_ciS (rest := []) (c_X12_in (by omega) (by omega) (by omega)) kX12_in eX12_tree_69 lX12_tree_69 rfl rfl (Nat.le_of_ble_eq_true rfl) ⟨Nat.le_of_ble_eq_true rfl, Nat.le_of_ble_eq_true rfl⟩ ⟨Nat.le_refl _, Nat.le_refl _⟩ ?_
                refine aw_if_ne (tgt := 78) eX12_tree_72 (by decide) bt_r (fun hh => have h127 := bt1 hh; ?_) (fun hh => have h127 := bt0 hh; ?_)
                · first
                  | (exfalso; omega; done)
                  | (refine aw_blk oX12_tree_78 (pc' := 81) (ls' := [_, _, _, _]) (st' := [_, _]) (cs := []) rfl trivial ?_
                     refine aw_icmp_eq (tgt := 96) eX12_tree_81 (by decide) (by omega) (by omega) (fun h128 => ?_) (fun h128 => ?_)
                     · first
                       | (exfalso; omega; done)
                       | (refine aw_blk oX12_tree_96 (pc' := 110) (ls' := [_, _, _, _]) (st' := [_]) (cs := []) rfl trivial ?_
                          refine aw_iret eX12_tree_110 rfl (Nat.le_refl _) (Nat.le_refl _) ?_
                          exact pe_i rfl rfl rfl)
                     · first
                       | (exfalso; omega; done)
                       | (refine aw_blk oX12_tree_84 (pc' := 93) (ls' := [_, _, _, _]) (st' := [_]) (cs := [(_, _)]) rfl (⟨⟨by omega, by omega⟩, trivial⟩) ?_
                          refine aw_if_eq (tgt := 101) eX12_tree_93 (by decide) (by omega) (fun h129 => ?_) (fun h129 => ?_)
                          · first
                            | (exfalso; omega; done)
                            | (refine aw_blk oX12_tree_101 (pc' := 110) (ls' := [_, _, _, _]) (st' := [_]) (cs := [(_, _)]) rfl (⟨⟨by omega, by omega⟩, trivial⟩) ?_
                               refine aw_iret eX12_tree_110 rfl (Nat.le_refl _) (Nat.le_refl _) ?_
                               exact pe_i rfl rfl rfl)
                          · first
                            | (exfalso; omega; done)
                            | (refine aw_blk oX12_tree_96 (pc' := 110) (ls' := [_, _, _, _]) (st' := [_]) (cs := []) rfl trivial ?_
                               refine aw_iret eX12_tree_110 rfl (Nat.le_refl _) (Nat.le_refl _) ?_
                               exact pe_i rfl rfl rfl)))
                · first
                  | (exfalso; omega; done)
                  | (refine aw_blk oX12_tree_75 (pc' := 77) (ls' := [_, _, _, _]) (st' := [_]) (cs := []) rfl trivial ?_
                     refine aw_iret eX12_tree_77 rfl (Nat.le_refl _) (Nat.le_refl _) ?_
                     exact pe_i rfl rfl rfl))
           · first
             | (exfalso; omega; done)
             | (refine aw_blk oX12_tree_11 (pc' := 13) (ls' := [_, _, _, _]) (st' := []) (cs := []) rfl trivial ?_
                exact T))
  · by_cases c1 : 10 ≤ w ∧ w ≤ 19
    · have g1 := hF (w - 10) (by omega) (by omega)
      have g2 := fl (w - 10) (by omega) (by omega)
      refine ⟨if w - 10 = 0 ∨ ¬ μ 54 (w - 10) = 0 then -6 else μ 52 (w - 10), μ, μ, ?_, ?_, ?_, h, SR.rf⟩
      · skip
        refine AMet.of kX11_tree.1 (Nat.le_of_ble_eq_true rfl) rfl ?_
        refine aw_blk oX11_tree_0 (pc' := 1) (ls' := [_, _]) (st' := [_]) (cs := []) rfl trivial ?_
        refine aw_if_ne (tgt := 12) eX11_tree_1 (by decide) (by omega) (fun h130 => ?_) (fun h130 => ?_)
        · first
          | (exfalso; omega; done)
          | (refine aw_blk oX11_tree_12 (pc' := 14) (ls' := [_, _]) (st' := [_, _]) (cs := []) rfl trivial ?_
             refine aw_icmp_ne (tgt := 31) eX11_tree_14 (by decide) (by omega) (by omega) (fun h131 => ?_) (fun h131 => ?_)
             · first
               | (exfalso; omega; done)
               | (refine aw_blk oX11_tree_31 (pc' := 36) (ls' := [_, _]) (st' := [_, _, _]) (cs := []) rfl trivial ?_
                  refine aw_ciS (rest := []) (c_X11_between (by omega) (by omega) (by omega)) kX11_between eX11_tree_36 lX11_tree_36 rfl rfl (Nat.le_of_ble_eq_true rfl) ⟨Nat.le_of_ble_eq_true rfl, Nat.le_of_ble_eq_true rfl⟩ ⟨Nat.le_refl _, Nat.le_refl _⟩ ?_
                  refine aw_if_ne (tgt := 45) eX11_tree_39 (by decide) bt_r (fun hh => have h132 := bt1 hh; ?_) (fun hh => have h132 := bt0 hh; ?_)
                  · first
                    | (exfalso; omega; done)
                    | (refine aw_blk oX11_tree_45 (pc' := 53) (ls' := [_, _]) (st' := [_, _]) (cs := []) rfl trivial ?_
                       refine aw_ciV (rest := []) (c_hangsOn (by omega) hF) kX6_hangsOn eX11_tree_53 lX11_tree_53 rfl rfl rfl rfl (Nat.le_of_ble_eq_true rfl) ⟨Nat.le_of_ble_eq_true rfl, Nat.le_of_ble_eq_true rfl⟩ ⟨Nat.le_refl _, Nat.le_refl _⟩ ?_
                       refine aw_iret eX11_tree_56 rfl (Nat.le_refl _) (Nat.le_refl _) ?_
                       exact pe_i rfl rfl rfl)
                  · first
                    | (exfalso; omega; done)
                    | (refine aw_blk oX11_tree_42 (pc' := 44) (ls' := [_, _]) (st' := [_]) (cs := []) rfl trivial ?_
                       refine aw_iret eX11_tree_44 rfl (Nat.le_refl _) (Nat.le_refl _) ?_
                       exact pe_i rfl rfl rfl))
             · first
               | (exfalso; omega; done)
               | (refine aw_blk oX11_tree_17 (pc' := 27) (ls' := [_, _]) (st' := [_, _]) (cs := [(_, _)]) rfl (⟨⟨by omega, by omega⟩, trivial⟩) ?_
                  refine aw_ciV (rest := []) (c_stW (by omega) hP hD hF) kX6_standingWithin eX11_tree_27 lX11_tree_27 rfl rfl rfl rfl (Nat.le_of_ble_eq_true rfl) ⟨Nat.le_of_ble_eq_true rfl, Nat.le_of_ble_eq_true rfl⟩ ⟨Nat.le_refl _, Nat.le_refl _⟩ ?_
                  refine aw_iret eX11_tree_30 rfl (Nat.le_refl _) (Nat.le_refl _) ?_
                  exact pe_i rfl rfl rfl))
        · first
          | (exfalso; omega; done)
          | (refine aw_blk oX11_tree_4 (pc' := 8) (ls' := [_, _]) (st' := [_]) (cs := []) rfl trivial ?_
             refine aw_ciV (rest := []) (c_standing hF) kX6_standing eX11_tree_8 lX11_tree_8 rfl rfl rfl rfl (Nat.le_of_ble_eq_true rfl) ⟨Nat.le_of_ble_eq_true rfl, Nat.le_of_ble_eq_true rfl⟩ ⟨Nat.le_refl _, Nat.le_refl _⟩ ?_
             refine aw_iret eX11_tree_11 rfl (Nat.le_refl _) (Nat.le_refl _) ?_
             exact pe_i rfl rfl rfl)
      · skip
        refine AMet.of kX12_tree.1 (Nat.le_of_ble_eq_true rfl) rfl ?_
        refine aw_blk oX12_tree_0 (pc' := 3) (ls' := [_, _, _, _]) (st' := [_]) (cs := []) rfl trivial ?_
        refine aw_if_eq (tgt := 11) eX12_tree_3 (by decide) (by omega) (fun h133 => ?_) (fun h133 => ?_)
        · first
          | (exfalso; omega; done)
          | (refine aw_blk oX12_tree_11 (pc' := 13) (ls' := [_, _, _, _]) (st' := []) (cs := []) rfl trivial ?_
             skip)
        · first
          | (exfalso; omega; done)
          | (refine aw_blk oX12_tree_6 (pc' := 8) (ls' := [_, _, _, _]) (st' := [_, _]) (cs := []) rfl trivial ?_
             refine aw_icmp_ne (tgt := 64) eX12_tree_8 (by decide) (by omega) (by omega) (fun h134 => ?_) (fun h134 => ?_)
             · first
               | (exfalso; omega; done)
               | (refine aw_blk oX12_tree_64 (pc' := 69) (ls' := [_, _, _, _]) (st' := [_, _, _]) (cs := []) rfl trivial ?_
                  refine aw_ciS (rest := []) (c_X12_in (by omega) (by omega) (by omega)) kX12_in eX12_tree_69 lX12_tree_69 rfl rfl (Nat.le_of_ble_eq_true rfl) ⟨Nat.le_of_ble_eq_true rfl, Nat.le_of_ble_eq_true rfl⟩ ⟨Nat.le_refl _, Nat.le_refl _⟩ ?_
                  refine aw_if_ne (tgt := 78) eX12_tree_72 (by decide) bt_r (fun hh => have h135 := bt1 hh; ?_) (fun hh => have h135 := bt0 hh; ?_)
                  · first
                    | (exfalso; omega; done)
                    | (refine aw_blk oX12_tree_78 (pc' := 81) (ls' := [_, _, _, _]) (st' := [_, _]) (cs := []) rfl trivial ?_
                       refine aw_icmp_eq (tgt := 96) eX12_tree_81 (by decide) (by omega) (by omega) (fun h136 => ?_) (fun h136 => ?_)
                       · first
                         | (exfalso; omega; done)
                         | (refine aw_blk oX12_tree_96 (pc' := 110) (ls' := [_, _, _, _]) (st' := [_]) (cs := []) rfl trivial ?_
                            refine aw_iret eX12_tree_110 rfl (Nat.le_refl _) (Nat.le_refl _) ?_
                            exact pe_i (by first | rw [if_pos (by omega)] | (rw [if_neg (by omega)]; exact e1 (w - 10) (by omega) (by omega))) rfl rfl)
                       · first
                         | (exfalso; omega; done)
                         | (refine aw_blk oX12_tree_84 (pc' := 93) (ls' := [_, _, _, _]) (st' := [_]) (cs := [(_, _)]) rfl (⟨⟨by omega, by omega⟩, trivial⟩) ?_
                            refine aw_if_eq (tgt := 101) eX12_tree_93 (by decide) (by omega) (fun h137 => ?_) (fun h137 => ?_)
                            · first
                              | (exfalso; omega; done)
                              | (refine aw_blk oX12_tree_101 (pc' := 110) (ls' := [_, _, _, _]) (st' := [_]) (cs := [(_, _)]) rfl (⟨⟨by omega, by omega⟩, trivial⟩) ?_
                                 refine aw_iret eX12_tree_110 rfl (Nat.le_refl _) (Nat.le_refl _) ?_
                                 exact pe_i (by first | rw [if_pos (by omega)] | (rw [if_neg (by omega)]; exact e1 (w - 10) (by omega) (by omega))) rfl rfl)
                            · first
                              | (exfalso; omega; done)
                              | (refine aw_blk oX12_tree_96 (pc' := 110) (ls' := [_, _, _, _]) (st' := [_]) (cs := []) rfl trivial ?_
                                 refine aw_iret eX12_tree_110 rfl (Nat.le_refl _) (Nat.le_refl _) ?_
                                 exact pe_i (by first | rw [if_pos (by omega)] | (rw [if_neg (by omega)]; exact e1 (w - 10) (by omega) (by omega))) rfl rfl)))
                  · first
                    | (exfalso; omega; done)
                    | (refine aw_blk oX12_tree_75 (pc' := 77) (ls' := [_, _, _, _]) (st' := [_]) (cs := []) rfl trivial ?_
                       refine aw_iret eX12_tree_77 rfl (Nat.le_refl _) (Nat.le_refl _) ?_
                       exact pe_i (by first | rw [if_pos (by omega)] | (rw [if_neg (by omega)]; exact e1 (w - 10) (by omega) (by omega))) rfl rfl))
             · first
               | (exfalso; omega; done)
               | (refine aw_blk oX12_tree_11 (pc' := 13) (ls' := [_, _, _, _]) (st' := []) (cs := []) rfl trivial ?_
                  skip))
      · split
        · decide
        · have := hP (w - 10) (by omega) (by omega)
          omega
    · refine ⟨-2, μ, μ, ?_, ?_, by decide, h, SR.rf⟩
      · refine AMet.of kX11_tree.1 (Nat.le_of_ble_eq_true rfl) rfl ?_
        refine aw_blk oX11_tree_0 (pc' := 1) (ls' := [_, _]) (st' := [_]) (cs := []) rfl trivial ?_
        refine aw_if_ne (tgt := 12) eX11_tree_1 (by decide) (by omega) (fun h138 => ?_) (fun h138 => ?_)
        · first
          | (exfalso; omega; done)
          | (refine aw_blk oX11_tree_12 (pc' := 14) (ls' := [_, _]) (st' := [_, _]) (cs := []) rfl trivial ?_
             refine aw_icmp_ne (tgt := 31) eX11_tree_14 (by decide) (by omega) (by omega) (fun h139 => ?_) (fun h139 => ?_)
             · first
               | (exfalso; omega; done)
               | (refine aw_blk oX11_tree_31 (pc' := 36) (ls' := [_, _]) (st' := [_, _, _]) (cs := []) rfl trivial ?_
                  refine aw_ciS (rest := []) (c_X11_between (by omega) (by omega) (by omega)) kX11_between eX11_tree_36 lX11_tree_36 rfl rfl (Nat.le_of_ble_eq_true rfl) ⟨Nat.le_of_ble_eq_true rfl, Nat.le_of_ble_eq_true rfl⟩ ⟨Nat.le_refl _, Nat.le_refl _⟩ ?_
                  refine aw_if_ne (tgt := 45) eX11_tree_39 (by decide) bt_r (fun hh => have h140 := bt1 hh; ?_) (fun hh => have h140 := bt0 hh; ?_)
                  · first
                    | (exfalso; omega; done)
                    | (refine aw_blk oX11_tree_45 (pc' := 53) (ls' := [_, _]) (st' := [_, _]) (cs := []) rfl trivial ?_
                       refine aw_ciV (rest := []) (c_hangsOn (by omega) hF) kX6_hangsOn eX11_tree_53 lX11_tree_53 rfl rfl rfl rfl (Nat.le_of_ble_eq_true rfl) ⟨Nat.le_of_ble_eq_true rfl, Nat.le_of_ble_eq_true rfl⟩ ⟨Nat.le_refl _, Nat.le_refl _⟩ ?_
                       refine aw_iret eX11_tree_56 rfl (Nat.le_refl _) (Nat.le_refl _) ?_
                       exact pe_i rfl rfl rfl)
                  · first
                    | (exfalso; omega; done)
                    | (refine aw_blk oX11_tree_42 (pc' := 44) (ls' := [_, _]) (st' := [_]) (cs := []) rfl trivial ?_
                       refine aw_iret eX11_tree_44 rfl (Nat.le_refl _) (Nat.le_refl _) ?_
                       exact pe_i rfl rfl rfl))
             · first
               | (exfalso; omega; done)
               | (refine aw_blk oX11_tree_17 (pc' := 27) (ls' := [_, _]) (st' := [_, _]) (cs := [(_, _)]) rfl (⟨⟨by omega, by omega⟩, trivial⟩) ?_
                  refine aw_ciV (rest := []) (c_stW (by omega) hP hD hF) kX6_standingWithin eX11_tree_27 lX11_tree_27 rfl rfl rfl rfl (Nat.le_of_ble_eq_true rfl) ⟨Nat.le_of_ble_eq_true rfl, Nat.le_of_ble_eq_true rfl⟩ ⟨Nat.le_refl _, Nat.le_refl _⟩ ?_
                  refine aw_iret eX11_tree_30 rfl (Nat.le_refl _) (Nat.le_refl _) ?_
                  exact pe_i rfl rfl rfl))
        · first
          | (exfalso; omega; done)
          | (refine aw_blk oX11_tree_4 (pc' := 8) (ls' := [_, _]) (st' := [_]) (cs := []) rfl trivial ?_
             refine aw_ciV (rest := []) (c_standing hF) kX6_standing eX11_tree_8 lX11_tree_8 rfl rfl rfl rfl (Nat.le_of_ble_eq_true rfl) ⟨Nat.le_of_ble_eq_true rfl, Nat.le_of_ble_eq_true rfl⟩ ⟨Nat.le_refl _, Nat.le_refl _⟩ ?_
             refine aw_iret eX11_tree_11 rfl (Nat.le_refl _) (Nat.le_refl _) ?_
             exact pe_i rfl rfl rfl)
      · refine AMet.of kX12_tree.1 (Nat.le_of_ble_eq_true rfl) rfl ?_
        refine aw_blk oX12_tree_0 (pc' := 3) (ls' := [_, _, _, _]) (st' := [_]) (cs := []) rfl trivial ?_
        refine aw_if_eq (tgt := 11) eX12_tree_3 (by decide) (by omega) (fun h141 => ?_) (fun h141 => ?_)
        · first
          | (exfalso; omega; done)
          | (refine aw_blk oX12_tree_11 (pc' := 13) (ls' := [_, _, _, _]) (st' := []) (cs := []) rfl trivial ?_
             skip)
        · first
          | (exfalso; omega; done)
          | (refine aw_blk oX12_tree_6 (pc' := 8) (ls' := [_, _, _, _]) (st' := [_, _]) (cs := []) rfl trivial ?_
             refine aw_icmp_ne (tgt := 64) eX12_tree_8 (by decide) (by omega) (by omega) (fun h142 => ?_) (fun h142 => ?_)
             · first
               | (exfalso; omega; done)
               | (refine aw_blk oX12_tree_64 (pc' := 69) (ls' := [_, _, _, _]) (st' := [_, _, _]) (cs := []) rfl trivial ?_
                  refine aw_ciS (rest := []) (c_X12_in (by omega) (by omega) (by omega)) kX12_in eX12_tree_69 lX12_tree_69 rfl rfl (Nat.le_of_ble_eq_true rfl) ⟨Nat.le_of_ble_eq_true rfl, Nat.le_of_ble_eq_true rfl⟩ ⟨Nat.le_refl _, Nat.le_refl _⟩ ?_
                  refine aw_if_ne (tgt := 78) eX12_tree_72 (by decide) bt_r (fun hh => have h143 := bt1 hh; ?_) (fun hh => have h143 := bt0 hh; ?_)
                  · first
                    | (exfalso; omega; done)
                    | (refine aw_blk oX12_tree_78 (pc' := 81) (ls' := [_, _, _, _]) (st' := [_, _]) (cs := []) rfl trivial ?_
                       refine aw_icmp_eq (tgt := 96) eX12_tree_81 (by decide) (by omega) (by omega) (fun h144 => ?_) (fun h144 => ?_)
                       · first
                         | (exfalso; omega; done)
                         | (refine aw_blk oX12_tree_96 (pc' := 110) (ls' := [_, _, _, _]) (st' := [_]) (cs := []) rfl trivial ?_
                            refine aw_iret eX12_tree_110 rfl (Nat.le_refl _) (Nat.le_refl _) ?_
                            exact pe_i rfl rfl rfl)
                       · first
                         | (exfalso; omega; done)
                         | (refine aw_blk oX12_tree_84 (pc' := 93) (ls' := [_, _, _, _]) (st' := [_]) (cs := [(_, _)]) rfl (⟨⟨by omega, by omega⟩, trivial⟩) ?_
                            refine aw_if_eq (tgt := 101) eX12_tree_93 (by decide) (by omega) (fun h145 => ?_) (fun h145 => ?_)
                            · first
                              | (exfalso; omega; done)
                              | (refine aw_blk oX12_tree_101 (pc' := 110) (ls' := [_, _, _, _]) (st' := [_]) (cs := [(_, _)]) rfl (⟨⟨by omega, by omega⟩, trivial⟩) ?_
                                 refine aw_iret eX12_tree_110 rfl (Nat.le_refl _) (Nat.le_refl _) ?_
                                 exact pe_i rfl rfl rfl)
                            · first
                              | (exfalso; omega; done)
                              | (refine aw_blk oX12_tree_96 (pc' := 110) (ls' := [_, _, _, _]) (st' := [_]) (cs := []) rfl trivial ?_
                                 refine aw_iret eX12_tree_110 rfl (Nat.le_refl _) (Nat.le_refl _) ?_
                                 exact pe_i rfl rfl rfl)))
                  · first
                    | (exfalso; omega; done)
                    | (refine aw_blk oX12_tree_75 (pc' := 77) (ls' := [_, _, _, _]) (st' := [_]) (cs := []) rfl trivial ?_
                       refine aw_iret eX12_tree_77 rfl (Nat.le_refl _) (Nat.le_refl _) ?_
                       exact pe_i rfl rfl rfl))
             · first
               | (exfalso; omega; done)
               | (refine aw_blk oX12_tree_11 (pc' := 13) (ls' := [_, _, _, _]) (st' := []) (cs := []) rfl trivial ?_
                  skip))
theorem l_isBelow {κ : KX} {μ : MM} {ν : ML} {on m : Int} (hm : 1 ≤ m ∧ m < 10) (hPm : okP (μ 73)) (c : Int) (hfl : ¬ μ 75 m = 0) (hst : ∀ i : Int, 1 ≤ i → i < c → μ 75 i = 0 → μ 75 (μ 73 i) = 0) (hc : c ≤ 10) (f : Nat) : ∀ k : Int, 0 ≤ k → k < c → k ≤ f → μ 75 k = 0 → AX κ mX12_isBelow 0 (PE (some (aI 0)) μ ν) 2 [aR 55, aI on, aI m, aI k] [] μ ν := by
  induction f with
  | zero =>
    intro k h1 h2 h3 h4
    have e : k = 0 := by omega
    subst e
    refine aw_blk oX12_isBelow_2 (pc' := 3) (ls' := [_, _, _, _]) (st' := [_]) (cs := []) rfl trivial ?_
    refine aw_if_le (tgt := 21) eX12_isBelow_3 (by decide) (by omega) (fun h146 => ?_) (fun h146 => ?_)
    · first
      | (exfalso; omega; done)
      | (refine aw_blk oX12_isBelow_21 (pc' := 23) (ls' := [_, _, _, _]) (st' := [_, _]) (cs := []) rfl trivial ?_
         refine aw_icmp_ne (tgt := 30) eX12_isBelow_23 (by decide) (by omega) (by omega) (fun h147 => ?_) (fun h147 => ?_)
         · first
           | (exfalso; omega; done)
           | (refine aw_blk oX12_isBelow_30 (pc' := 31) (ls' := [_, _, _, _]) (st' := [_]) (cs := []) rfl trivial ?_
              refine aw_zret eX12_isBelow_31 rfl (by omega) (Nat.le_refl _) (Nat.le_refl _) ?_
              exact pe_i (by omega) rfl rfl)
         · first
           | (exfalso; omega; done)
           | (refine aw_blk oX12_isBelow_26 (pc' := 31) (ls' := [_, _, _, _]) (st' := [_]) (cs := []) rfl trivial ?_
              refine aw_zret eX12_isBelow_31 rfl (by omega) (Nat.le_refl _) (Nat.le_refl _) ?_
              exact pe_i (by omega) rfl rfl))
    · first
      | (exfalso; omega; done)
      | (refine aw_blk oX12_isBelow_6 (pc' := 8) (ls' := [_, _, _, _]) (st' := [_, _]) (cs := []) rfl trivial ?_
         refine aw_icmp_eq (tgt := 21) eX12_isBelow_8 (by decide) (by omega) (by omega) (fun h148 => ?_) (fun h148 => ?_)
         · first
           | (exfalso; omega; done)
           | (refine aw_blk oX12_isBelow_21 (pc' := 23) (ls' := [_, _, _, _]) (st' := [_, _]) (cs := []) rfl trivial ?_
              refine aw_icmp_ne (tgt := 30) eX12_isBelow_23 (by decide) (by omega) (by omega) (fun h149 => ?_) (fun h149 => ?_)
              · first
                | (exfalso; omega; done)
                | (refine aw_blk oX12_isBelow_30 (pc' := 31) (ls' := [_, _, _, _]) (st' := [_]) (cs := []) rfl trivial ?_
                   refine aw_zret eX12_isBelow_31 rfl (by omega) (Nat.le_refl _) (Nat.le_refl _) ?_
                   exact pe_i (by omega) rfl rfl)
              · first
                | (exfalso; omega; done)
                | (refine aw_blk oX12_isBelow_26 (pc' := 31) (ls' := [_, _, _, _]) (st' := [_]) (cs := []) rfl trivial ?_
                   refine aw_zret eX12_isBelow_31 rfl (by omega) (Nat.le_refl _) (Nat.le_refl _) ?_
                   exact pe_i (by omega) rfl rfl))
         · first
           | (exfalso; omega; done)
           | (refine aw_blk oX12_isBelow_11 (pc' := 2) (ls' := [_, _, _, _]) (st' := []) (cs := [(_, _)]) rfl (⟨⟨by omega, by omega⟩, trivial⟩) ?_
              skip))
  | succ f ih =>
    intro k h1 h2 h3 h4
    have ne : ¬ k = m := fun q => hfl (q ▸ h4)
    by_cases hk : k ≤ 0
    · refine aw_blk oX12_isBelow_2 (pc' := 3) (ls' := [_, _, _, _]) (st' := [_]) (cs := []) rfl trivial ?_
      refine aw_if_le (tgt := 21) eX12_isBelow_3 (by decide) (by omega) (fun h150 => ?_) (fun h150 => ?_)
      · first
        | (exfalso; omega; done)
        | (refine aw_blk oX12_isBelow_21 (pc' := 23) (ls' := [_, _, _, _]) (st' := [_, _]) (cs := []) rfl trivial ?_
           refine aw_icmp_ne (tgt := 30) eX12_isBelow_23 (by decide) (by omega) (by omega) (fun h151 => ?_) (fun h151 => ?_)
           · first
             | (exfalso; omega; done)
             | (refine aw_blk oX12_isBelow_30 (pc' := 31) (ls' := [_, _, _, _]) (st' := [_]) (cs := []) rfl trivial ?_
                refine aw_zret eX12_isBelow_31 rfl (by omega) (Nat.le_refl _) (Nat.le_refl _) ?_
                exact pe_i (by omega) rfl rfl)
           · first
             | (exfalso; omega; done)
             | (refine aw_blk oX12_isBelow_26 (pc' := 31) (ls' := [_, _, _, _]) (st' := [_]) (cs := []) rfl trivial ?_
                refine aw_zret eX12_isBelow_31 rfl (by omega) (Nat.le_refl _) (Nat.le_refl _) ?_
                exact pe_i (by omega) rfl rfl))
      · first
        | (exfalso; omega; done)
        | (refine aw_blk oX12_isBelow_6 (pc' := 8) (ls' := [_, _, _, _]) (st' := [_, _]) (cs := []) rfl trivial ?_
           refine aw_icmp_eq (tgt := 21) eX12_isBelow_8 (by decide) (by omega) (by omega) (fun h152 => ?_) (fun h152 => ?_)
           · first
             | (exfalso; omega; done)
             | (refine aw_blk oX12_isBelow_21 (pc' := 23) (ls' := [_, _, _, _]) (st' := [_, _]) (cs := []) rfl trivial ?_
                refine aw_icmp_ne (tgt := 30) eX12_isBelow_23 (by decide) (by omega) (by omega) (fun h153 => ?_) (fun h153 => ?_)
                · first
                  | (exfalso; omega; done)
                  | (refine aw_blk oX12_isBelow_30 (pc' := 31) (ls' := [_, _, _, _]) (st' := [_]) (cs := []) rfl trivial ?_
                     refine aw_zret eX12_isBelow_31 rfl (by omega) (Nat.le_refl _) (Nat.le_refl _) ?_
                     exact pe_i (by omega) rfl rfl)
                · first
                  | (exfalso; omega; done)
                  | (refine aw_blk oX12_isBelow_26 (pc' := 31) (ls' := [_, _, _, _]) (st' := [_]) (cs := []) rfl trivial ?_
                     refine aw_zret eX12_isBelow_31 rfl (by omega) (Nat.le_refl _) (Nat.le_refl _) ?_
                     exact pe_i (by omega) rfl rfl))
           · first
             | (exfalso; omega; done)
             | (refine aw_blk oX12_isBelow_11 (pc' := 2) (ls' := [_, _, _, _]) (st' := []) (cs := [(_, _)]) rfl (⟨⟨by omega, by omega⟩, trivial⟩) ?_
                skip))
    · have g1 := hPm k (by omega) (by omega)
      refine aw_blk oX12_isBelow_2 (pc' := 3) (ls' := [_, _, _, _]) (st' := [_]) (cs := []) rfl trivial ?_
      refine aw_if_le (tgt := 21) eX12_isBelow_3 (by decide) (by omega) (fun h154 => ?_) (fun h154 => ?_)
      · first
        | (exfalso; omega; done)
        | (refine aw_blk oX12_isBelow_21 (pc' := 23) (ls' := [_, _, _, _]) (st' := [_, _]) (cs := []) rfl trivial ?_
           refine aw_icmp_ne (tgt := 30) eX12_isBelow_23 (by decide) (by omega) (by omega) (fun h155 => ?_) (fun h155 => ?_)
           · first
             | (exfalso; omega; done)
             | (refine aw_blk oX12_isBelow_30 (pc' := 31) (ls' := [_, _, _, _]) (st' := [_]) (cs := []) rfl trivial ?_
                refine aw_zret eX12_isBelow_31 rfl (by omega) (Nat.le_refl _) (Nat.le_refl _) ?_
                exact pe_i (by omega) rfl rfl)
           · first
             | (exfalso; omega; done)
             | (refine aw_blk oX12_isBelow_26 (pc' := 31) (ls' := [_, _, _, _]) (st' := [_]) (cs := []) rfl trivial ?_
                refine aw_zret eX12_isBelow_31 rfl (by omega) (Nat.le_refl _) (Nat.le_refl _) ?_
                exact pe_i (by omega) rfl rfl))
      · first
        | (exfalso; omega; done)
        | (refine aw_blk oX12_isBelow_6 (pc' := 8) (ls' := [_, _, _, _]) (st' := [_, _]) (cs := []) rfl trivial ?_
           refine aw_icmp_eq (tgt := 21) eX12_isBelow_8 (by decide) (by omega) (by omega) (fun h156 => ?_) (fun h156 => ?_)
           · first
             | (exfalso; omega; done)
             | (refine aw_blk oX12_isBelow_21 (pc' := 23) (ls' := [_, _, _, _]) (st' := [_, _]) (cs := []) rfl trivial ?_
                refine aw_icmp_ne (tgt := 30) eX12_isBelow_23 (by decide) (by omega) (by omega) (fun h157 => ?_) (fun h157 => ?_)
                · first
                  | (exfalso; omega; done)
                  | (refine aw_blk oX12_isBelow_30 (pc' := 31) (ls' := [_, _, _, _]) (st' := [_]) (cs := []) rfl trivial ?_
                     refine aw_zret eX12_isBelow_31 rfl (by omega) (Nat.le_refl _) (Nat.le_refl _) ?_
                     exact pe_i (by omega) rfl rfl)
                · first
                  | (exfalso; omega; done)
                  | (refine aw_blk oX12_isBelow_26 (pc' := 31) (ls' := [_, _, _, _]) (st' := [_]) (cs := []) rfl trivial ?_
                     refine aw_zret eX12_isBelow_31 rfl (by omega) (Nat.le_refl _) (Nat.le_refl _) ?_
                     exact pe_i (by omega) rfl rfl))
           · first
             | (exfalso; omega; done)
             | (refine aw_blk oX12_isBelow_11 (pc' := 2) (ls' := [_, _, _, _]) (st' := []) (cs := [(_, _)]) rfl (⟨⟨by omega, by omega⟩, trivial⟩) ?_
                exact ih (μ 73 k) (by omega) (by omega) (by omega) (hst k (by omega) h2 h4)))
theorem c_isBelow {κ : KX} {μ : MM} {ν : ML} {on m c : Int} (hm : 1 ≤ m ∧ m < 10) (hPm : okP (μ 73)) (hfl : ¬ μ 75 m = 0) (hst : ∀ i : Int, 1 ≤ i → i < c → μ 75 i = 0 → μ 75 (μ 73 i) = 0) (hc : c ≤ 10) (ho : 0 ≤ on ∧ on < c) (hs : μ 75 on = 0) : AE κ 0 mX12_isBelow [aR 55, aI on, aI m] μ ν (some (aI 0)) μ ν := by
  refine AMet.of kX12_isBelow.1 (Nat.le_of_ble_eq_true rfl) rfl ?_
  refine aw_blk oX12_isBelow_0 (pc' := 2) (ls' := [_, _, _, _]) (st' := []) (cs := []) rfl trivial ?_
  exact l_isBelow hm hPm c hfl hst hc 10 on ho.1 ho.2 (by omega) hs
theorem l_fallIn {κ : KX} {μ : MM} {ν : ML} {P : Option AV → List SH → MM → ML → Prop} {m many child : Int} (hm : 1 ≤ m ∧ m < 10) (hcd : 1 ≤ child ∧ child < 10) (hPm : okP (μ 73)) (hDm : okD (μ 74)) (hFm : okF (μ 75)) (hfl : ¬ μ 75 m = 0) (hst : ∀ i : Int, 1 ≤ i → i < child → μ 75 i = 0 → μ 75 (μ 73 i) = 0) (hf : 1 ≤ μ 58 6 ∧ μ 58 6 ≤ 9) (n : Nat) : ∀ (k : Nat) (u6 : AV), (k : Int) + n = child → (∀ u6 : AV, AX κ mX12_fall 60 P 161 [aR 55, aI m, aI many, aI child, aI (np (μ 75) (μ 73) (μ 74) child (μ 58 6) child.toNat), aI child, u6] [] μ ν) → AX κ mX12_fall 60 P 71 [aR 55, aI m, aI many, aI child, aI (np (μ 75) (μ 73) (μ 74) child (μ 58 6) k), aI k, u6] [] μ ν := by
  induction n with
  | zero =>
    intro k u6 hk K
    have e : k = child.toNat := by omega
    subst e
    rw [show ((child.toNat : Nat) : Int) = child by omega]
    refine aw_blk oX12_fall_71 (pc' := 74) (ls' := [_, _, _, _, _, _, _]) (st' := [_, _]) (cs := []) rfl trivial ?_
    refine aw_icmp_ge (tgt := 161) eX12_fall_74 (by decide) (by omega) (by omega) (fun h => ?_) (fun h => ?_)
    · exact K u6
    · exfalso; omega
  | succ n ih =>
    intro k u6 hk K
    have hb := np_bd (fl := μ 75) (par := μ 73) (del := μ 74) (child := child) (fan := μ 58 6) k
    have T := fun u => ih (k + 1) u (by omega) K
    simp only [np] at T
    generalize np (μ 75) (μ 73) (μ 74) child (μ 58 6) k = b at hb T ⊢
    have g1 := hFm (k : Int) (by omega) (by omega)
    have g2 := hc_bd (fl := μ 75) (par := μ 73) (on := (k : Int)) (but := child)
    have g3 := bh_bd hPm hDm 10 (k : Int) (by omega)
    have g4 := bh_bd hPm hDm 10 b (by omega)
    refine aw_blk oX12_fall_71 (pc' := 74) (ls' := [_, _, _, _, _, _, _]) (st' := [_, _]) (cs := []) rfl trivial ?_
    refine aw_icmp_ge (tgt := 161) eX12_fall_74 (by decide) (by omega) (by omega) (fun h => ?_) (fun h => ?_)
    · exfalso; omega
    · refine aw_blk oX12_fall_77 (pc' := 84) (ls' := [_, _, _, _, _, _, _]) (st' := [_]) (cs := [(_, _)]) rfl (⟨⟨by omega, by omega⟩, trivial⟩) ?_
      refine aw_if_ne (tgt := 118) eX12_fall_84 (by decide) (by omega) (fun h1 => ?_) (fun h1 => ?_)
      · rw [if_neg (by omega)] at T
        refine aw_blk oX12_fall_118 (pc' := 119) (ls' := [_, _, _, _, _, _, _]) (st' := [_]) (cs := []) rfl trivial ?_
        refine aw_blk oX12_fall_119 (pc' := 123) (ls' := [_, _, _, _, _, _, _]) (st' := [_]) (cs := []) rfl trivial ?_
        refine aw_if_eq (tgt := 151) eX12_fall_123 (by decide) (by omega) (fun h2 => ?_) (fun h2 => ?_)
        · refine aw_blk oX12_fall_151 (pc' := 153) (ls' := [_, _, _, _, _, _, _]) (st' := [_]) (cs := []) rfl trivial ?_
          refine aw_blk oX12_fall_153 (pc' := 71) (ls' := [_, _, _, _, _, _, _]) (st' := []) (cs := []) rfl trivial ?_
          exact T _
        · exfalso; omega
      · refine aw_blk oX12_fall_87 (pc' := 91) (ls' := [_, _, _, _, _, _, _]) (st' := [_, _, _]) (cs := []) rfl trivial ?_
        refine aw_ciV (rest := []) (c_isBelow hm hPm hfl hst (by omega) (by omega) h1) kX12_isBelow eX12_fall_91 lX12_fall_91 rfl rfl rfl rfl (Nat.le_of_ble_eq_true rfl) ⟨Nat.le_of_ble_eq_true rfl, Nat.le_of_ble_eq_true rfl⟩ ⟨Nat.le_refl _, Nat.le_refl _⟩ ?_
        refine aw_if_ne (tgt := 118) eX12_fall_94 (by decide) (by omega) (fun h2 => ?_) (fun h2 => ?_)
        · exfalso; omega
        · refine aw_blk oX12_fall_97 (pc' := 101) (ls' := [_, _, _, _, _, _, _]) (st' := [_, _, _]) (cs := []) rfl trivial ?_
          refine aw_ciV (rest := []) (c_hungOn (by omega) (by omega) hPm hFm) kX12_hungOn eX12_fall_101 lX12_fall_101 rfl rfl rfl rfl (Nat.le_of_ble_eq_true rfl) ⟨Nat.le_of_ble_eq_true rfl, Nat.le_of_ble_eq_true rfl⟩ ⟨Nat.le_refl _, Nat.le_refl _⟩ ?_
          refine aw_blk oX12_fall_104 (pc' := 111) (ls' := [_, _, _, _, _, _, _]) (st' := [_, _]) (cs := [(_, _)]) rfl (⟨⟨by omega, by omega⟩, trivial⟩) ?_
          refine aw_icmp_ge (tgt := 118) eX12_fall_111 (by decide) (by omega) (by omega) (fun h3 => ?_) (fun h3 => ?_)
          · rw [if_neg (by omega)] at T
            refine aw_blk oX12_fall_118 (pc' := 119) (ls' := [_, _, _, _, _, _, _]) (st' := [_]) (cs := []) rfl trivial ?_
            refine aw_blk oX12_fall_119 (pc' := 123) (ls' := [_, _, _, _, _, _, _]) (st' := [_]) (cs := []) rfl trivial ?_
            refine aw_if_eq (tgt := 151) eX12_fall_123 (by decide) (by omega) (fun h4 => ?_) (fun h4 => ?_)
            · refine aw_blk oX12_fall_151 (pc' := 153) (ls' := [_, _, _, _, _, _, _]) (st' := [_]) (cs := []) rfl trivial ?_
              refine aw_blk oX12_fall_153 (pc' := 71) (ls' := [_, _, _, _, _, _, _]) (st' := []) (cs := []) rfl trivial ?_
              exact T _
            · exfalso; omega
          · refine aw_blk oX12_fall_114 (pc' := 119) (ls' := [_, _, _, _, _, _, _]) (st' := [_]) (cs := []) rfl trivial ?_
            refine aw_blk oX12_fall_119 (pc' := 123) (ls' := [_, _, _, _, _, _, _]) (st' := [_]) (cs := []) rfl trivial ?_
            refine aw_if_eq (tgt := 151) eX12_fall_123 (by decide) (by omega) (fun h4 => ?_) (fun h4 => ?_)
            · exfalso; omega
            · refine aw_blk oX12_fall_126 (pc' := 128) (ls' := [_, _, _, _, _, _, _]) (st' := [_]) (cs := []) rfl trivial ?_
              refine aw_if_lt (tgt := 146) eX12_fall_128 (by decide) (by omega) (fun h5 => ?_) (fun h5 => ?_)
              · rw [if_pos (by omega)] at T
                refine aw_blk oX12_fall_146 (pc' := 153) (ls' := [_, _, _, _, _, _, _]) (st' := [_]) (cs := []) rfl trivial ?_
                refine aw_blk oX12_fall_153 (pc' := 71) (ls' := [_, _, _, _, _, _, _]) (st' := []) (cs := []) rfl trivial ?_
                exact T _
              · refine aw_blk oX12_fall_131 (pc' := 134) (ls' := [_, _, _, _, _, _, _]) (st' := [_, _]) (cs := []) rfl trivial ?_
                refine aw_ciV (rest := []) (c_behindOf hPm (by omega)) kX12_behindOf eX12_fall_134 lX12_fall_134 rfl rfl rfl rfl (Nat.le_of_ble_eq_true rfl) ⟨Nat.le_of_ble_eq_true rfl, Nat.le_of_ble_eq_true rfl⟩ ⟨Nat.le_refl _, Nat.le_refl _⟩ ?_
                refine aw_blk oX12_fall_137 (pc' := 140) (ls' := [_, _, _, _, _, _, _]) (st' := [_, _, _]) (cs := []) rfl trivial ?_
                refine aw_ciV (rest := [_]) (c_behindOf hPm (by omega)) kX12_behindOf eX12_fall_140 lX12_fall_140 rfl rfl rfl rfl (Nat.le_of_ble_eq_true rfl) ⟨Nat.le_of_ble_eq_true rfl, Nat.le_of_ble_eq_true rfl⟩ ⟨Nat.le_refl _, Nat.le_refl _⟩ ?_
                refine aw_icmp_ge (tgt := 151) eX12_fall_143 (by decide) (by omega) (by omega) (fun h6 => ?_) (fun h6 => ?_)
                · rw [if_neg (by omega)] at T
                  refine aw_blk oX12_fall_151 (pc' := 153) (ls' := [_, _, _, _, _, _, _]) (st' := [_]) (cs := []) rfl trivial ?_
                  refine aw_blk oX12_fall_153 (pc' := 71) (ls' := [_, _, _, _, _, _, _]) (st' := []) (cs := []) rfl trivial ?_
                  exact T _
                · rw [if_pos (by omega)] at T
                  refine aw_blk oX12_fall_146 (pc' := 153) (ls' := [_, _, _, _, _, _, _]) (st' := [_]) (cs := []) rfl trivial ?_
                  refine aw_blk oX12_fall_153 (pc' := 71) (ls' := [_, _, _, _, _, _, _]) (st' := []) (cs := []) rfl trivial ?_
                  exact T _
/-- what holds of fallen and parents while a NODE's children are hung anew, ahead of child k -/
def stB (fl : Int → Int) (m k : Int) (par : Int → Int) : Prop := (∀ i : Int, 1 ≤ i → i < k → i < 10 → fl i = 0 → fl (par i) = 0) ∧ ∀ i : Int, k ≤ i → 1 ≤ i → i < 10 → fl i = 0 → par i = m ∨ fl (par i) = 0
theorem dpS_st {fl del : Int → Int} {m fan k : Int} {s : (Int → Int) × Int} (h0 : fl 0 = 0) (hk : 1 ≤ k) (hP : okP s.1) (h : stB fl m k s.1) : stB fl m (k + 1) (dpS fl del m fan k s).1 := by
  have nb := npr_bd (fl := fl) (par := s.1) (del := del) (fan := fan) hk h0
  unfold dpS
  split
  · rename_i q
    refine ⟨fun i h1 h2 h3 h4 => ?_, fun i h1 h2 h3 h4 => ?_⟩
    · unfold rowU
      dsimp only
      split
      · exact nb.2.2
      · exact h.1 i h1 (by omega) h3 h4
    · unfold rowU
      dsimp only
      rw [if_neg (by omega)]
      exact h.2 i (by omega) h2 h3 h4
  · rename_i q
    refine ⟨fun i h1 h2 h3 h4 => ?_, fun i h1 h2 h3 h4 => h.2 i (by omega) h2 h3 h4⟩
    by_cases e : i = k
    · subst e
      rcases h.2 i (by omega) h1 h3 h4 with z | z
      · exact absurd ⟨h4, z⟩ q
      · exact z
    · exact h.1 i h1 (by omega) h3 h4
theorem l_fall {κ : KX} {μ : MM} {ν : ML} {m : Int} (hDm : okD (μ 74)) (hFm : okF (μ 75)) (f0 : μ 75 0 = 0) (hf : 1 ≤ μ 58 6 ∧ μ 58 6 ≤ 9) (hm : 1 ≤ m ∧ m < 10) (hfl : ¬ μ 75 m = 0) (n : Nat) : ∀ (k : Int) (s : (Int → Int) × Int) (u4 u5 u6 : AV), 1 ≤ k → k + n = 10 → okP s.1 → stB (μ 75) m k s.1 → AX κ mX12_fall 60 (PE (some (aI (dp (μ 75) (μ 74) m (μ 58 6) n k s).2)) (setRow μ 73 (dp (μ 75) (μ 74) m (μ 58 6) n k s).1) ν) 39 [aR 55, aI m, aI s.2, aI k, u4, u5, u6] [] (setRow μ 73 s.1) ν := by
  induction n with
  | zero =>
    intro k s u4 u5 u6 hk hn hP hB
    have e : k = 10 := by omega
    subst e
    refine aw_blk oX12_fall_39 (pc' := 42) (ls' := [_, _, _, _, _, _, _]) (st' := [_, _]) (cs := []) rfl trivial ?_
    refine aw_icmp_ge (tgt := 187) eX12_fall_42 (by decide) (by omega) (by omega) (fun h => ?_) (fun h => ?_)
    · refine aw_blk oX12_fall_187 (pc' := 188) (ls' := [_, _, _, _, _, _, _]) (st' := [_]) (cs := []) rfl trivial ?_
      refine aw_iret eX12_fall_188 rfl (Nat.le_refl _) (Nat.le_refl _) ?_
      exact pe_i rfl rfl rfl
    · exfalso; omega
  | succ n ih =>
    intro k s u4 u5 u6 hk hn hP0 hB
    obtain ⟨f, mv⟩ := s
    change AX κ mX12_fall 60 _ 39 [aR 55, aI m, aI mv, aI k, u4, u5, u6] [] (setRow μ 73 f) ν
    have T := fun u4 u5 u6 => ih (k + 1) (dpS (μ 75) (μ 74) m (μ 58 6) k (f, mv)) u4 u5 u6 (by omega) (by omega) (dpS_ok f0 hk hP0) (dpS_st f0 hk hP0 hB)
    have hDm : okD (setRow μ 73 f 74) := hDm
    have hFm : okF (setRow μ 73 f 75) := hFm
    have hPm : okP (setRow μ 73 f 73) := hP0
    have g1 := hFm k (by omega) (by omega)
    have g2 := hPm k (by omega) (by omega)
    refine aw_blk oX12_fall_39 (pc' := 42) (ls' := [_, _, _, _, _, _, _]) (st' := [_, _]) (cs := []) rfl trivial ?_
    refine aw_icmp_ge (tgt := 187) eX12_fall_42 (by decide) (by omega) (by omega) (fun h => ?_) (fun h => ?_)
    · exfalso; omega
    · refine aw_blk oX12_fall_45 (pc' := 51) (ls' := [_, _, _, _, _, _, _]) (st' := [_]) (cs := [(_, _)]) rfl (⟨⟨by omega, by omega⟩, trivial⟩) ?_
      refine aw_if_ne (tgt := 181) eX12_fall_51 (by decide) (by omega) (fun h1 => ?_) (fun h1 => ?_)
      · have e : dpS (μ 75) (μ 74) m (μ 58 6) k (f, mv) = (f, mv) := if_neg (fun q => h1 q.1)
        rw [e] at T
        refine aw_blk oX12_fall_181 (pc' := 39) (ls' := [_, _, _, _, _, _, _]) (st' := []) (cs := []) rfl trivial ?_
        simp only [dp, e]
        exact T _ _ _
      · refine aw_blk oX12_fall_54 (pc' := 61) (ls' := [_, _, _, _, _, _, _]) (st' := [_, _]) (cs := [(_, _)]) rfl (⟨⟨by omega, by omega⟩, trivial⟩) ?_
        refine aw_icmp_ne (tgt := 181) eX12_fall_61 (by decide) (by omega) (by omega) (fun h2 => ?_) (fun h2 => ?_)
        · have e : dpS (μ 75) (μ 74) m (μ 58 6) k (f, mv) = (f, mv) := if_neg (fun q => h2 q.2)
          rw [e] at T
          refine aw_blk oX12_fall_181 (pc' := 39) (ls' := [_, _, _, _, _, _, _]) (st' := []) (cs := []) rfl trivial ?_
          simp only [dp, e]
          exact T _ _ _
        · have e : dpS (μ 75) (μ 74) m (μ 58 6) k (f, mv) = (rowU f k (npr (μ 75) f (μ 74) k (μ 58 6)), mv + 1) := if_pos ⟨h1, h2⟩
          rw [e] at T
          have nb := np_bd (fl := μ 75) (par := f) (del := μ 74) (child := k) (fan := μ 58 6) k.toNat
          refine aw_blk oX12_fall_64 (pc' := 71) (ls' := [_, _, _, _, _, _, _]) (st' := []) (cs := []) rfl trivial ?_
          refine l_fallIn (μ := setRow μ 73 f) hm (by omega) hPm hDm hFm hfl (fun i a b q => hB.1 i a b (by omega) q) hf k.toNat 0 _ (by omega) (fun u6 => ?_)
          change AX κ mX12_fall 60 _ 161 [aR 55, aI m, aI mv, aI k, aI (np (μ 75) f (μ 74) k (μ 58 6) k.toNat), aI k, u6] [] (setRow μ 73 f) ν
          refine aw_blk oX12_fall_161 (pc' := 168) (ls' := [_, _, _, _, _, _, _]) (st' := [_, _, _]) (cs := []) rfl trivial ?_
          refine aw_if_ge (tgt := 175) eX12_fall_168 (by decide) (by omega) (fun h3 => ?_) (fun h3 => ?_)
          · have e2 : npr (μ 75) f (μ 74) k (μ 58 6) = np (μ 75) f (μ 74) k (μ 58 6) k.toNat := if_neg (by omega)
            rw [e2] at T e
            refine aw_blk oX12_fall_175 (pc' := 177) (ls' := [_, _, _, _, _, _, _]) (st' := [_, _, _]) (cs := []) rfl trivial ?_
            refine aw_blk oX12_fall_177 (pc' := 181) (ls' := [_, _, _, _, _, _, _]) (st' := []) (cs := [(_, _)]) rfl (⟨⟨by omega, by omega⟩, trivial⟩) ?_
            rw [up_setRow]
            refine aw_blk oX12_fall_181 (pc' := 39) (ls' := [_, _, _, _, _, _, _]) (st' := []) (cs := []) rfl trivial ?_
            simp only [dp, e]
            exact T _ _ _
          · have e2 : npr (μ 75) f (μ 74) k (μ 58 6) = 0 := if_pos (by omega)
            rw [e2] at T e
            refine aw_blk oX12_fall_171 (pc' := 177) (ls' := [_, _, _, _, _, _, _]) (st' := [_, _, _]) (cs := []) rfl trivial ?_
            refine aw_blk oX12_fall_177 (pc' := 181) (ls' := [_, _, _, _, _, _, _]) (st' := []) (cs := [(_, _)]) rfl (⟨⟨by omega, by omega⟩, trivial⟩) ?_
            rw [up_setRow]
            refine aw_blk oX12_fall_181 (pc' := 39) (ls' := [_, _, _, _, _, _, _]) (st' := []) (cs := []) rfl trivial ?_
            simp only [dp, e]
            exact T _ _ _
theorem dp_inv {fl del : Int → Int} {m fan : Int} (h0 : fl 0 = 0) : ∀ (n : Nat) (k : Int) (s : (Int → Int) × Int), 1 ≤ k → okP s.1 → stB fl m k s.1 → okP (dp fl del m fan n k s).1 ∧ stB fl m (k + n) (dp fl del m fan n k s).1
  | 0, k, s, _, hP, hB => by simpa [dp] using And.intro hP hB
  | n + 1, k, s, hk, hP, hB => by
    have := dp_inv (del := del) (fan := fan) (m := m) h0 n (k + 1) (dpS fl del m fan k s) (by omega) (dpS_ok h0 hk hP) (dpS_st h0 hk hP hB)
    rw [show k + 1 + (n : Int) = k + ((n + 1 : Nat) : Int) by omega] at this
    exact this
theorem dp_bd {fl del : Int → Int} {m fan : Int} : ∀ (n : Nat) (k : Int) (s : (Int → Int) × Int), s.2 ≤ (dp fl del m fan n k s).2 ∧ (dp fl del m fan n k s).2 ≤ s.2 + n
  | 0, k, s => by simp [dp]
  | n + 1, k, s => by
    have := dp_bd (fl := fl) (del := del) (m := m) (fan := fan) n (k + 1) (dpS fl del m fan k s)
    have e : (dpS fl del m fan k s).2 = s.2 ∨ (dpS fl del m fan k s).2 = s.2 + 1 := by
      unfold dpS; split
      · right; rfl
      · left; rfl
    simp only [dp]
    omega
theorem dp_skip {fl del : Int → Int} {m fan : Int} {s : (Int → Int) × Int} : ∀ (j n : Nat) (k : Int), (∀ i : Int, k ≤ i → i < k + j → ¬ s.1 i = m) → dp fl del m fan (j + n) k s = dp fl del m fan n (k + j) s
  | 0, n, k, _ => by simp
  | j + 1, n, k, h => by
    have e : dpS fl del m fan k s = s := if_neg (fun q => h k (by omega) (by omega) q.2)
    rw [show j + 1 + n = (j + n) + 1 by omega]
    simp only [dp, e]
    rw [dp_skip j n (k + 1) (fun i h1 h2 => h i (by omega) (by omega))]
    congr 1
    omega
theorem dp_eq {fl del fl' del' : Int → Int} {m fan : Int} (f0 : fl 0 = 0) (h0 : fl' 0 = fl 0) (h1 : eqN fl' fl) (h3 : eqN del' del) : ∀ (n : Nat) (k : Int) (f f' : Int → Int) (mv : Int), 1 ≤ k → k + n ≤ 10 → okP f → eqN f' f → (dp fl' del' m fan n k (f', mv)).2 = (dp fl del m fan n k (f, mv)).2 ∧ eqN (dp fl' del' m fan n k (f', mv)).1 (dp fl del m fan n k (f, mv)).1
  | 0, k, f, f', mv, _, _, _, he => ⟨rfl, he⟩
  | n + 1, k, f, f', mv, hk, hn, hP, he => by
    have en : npr fl' f' del' k fan = npr fl f del k fan := by
      unfold npr
      rw [np_eq hP h0 h1 he h3 k.toNat (by omega)]
    have hok := dpS_ok (del := del) (m := m) (fan := fan) (s := (f, mv)) f0 hk hP
    simp only [dp]
    by_cases q : fl k = 0 ∧ f k = m
    · have e1 : dpS fl del m fan k (f, mv) = (rowU f k (npr fl f del k fan), mv + 1) := if_pos q
      have e2 : dpS fl' del' m fan k (f', mv) = (rowU f' k (npr fl f del k fan), mv + 1) := by
        rw [← en]
        exact if_pos (by show fl' k = 0 ∧ f' k = m; rw [h1 k hk (by omega), he k hk (by omega)]; exact q)
      rw [e1, e2]
      rw [e1] at hok
      refine dp_eq f0 h0 h1 h3 n (k + 1) _ _ (mv + 1) (by omega) (by omega) hok (fun i a b => ?_)
      unfold rowU
      rw [he i a b]
    · have e1 : dpS fl del m fan k (f, mv) = (f, mv) := if_neg q
      have e2 : dpS fl' del' m fan k (f', mv) = (f', mv) := if_neg (by show ¬ (fl' k = 0 ∧ f' k = m); rw [h1 k hk (by omega), he k hk (by omega)]; exact q)
      rw [e1, e2]
      exact dp_eq f0 h0 h1 h3 n (k + 1) f f' mv (by omega) (by omega) hP he
theorem law_fall {κ : KX} {μ : MM} {ν : ML} {m : Int} (h : RN μ) (hs : RS μ) (hm : R32 m) : LawM RN csN κ mX11_fall mX12_fall [aI m] μ ν := by
  obtain ⟨hP, hD, hF, f0, f0m, e1, e2, e3, hst⟩ := id h
  obtain ⟨hPm, hDm, hFm⟩ := h.m
  have hfan := fan_bd hs
  by_cases c1 : 0 ≤ m ∧ m ≤ 9
  · have g1 := hF m (by omega) (by omega)
    have g2 := hFm m (by omega) (by omega)
    have g3 : μ 75 m = μ 54 m := by
      by_cases q : m = 0
      · subst q; omega
      · exact e3 m (by omega) (by omega)
    by_cases c2 : m = 0
    · subst c2
      refine ⟨-5, μ, μ, ?_, ?_, by decide, h, SR.rf⟩
      · refine AMet.of kX11_fall.1 (Nat.le_of_ble_eq_true rfl) rfl ?_
        refine aw_blk oX11_fall_0 (pc' := 1) (ls' := [_, _]) (st' := [_]) (cs := []) rfl trivial ?_
        refine aw_ciS (rest := []) (c_X11_isNode (by omega)) kX11_isNode eX11_fall_1 lX11_fall_1 rfl rfl (Nat.le_of_ble_eq_true rfl) ⟨Nat.le_of_ble_eq_true rfl, Nat.le_of_ble_eq_true rfl⟩ ⟨Nat.le_refl _, Nat.le_refl _⟩ ?_
        refine aw_if_ne (tgt := 9) eX11_fall_4 (by decide) bt_r (fun hh => have h158 := bt1 hh; ?_) (fun hh => have h158 := bt0 hh; ?_)
        · first
          | (exfalso; omega; done)
          | (refine aw_blk oX11_fall_9 (pc' := 18) (ls' := [_, _]) (st' := [_]) (cs := [(_, _)]) rfl (⟨⟨by omega, by omega⟩, trivial⟩) ?_
             refine aw_if_eq (tgt := 24) eX11_fall_18 (by decide) (by omega) (fun h159 => ?_) (fun h159 => ?_)
             · first
               | (exfalso; omega; done)
               | (refine aw_blk oX11_fall_24 (pc' := 25) (ls' := [_, _]) (st' := [_]) (cs := []) rfl trivial ?_
                  refine aw_if_ne (tgt := 31) eX11_fall_25 (by decide) (by omega) (fun h160 => ?_) (fun h160 => ?_)
                  · first
                    | (exfalso; omega; done)
                    | (refine aw_blk oX11_fall_31 (pc' := 43) (ls' := [_, _]) (st' := [_, _, _]) (cs := [(_, _)]) rfl (⟨⟨by omega, by omega⟩, trivial⟩) ?_
                       refine aw_ciV (rest := []) (c_drop hP hD hF f0 (by omega) (by omega)) kX6_drop eX11_fall_43 lX11_fall_43 rfl rfl rfl rfl (Nat.le_of_ble_eq_true rfl) ⟨Nat.le_of_ble_eq_true rfl, Nat.le_of_ble_eq_true rfl⟩ ⟨Nat.le_refl _, Nat.le_refl _⟩ ?_
                       refine aw_iret eX11_fall_46 rfl (Nat.le_refl _) (Nat.le_refl _) ?_
                       exact pe_i rfl rfl rfl)
                  · first
                    | (exfalso; omega; done)
                    | (refine aw_blk oX11_fall_28 (pc' := 30) (ls' := [_, _]) (st' := [_]) (cs := []) rfl trivial ?_
                       refine aw_iret eX11_fall_30 rfl (Nat.le_refl _) (Nat.le_refl _) ?_
                       exact pe_i rfl rfl rfl))
             · first
               | (exfalso; omega; done)
               | (refine aw_blk oX11_fall_21 (pc' := 23) (ls' := [_, _]) (st' := [_]) (cs := []) rfl trivial ?_
                  refine aw_iret eX11_fall_23 rfl (Nat.le_refl _) (Nat.le_refl _) ?_
                  exact pe_i rfl rfl rfl))
        · first
          | (exfalso; omega; done)
          | (refine aw_blk oX11_fall_7 (pc' := 8) (ls' := [_, _]) (st' := [_]) (cs := []) rfl trivial ?_
             refine aw_iret eX11_fall_8 rfl (Nat.le_refl _) (Nat.le_refl _) ?_
             exact pe_i rfl rfl rfl)
      · refine AMet.of kX12_fall.1 (Nat.le_of_ble_eq_true rfl) rfl ?_
        refine aw_blk oX12_fall_0 (pc' := 1) (ls' := [_, _, _, _, _, _, _]) (st' := [_]) (cs := []) rfl trivial ?_
        refine aw_ciS (rest := []) (c_X12_isNode (by omega)) kX12_isNode eX12_fall_1 lX12_fall_1 rfl rfl (Nat.le_of_ble_eq_true rfl) ⟨Nat.le_of_ble_eq_true rfl, Nat.le_of_ble_eq_true rfl⟩ ⟨Nat.le_refl _, Nat.le_refl _⟩ ?_
        refine aw_if_ne (tgt := 9) eX12_fall_4 (by decide) bt_r (fun hh => have h161 := bt1 hh; ?_) (fun hh => have h161 := bt0 hh; ?_)
        · first
          | (exfalso; omega; done)
          | (refine aw_blk oX12_fall_9 (pc' := 10) (ls' := [_, _, _, _, _, _, _]) (st' := [_]) (cs := []) rfl trivial ?_
             refine aw_if_ne (tgt := 16) eX12_fall_10 (by decide) (by omega) (fun h162 => ?_) (fun h162 => ?_)
             · first
               | (exfalso; omega; done)
               | (refine aw_blk oX12_fall_16 (pc' := 22) (ls' := [_, _, _, _, _, _, _]) (st' := [_]) (cs := [(_, _)]) rfl (⟨⟨by omega, by omega⟩, trivial⟩) ?_
                  refine aw_if_eq (tgt := 28) eX12_fall_22 (by decide) (by omega) (fun h163 => ?_) (fun h163 => ?_)
                  · first
                    | (exfalso; omega; done)
                    | (refine aw_blk oX12_fall_28 (pc' := 39) (ls' := [_, _, _, _, _, _, _]) (st' := []) (cs := [(_, _), (_, _)]) rfl (⟨⟨by omega, by omega⟩, ⟨by omega, by omega⟩, trivial⟩) ?_
                       skip)
                  · first
                    | (exfalso; omega; done)
                    | (refine aw_blk oX12_fall_25 (pc' := 27) (ls' := [_, _, _, _, _, _, _]) (st' := [_]) (cs := []) rfl trivial ?_
                       refine aw_iret eX12_fall_27 rfl (Nat.le_refl _) (Nat.le_refl _) ?_
                       exact pe_i rfl rfl rfl))
             · first
               | (exfalso; omega; done)
               | (refine aw_blk oX12_fall_13 (pc' := 15) (ls' := [_, _, _, _, _, _, _]) (st' := [_]) (cs := []) rfl trivial ?_
                  refine aw_iret eX12_fall_15 rfl (Nat.le_refl _) (Nat.le_refl _) ?_
                  exact pe_i rfl rfl rfl))
        · first
          | (exfalso; omega; done)
          | (refine aw_blk oX12_fall_7 (pc' := 8) (ls' := [_, _, _, _, _, _, _]) (st' := [_]) (cs := []) rfl trivial ?_
             refine aw_iret eX12_fall_8 rfl (Nat.le_refl _) (Nat.le_refl _) ?_
             exact pe_i rfl rfl rfl)
    · by_cases c3 : μ 54 m = 0
      · -- the NODE falls
        have r0 : rowU (μ 54) m 1 0 = 0 := by unfold rowU; rw [if_neg (by omega)]; exact f0
        have rF : okF (rowU (μ 54) m 1) := fun i a b => by
          unfold rowU; split
          · omega
          · exact hF i a b
        have rFm : okF (rowU (μ 75) m 1) := fun i a b => by
          unfold rowU; split
          · omega
          · exact hFm i a b
        have rm0 : rowU (μ 75) m 1 0 = 0 := by unfold rowU; rw [if_neg (by omega)]; exact f0m
        have rE : eqN (rowU (μ 75) m 1) (rowU (μ 54) m 1) := fun i a b => by unfold rowU; rw [e3 i a b]
        have B1 : stB (rowU (μ 54) m 1) m 1 (μ 52) := by
          refine ⟨fun i a b => by omega, fun i a b c d => ?_⟩
          unfold rowU at d ⊢
          by_cases q : μ 52 i = m
          · exact Or.inl q
          · right
            rw [if_neg q]
            by_cases z : i = m
            · rw [if_pos z] at d; cases d
            · rw [if_neg z] at d; exact hst i b c d
        have hsk : dp (rowU (μ 54) m 1) (μ 53) m (μ 1 6) 9 1 (μ 52, 0) = dp (rowU (μ 54) m 1) (μ 53) m (μ 1 6) (9 - m).toNat (m + 1) (μ 52, 0) := by
          have := dp_skip (fl := rowU (μ 54) m 1) (del := μ 53) (m := m) (fan := μ 1 6) (s := (μ 52, 0)) m.toNat (9 - m).toNat 1 (fun i a b q => by
            have := hP i (by omega) (by omega)
            simp only at q
            omega)
          rw [show m.toNat + (9 - m).toNat = 9 by omega, show 1 + ((m.toNat : Nat) : Int) = m + 1 by omega] at this
          exact this
        have hC := c_drop (κ := κ) (ν := ν) (m := m) (fan := μ 1 6) hP hD hF f0 (by omega) (by omega)
        rw [← hsk] at hC
        have hI := dp_inv (fl := rowU (μ 54) m 1) (del := μ 53) (m := m) (fan := μ 1 6) r0 9 1 (μ 52, 0) (by decide) hP B1
        have hbd := dp_bd (fl := rowU (μ 54) m 1) (del := μ 53) (m := m) (fan := μ 1 6) 9 1 (μ 52, 0)
        have hq := dp_eq (fl := rowU (μ 54) m 1) (del := μ 53) (fl' := rowU (μ 75) m 1) (del' := μ 74) (m := m) (fan := μ 1 6) r0 (by rw [rm0, r0]) rE e2 9 1 (μ 52) (μ 73) 0 (by decide) (by decide) hP e1
        generalize hd1 : dp (rowU (μ 54) m 1) (μ 53) m (μ 1 6) 9 1 (μ 52, 0) = D1 at hC hI hbd hq
        have hM := l_fall (κ := κ) (μ := up (setRow (up μ 54 m 1) 52 D1.1) 75 m 1) (ν := ν) (m := m) hDm (by rw [up_row]; exact rFm) (by rw [up_row]; exact rm0) (by show 1 ≤ μ 58 6 ∧ μ 58 6 ≤ 9; omega) (by omega) (by rw [up_row]; unfold rowU; rw [if_pos rfl]; decide) 9 1 (μ 73, 0) aU aU aU (by decide) (by decide) hPm (by
          rw [up_row]
          show stB (rowU (μ 75) m 1) m 1 (μ 73)
          refine ⟨fun i a b => by omega, fun i a b c d => ?_⟩
          rw [e1 i b c]
          rw [rE i b c] at d
          rcases B1.2 i a b c d with z | z
          · exact Or.inl z
          · right
            by_cases y : μ 52 i = 0
            · rw [y]; exact rm0
            · rw [rE (μ 52 i) (by have := hP i b c; omega) (by have := hP i b c; omega)]; exact z)
        rw [up_row] at hM
        have hfs : (up (setRow (up μ 54 m 1) 52 D1.1) 75 m 1) 58 6 = μ 1 6 := hfan.1
        rw [hfs] at hM
        generalize hd2 : dp (rowU (μ 75) m 1) (μ 74) m (μ 1 6) 9 1 (μ 73, 0) = D2 at hq
        have hM2 : AX κ mX12_fall 60 (PE (some (aI D2.2)) (setRow (up (setRow (up μ 54 m 1) 52 D1.1) 75 m 1) 73 D2.1) ν) 39 [aR 55, aI m, aI 0, aI 1, aU, aU, aU] [] (up (setRow (up μ 54 m 1) 52 D1.1) 75 m 1) ν := by
          have e : setRow (up (setRow (up μ 54 m 1) 52 D1.1) 75 m 1) 73 (μ 73, (0 : Int)).1 = up (setRow (up μ 54 m 1) 52 D1.1) 75 m 1 := setRow_self (c := 73)
          rw [e] at hM
          rw [← hd2]
          exact hM
        rw [hq.1] at hM2
        have hfm : (setRow (up μ 54 m 1) 52 D1.1) 75 m = 0 := by show μ 75 m = 0; omega
        refine ⟨D1.2, setRow (up μ 54 m 1) 52 D1.1, setRow (up (setRow (up μ 54 m 1) 52 D1.1) 75 m 1) 73 D2.1, ?_, ?_, ?_, ?_, ?_⟩
        · skip
          refine AMet.of kX11_fall.1 (Nat.le_of_ble_eq_true rfl) rfl ?_
          refine aw_blk oX11_fall_0 (pc' := 1) (ls' := [_, _]) (st' := [_]) (cs := []) rfl trivial ?_
          refine aw_ciS (rest := []) (c_X11_isNode (by omega)) kX11_isNode eX11_fall_1 lX11_fall_1 rfl rfl (Nat.le_of_ble_eq_true rfl) ⟨Nat.le_of_ble_eq_true rfl, Nat.le_of_ble_eq_true rfl⟩ ⟨Nat.le_refl _, Nat.le_refl _⟩ ?_
          refine aw_if_ne (tgt := 9) eX11_fall_4 (by decide) bt_r (fun hh => have h1 := bt1 hh; ?_) (fun hh => have h1 := bt0 hh; ?_)
          · refine aw_blk oX11_fall_9 (pc' := 18) (ls' := [_, _]) (st' := [_]) (cs := [(_, _)]) rfl (⟨⟨by omega, by omega⟩, trivial⟩) ?_
            refine aw_if_eq (tgt := 24) eX11_fall_18 (by decide) (by omega) (fun h2 => ?_) (fun h2 => ?_)
            · refine aw_blk oX11_fall_24 (pc' := 25) (ls' := [_, _]) (st' := [_]) (cs := []) rfl trivial ?_
              refine aw_if_ne (tgt := 31) eX11_fall_25 (by decide) (by omega) (fun h3 => ?_) (fun h3 => ?_)
              · refine aw_blk oX11_fall_31 (pc' := 43) (ls' := [_, _]) (st' := [_, _, _]) (cs := [(_, _)]) rfl (⟨⟨by omega, by omega⟩, trivial⟩) ?_
                refine aw_ciV (rest := []) hC kX6_drop eX11_fall_43 lX11_fall_43 rfl rfl rfl rfl (Nat.le_of_ble_eq_true rfl) ⟨Nat.le_of_ble_eq_true rfl, Nat.le_of_ble_eq_true rfl⟩ ⟨Nat.le_refl _, Nat.le_refl _⟩ ?_
                refine aw_iret eX11_fall_46 rfl (Nat.le_refl _) (Nat.le_refl _) ?_
                exact pe_i rfl rfl rfl
              · exfalso; omega
            · exfalso; omega
          · exfalso; omega
        · skip
          refine AMet.of kX12_fall.1 (Nat.le_of_ble_eq_true rfl) rfl ?_
          refine aw_blk oX12_fall_0 (pc' := 1) (ls' := [_, _, _, _, _, _, _]) (st' := [_]) (cs := []) rfl trivial ?_
          refine aw_ciS (rest := []) (c_X12_isNode (by omega)) kX12_isNode eX12_fall_1 lX12_fall_1 rfl rfl (Nat.le_of_ble_eq_true rfl) ⟨Nat.le_of_ble_eq_true rfl, Nat.le_of_ble_eq_true rfl⟩ ⟨Nat.le_refl _, Nat.le_refl _⟩ ?_
          refine aw_if_ne (tgt := 9) eX12_fall_4 (by decide) bt_r (fun hh => have h164 := bt1 hh; ?_) (fun hh => have h164 := bt0 hh; ?_)
          · first
            | (exfalso; omega; done)
            | (refine aw_blk oX12_fall_9 (pc' := 10) (ls' := [_, _, _, _, _, _, _]) (st' := [_]) (cs := []) rfl trivial ?_
               refine aw_if_ne (tgt := 16) eX12_fall_10 (by decide) (by omega) (fun h165 => ?_) (fun h165 => ?_)
               · first
                 | (exfalso; omega; done)
                 | (refine aw_blk oX12_fall_16 (pc' := 22) (ls' := [_, _, _, _, _, _, _]) (st' := [_]) (cs := [(_, _)]) rfl (⟨⟨by omega, by omega⟩, trivial⟩) ?_
                    refine aw_if_eq (tgt := 28) eX12_fall_22 (by decide) (by omega) (fun h166 => ?_) (fun h166 => ?_)
                    · first
                      | (exfalso; omega; done)
                      | (refine aw_blk oX12_fall_28 (pc' := 39) (ls' := [_, _, _, _, _, _, _]) (st' := []) (cs := [(_, _), (_, _)]) rfl (⟨⟨by omega, by omega⟩, ⟨by omega, by omega⟩, trivial⟩) ?_
                         exact hM2)
                    · first
                      | (exfalso; omega; done)
                      | (refine aw_blk oX12_fall_25 (pc' := 27) (ls' := [_, _, _, _, _, _, _]) (st' := [_]) (cs := []) rfl trivial ?_
                         refine aw_iret eX12_fall_27 rfl (Nat.le_refl _) (Nat.le_refl _) ?_
                         skip))
               · first
                 | (exfalso; omega; done)
                 | (refine aw_blk oX12_fall_13 (pc' := 15) (ls' := [_, _, _, _, _, _, _]) (st' := [_]) (cs := []) rfl trivial ?_
                    refine aw_iret eX12_fall_15 rfl (Nat.le_refl _) (Nat.le_refl _) ?_
                    skip))
          · first
            | (exfalso; omega; done)
            | (refine aw_blk oX12_fall_7 (pc' := 8) (ls' := [_, _, _, _, _, _, _]) (st' := [_]) (cs := []) rfl trivial ?_
               refine aw_iret eX12_fall_8 rfl (Nat.le_refl _) (Nat.le_refl _) ?_
               skip)
        · simp only at hbd; omega
        · have q75 : (setRow (up (setRow (up μ 54 m 1) 52 D1.1) 75 m 1) 73 D2.1) 75 = rowU (μ 75) m 1 := by
            rw [setRow_ne (by decide), up_row]; rfl
          have q54 : (setRow (up (setRow (up μ 54 m 1) 52 D1.1) 75 m 1) 73 D2.1) 54 = rowU (μ 54) m 1 := by
            rw [setRow_ne (by decide), up_cell (by decide), setRow_ne (by decide), up_row]
          have q52 : (setRow (up (setRow (up μ 54 m 1) 52 D1.1) 75 m 1) 73 D2.1) 52 = D1.1 := by
            rw [setRow_ne (by decide), up_cell (by decide), setRow_at]
          have q73 : (setRow (up (setRow (up μ 54 m 1) 52 D1.1) 75 m 1) 73 D2.1) 73 = D2.1 := setRow_at
          unfold RN
          rw [q75, q54, q52, q73]
          exact ⟨hI.1, hD, rF, r0, rm0, hq.2, e2, rE, fun i a b c => hI.2.1 i a (by omega) b c⟩
        · exact ((((SR.rf.put (by decide)).row (by decide)).put (by decide)).row (by decide))
      · refine ⟨-3, μ, μ, ?_, ?_, by decide, h, SR.rf⟩
        · refine AMet.of kX11_fall.1 (Nat.le_of_ble_eq_true rfl) rfl ?_
          refine aw_blk oX11_fall_0 (pc' := 1) (ls' := [_, _]) (st' := [_]) (cs := []) rfl trivial ?_
          refine aw_ciS (rest := []) (c_X11_isNode (by omega)) kX11_isNode eX11_fall_1 lX11_fall_1 rfl rfl (Nat.le_of_ble_eq_true rfl) ⟨Nat.le_of_ble_eq_true rfl, Nat.le_of_ble_eq_true rfl⟩ ⟨Nat.le_refl _, Nat.le_refl _⟩ ?_
          refine aw_if_ne (tgt := 9) eX11_fall_4 (by decide) bt_r (fun hh => have h167 := bt1 hh; ?_) (fun hh => have h167 := bt0 hh; ?_)
          · first
            | (exfalso; omega; done)
            | (refine aw_blk oX11_fall_9 (pc' := 18) (ls' := [_, _]) (st' := [_]) (cs := [(_, _)]) rfl (⟨⟨by omega, by omega⟩, trivial⟩) ?_
               refine aw_if_eq (tgt := 24) eX11_fall_18 (by decide) (by omega) (fun h168 => ?_) (fun h168 => ?_)
               · first
                 | (exfalso; omega; done)
                 | (refine aw_blk oX11_fall_24 (pc' := 25) (ls' := [_, _]) (st' := [_]) (cs := []) rfl trivial ?_
                    refine aw_if_ne (tgt := 31) eX11_fall_25 (by decide) (by omega) (fun h169 => ?_) (fun h169 => ?_)
                    · first
                      | (exfalso; omega; done)
                      | (refine aw_blk oX11_fall_31 (pc' := 43) (ls' := [_, _]) (st' := [_, _, _]) (cs := [(_, _)]) rfl (⟨⟨by omega, by omega⟩, trivial⟩) ?_
                         refine aw_ciV (rest := []) (c_drop hP hD hF f0 (by omega) (by omega)) kX6_drop eX11_fall_43 lX11_fall_43 rfl rfl rfl rfl (Nat.le_of_ble_eq_true rfl) ⟨Nat.le_of_ble_eq_true rfl, Nat.le_of_ble_eq_true rfl⟩ ⟨Nat.le_refl _, Nat.le_refl _⟩ ?_
                         refine aw_iret eX11_fall_46 rfl (Nat.le_refl _) (Nat.le_refl _) ?_
                         exact pe_i rfl rfl rfl)
                    · first
                      | (exfalso; omega; done)
                      | (refine aw_blk oX11_fall_28 (pc' := 30) (ls' := [_, _]) (st' := [_]) (cs := []) rfl trivial ?_
                         refine aw_iret eX11_fall_30 rfl (Nat.le_refl _) (Nat.le_refl _) ?_
                         exact pe_i rfl rfl rfl))
               · first
                 | (exfalso; omega; done)
                 | (refine aw_blk oX11_fall_21 (pc' := 23) (ls' := [_, _]) (st' := [_]) (cs := []) rfl trivial ?_
                    refine aw_iret eX11_fall_23 rfl (Nat.le_refl _) (Nat.le_refl _) ?_
                    exact pe_i rfl rfl rfl))
          · first
            | (exfalso; omega; done)
            | (refine aw_blk oX11_fall_7 (pc' := 8) (ls' := [_, _]) (st' := [_]) (cs := []) rfl trivial ?_
               refine aw_iret eX11_fall_8 rfl (Nat.le_refl _) (Nat.le_refl _) ?_
               exact pe_i rfl rfl rfl)
        · refine AMet.of kX12_fall.1 (Nat.le_of_ble_eq_true rfl) rfl ?_
          refine aw_blk oX12_fall_0 (pc' := 1) (ls' := [_, _, _, _, _, _, _]) (st' := [_]) (cs := []) rfl trivial ?_
          refine aw_ciS (rest := []) (c_X12_isNode (by omega)) kX12_isNode eX12_fall_1 lX12_fall_1 rfl rfl (Nat.le_of_ble_eq_true rfl) ⟨Nat.le_of_ble_eq_true rfl, Nat.le_of_ble_eq_true rfl⟩ ⟨Nat.le_refl _, Nat.le_refl _⟩ ?_
          refine aw_if_ne (tgt := 9) eX12_fall_4 (by decide) bt_r (fun hh => have h170 := bt1 hh; ?_) (fun hh => have h170 := bt0 hh; ?_)
          · first
            | (exfalso; omega; done)
            | (refine aw_blk oX12_fall_9 (pc' := 10) (ls' := [_, _, _, _, _, _, _]) (st' := [_]) (cs := []) rfl trivial ?_
               refine aw_if_ne (tgt := 16) eX12_fall_10 (by decide) (by omega) (fun h171 => ?_) (fun h171 => ?_)
               · first
                 | (exfalso; omega; done)
                 | (refine aw_blk oX12_fall_16 (pc' := 22) (ls' := [_, _, _, _, _, _, _]) (st' := [_]) (cs := [(_, _)]) rfl (⟨⟨by omega, by omega⟩, trivial⟩) ?_
                    refine aw_if_eq (tgt := 28) eX12_fall_22 (by decide) (by omega) (fun h172 => ?_) (fun h172 => ?_)
                    · first
                      | (exfalso; omega; done)
                      | (refine aw_blk oX12_fall_28 (pc' := 39) (ls' := [_, _, _, _, _, _, _]) (st' := []) (cs := [(_, _), (_, _)]) rfl (⟨⟨by omega, by omega⟩, ⟨by omega, by omega⟩, trivial⟩) ?_
                         skip)
                    · first
                      | (exfalso; omega; done)
                      | (refine aw_blk oX12_fall_25 (pc' := 27) (ls' := [_, _, _, _, _, _, _]) (st' := [_]) (cs := []) rfl trivial ?_
                         refine aw_iret eX12_fall_27 rfl (Nat.le_refl _) (Nat.le_refl _) ?_
                         exact pe_i rfl rfl rfl))
               · first
                 | (exfalso; omega; done)
                 | (refine aw_blk oX12_fall_13 (pc' := 15) (ls' := [_, _, _, _, _, _, _]) (st' := [_]) (cs := []) rfl trivial ?_
                    refine aw_iret eX12_fall_15 rfl (Nat.le_refl _) (Nat.le_refl _) ?_
                    exact pe_i rfl rfl rfl))
          · first
            | (exfalso; omega; done)
            | (refine aw_blk oX12_fall_7 (pc' := 8) (ls' := [_, _, _, _, _, _, _]) (st' := [_]) (cs := []) rfl trivial ?_
               refine aw_iret eX12_fall_8 rfl (Nat.le_refl _) (Nat.le_refl _) ?_
               exact pe_i rfl rfl rfl)
  · refine ⟨-1, μ, μ, ?_, ?_, by decide, h, SR.rf⟩
    · refine AMet.of kX11_fall.1 (Nat.le_of_ble_eq_true rfl) rfl ?_
      refine aw_blk oX11_fall_0 (pc' := 1) (ls' := [_, _]) (st' := [_]) (cs := []) rfl trivial ?_
      refine aw_ciS (rest := []) (c_X11_isNode (by omega)) kX11_isNode eX11_fall_1 lX11_fall_1 rfl rfl (Nat.le_of_ble_eq_true rfl) ⟨Nat.le_of_ble_eq_true rfl, Nat.le_of_ble_eq_true rfl⟩ ⟨Nat.le_refl _, Nat.le_refl _⟩ ?_
      refine aw_if_ne (tgt := 9) eX11_fall_4 (by decide) bt_r (fun hh => have h173 := bt1 hh; ?_) (fun hh => have h173 := bt0 hh; ?_)
      · first
        | (exfalso; omega; done)
        | (refine aw_blk oX11_fall_9 (pc' := 18) (ls' := [_, _]) (st' := [_]) (cs := [(_, _)]) rfl (⟨⟨by omega, by omega⟩, trivial⟩) ?_
           refine aw_if_eq (tgt := 24) eX11_fall_18 (by decide) (by omega) (fun h174 => ?_) (fun h174 => ?_)
           · first
             | (exfalso; omega; done)
             | (refine aw_blk oX11_fall_24 (pc' := 25) (ls' := [_, _]) (st' := [_]) (cs := []) rfl trivial ?_
                refine aw_if_ne (tgt := 31) eX11_fall_25 (by decide) (by omega) (fun h175 => ?_) (fun h175 => ?_)
                · first
                  | (exfalso; omega; done)
                  | (refine aw_blk oX11_fall_31 (pc' := 43) (ls' := [_, _]) (st' := [_, _, _]) (cs := [(_, _)]) rfl (⟨⟨by omega, by omega⟩, trivial⟩) ?_
                     refine aw_ciV (rest := []) (c_drop hP hD hF f0 (by omega) (by omega)) kX6_drop eX11_fall_43 lX11_fall_43 rfl rfl rfl rfl (Nat.le_of_ble_eq_true rfl) ⟨Nat.le_of_ble_eq_true rfl, Nat.le_of_ble_eq_true rfl⟩ ⟨Nat.le_refl _, Nat.le_refl _⟩ ?_
                     refine aw_iret eX11_fall_46 rfl (Nat.le_refl _) (Nat.le_refl _) ?_
                     exact pe_i rfl rfl rfl)
                · first
                  | (exfalso; omega; done)
                  | (refine aw_blk oX11_fall_28 (pc' := 30) (ls' := [_, _]) (st' := [_]) (cs := []) rfl trivial ?_
                     refine aw_iret eX11_fall_30 rfl (Nat.le_refl _) (Nat.le_refl _) ?_
                     exact pe_i rfl rfl rfl))
           · first
             | (exfalso; omega; done)
             | (refine aw_blk oX11_fall_21 (pc' := 23) (ls' := [_, _]) (st' := [_]) (cs := []) rfl trivial ?_
                refine aw_iret eX11_fall_23 rfl (Nat.le_refl _) (Nat.le_refl _) ?_
                exact pe_i rfl rfl rfl))
      · first
        | (exfalso; omega; done)
        | (refine aw_blk oX11_fall_7 (pc' := 8) (ls' := [_, _]) (st' := [_]) (cs := []) rfl trivial ?_
           refine aw_iret eX11_fall_8 rfl (Nat.le_refl _) (Nat.le_refl _) ?_
           exact pe_i rfl rfl rfl)
    · refine AMet.of kX12_fall.1 (Nat.le_of_ble_eq_true rfl) rfl ?_
      refine aw_blk oX12_fall_0 (pc' := 1) (ls' := [_, _, _, _, _, _, _]) (st' := [_]) (cs := []) rfl trivial ?_
      refine aw_ciS (rest := []) (c_X12_isNode (by omega)) kX12_isNode eX12_fall_1 lX12_fall_1 rfl rfl (Nat.le_of_ble_eq_true rfl) ⟨Nat.le_of_ble_eq_true rfl, Nat.le_of_ble_eq_true rfl⟩ ⟨Nat.le_refl _, Nat.le_refl _⟩ ?_
      refine aw_if_ne (tgt := 9) eX12_fall_4 (by decide) bt_r (fun hh => have h176 := bt1 hh; ?_) (fun hh => have h176 := bt0 hh; ?_)
      · first
        | (exfalso; omega; done)
        | (refine aw_blk oX12_fall_9 (pc' := 10) (ls' := [_, _, _, _, _, _, _]) (st' := [_]) (cs := []) rfl trivial ?_
           refine aw_if_ne (tgt := 16) eX12_fall_10 (by decide) (by omega) (fun h177 => ?_) (fun h177 => ?_)
           · first
             | (exfalso; omega; done)
             | (refine aw_blk oX12_fall_16 (pc' := 22) (ls' := [_, _, _, _, _, _, _]) (st' := [_]) (cs := [(_, _)]) rfl (⟨⟨by omega, by omega⟩, trivial⟩) ?_
                refine aw_if_eq (tgt := 28) eX12_fall_22 (by decide) (by omega) (fun h178 => ?_) (fun h178 => ?_)
                · first
                  | (exfalso; omega; done)
                  | (refine aw_blk oX12_fall_28 (pc' := 39) (ls' := [_, _, _, _, _, _, _]) (st' := []) (cs := [(_, _), (_, _)]) rfl (⟨⟨by omega, by omega⟩, ⟨by omega, by omega⟩, trivial⟩) ?_
                     skip)
                · first
                  | (exfalso; omega; done)
                  | (refine aw_blk oX12_fall_25 (pc' := 27) (ls' := [_, _, _, _, _, _, _]) (st' := [_]) (cs := []) rfl trivial ?_
                     refine aw_iret eX12_fall_27 rfl (Nat.le_refl _) (Nat.le_refl _) ?_
                     exact pe_i rfl rfl rfl))
           · first
             | (exfalso; omega; done)
             | (refine aw_blk oX12_fall_13 (pc' := 15) (ls' := [_, _, _, _, _, _, _]) (st' := [_]) (cs := []) rfl trivial ?_
                refine aw_iret eX12_fall_15 rfl (Nat.le_refl _) (Nat.le_refl _) ?_
                exact pe_i rfl rfl rfl))
      · first
        | (exfalso; omega; done)
        | (refine aw_blk oX12_fall_7 (pc' := 8) (ls' := [_, _, _, _, _, _, _]) (st' := [_]) (cs := []) rfl trivial ?_
           refine aw_iret eX12_fall_8 rfl (Nat.le_refl _) (Nat.le_refl _) ?_
           exact pe_i rfl rfl rfl)

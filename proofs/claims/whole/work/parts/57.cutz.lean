/-! ===== the class's cut of one frame: the contract ===== -/
theorem c_open {κ : KX} {μ : MM} {ν : ML} {f : Int} {w : Int → Int} (h3 : ∀ i : Int, 0 ≤ i → i < 160 → 0 ≤ μ 3 i ∧ μ 3 i ≤ 15) (hf : 0 ≤ f ∧ f < 10) (hw : ∀ b : Int, 0 ≤ b → b < 4 → (0 ≤ w b ∧ w b < 11) ∧ (f = 0 → 9 ≤ w b) ∧ μ 13 b = w b) : AQ κ 2 mX1_open [aR 9, aR 2, aI f] μ ν (fun r μ' ν' => r = none ∧ ν' = ν ∧ SR [4, 6, 7, 8] μ μ' ∧ (∀ x : Int, (x < 4 * f ∨ 4 * f + 4 ≤ x) → μ' 6 x = μ 6 x) ∧ (∀ x : Int, (x < 16 * f ∨ 16 * f + 16 ≤ x) → μ' 4 x = μ 4 x) ∧ (∀ x : Int, x ≠ f → μ' 7 x = μ 7 x ∧ μ' 8 x = μ 8 x) ∧ μ' 7 f = μ 9 7 ∧ μ' 8 f = μ 9 6 ∧ (∀ b : Int, 0 ≤ b → b < 4 → μ' 6 (4 * f + b) = w b) ∧ ∀ b k : Int, 0 ≤ b → b < 4 → 0 ≤ k → k < 4 → μ' 4 (16 * f + dAt b k) = ob (clip μ 3 16 f) (clip μ 4 16 (f - 1)) b k (w b)) := by
  obtain ⟨μ1, hμ1⟩ : ∃ m, m = up (up μ 7 f (μ 9 7)) 8 f (μ 9 6) := ⟨_, rfl⟩
  have e1 : ∀ c, c ≠ 7 → c ≠ 8 → μ1 c = μ c := fun c q1 q2 => by rw [hμ1, up_cell q2, up_cell q1]
  have e3 : μ1 3 = μ 3 := e1 3 (by decide) (by decide)
  have e4 : μ1 4 = μ 4 := e1 4 (by decide) (by decide)
  have c3 : clip μ1 3 16 f = clip μ 3 16 f := clip_congr (fun _ _ _ => by rw [e3])
  have c4 : clip μ1 4 16 (f - 1) = clip μ 4 16 (f - 1) := clip_congr (fun _ _ _ => by rw [e4])
  refine AMet.of kX1_open.1 (Nat.le_of_ble_eq_true rfl) rfl ?_
  refine aw_blk oX1_open_0 (pc' := 22) (ls' := [_, _, _, _, _, _]) (st' := []) (cs := [(_, _), (_, _)]) rfl (⟨⟨by omega, by omega⟩, ⟨by omega, by omega⟩, trivial⟩) ?_
  have em : up (up μ 7 f (μ 9 7)) 8 f (up μ 7 f (μ 9 7) 9 6) = μ1 := by rw [hμ1]; rfl
  rw [em]
  refine l_opB (w := w) (by rw [e3]; exact h3) hf (fun b q0 q1 => by rw [e1 13 (by decide) (by decide)]; exact hw b q0 q1) (fun μ' hO => ?_) 4 0 μ1 _ _ (by omega) (by omega) ⟨SR.rf, fun _ _ => rfl, fun _ _ => rfl, fun b' k' q0 q1 q2 q3 q4 => by omega, fun b' q0 q1 => by omega⟩
  obtain ⟨o1, o2, o3, o4, o5⟩ := hO
  rw [c3, c4] at o4
  have n7 : μ' 7 = μ1 7 := o1 7 (by decide)
  have n8 : μ' 8 = μ1 8 := o1 8 (by decide)
  refine ⟨rfl, rfl, rfl, ?_, ?_, ?_, ?_, ?_, ?_, o5, fun b k q0 q1 q2 q3 => o4 b k q0 q1 q2 q3 (by omega)⟩
  · intro c hc
    rw [o1 c (fun q => hc ((show ∀ c ∈ [4, 6], c ∈ [4, 6, 7, 8] by decide) c q)), e1 c (fun q => hc (by rw [q]; decide)) (fun q => hc (by rw [q]; decide))]
  · intro x hx
    rw [o3 x hx, e1 6 (by decide) (by decide)]
  · intro x hx
    rw [o2 x hx, e4]
  · intro x hx
    rw [n7, n8, hμ1]
    refine ⟨?_, ?_⟩
    · rw [up_c (by decide), up_ne (Or.inr hx)]
    · rw [up_ne (Or.inr hx), up_c (by decide)]
  · rw [n7, hμ1, up_c (by decide), up_at]
  · rw [n8, hμ1, up_at]
theorem c_cutC {κ : KX} {μ : MM} {ν : ML} {f most : Int} (h3 : ∀ i : Int, 0 ≤ i → i < 160 → 0 ≤ μ 3 i ∧ μ 3 i ≤ 15) (h4 : 0 < f → ∀ i : Int, 0 ≤ i → i < 16 → 0 ≤ μ 4 (16 * (f - 1) + i) ∧ μ 4 (16 * (f - 1) + i) ≤ 15) (hf : 0 ≤ f ∧ f < 10) (hk : μ 5 f = 0 ∨ μ 5 f = 1) (hfk : f = 0 → μ 5 f = 1) (hm : 0 ≤ most ∧ most ≤ 80) : AQ κ 11 mX1_cut [aR 9, aR 2, aI f, aI most] μ ν (fun r μ' ν' => r = none ∧ ν' = ν ∧ CX μ μ' f ∧ isCut (clip μ 3 16 f) (clip μ 4 16 (f - 1)) (μ 5 f) most (clip μ' 6 4 f) (μ' 7 f) (μ' 8 f) (clip μ' 4 16 f)) := by
  obtain ⟨pv, hpv⟩ : ∃ pv : Int → Int, pv = if 0 < f then clip μ 4 16 (f - 1) else fun _ => 0 := ⟨_, rfl⟩
  have hdb : ∀ d, 0 ≤ clip μ 3 16 f d ∧ clip μ 3 16 f d ≤ 15 := clip_bd (by decide) (fun d q0 q1 => h3 _ (by omega) (by omega))
  have hpb : ∀ d, 0 ≤ pv d ∧ pv d ≤ 15 := by
    rw [hpv]
    split
    · rename_i q
      exact clip_bd (by decide) (fun d q0 q1 => h4 q d q0 q1)
    · intro d; exact ⟨(by decide : (0 : Int) ≤ 0), (by decide : (0 : Int) ≤ 15)⟩
  generalize hkey : μ 5 f = key at hk hfk
  have elk : lst key = 0 ∧ key = 0 ∨ lst key = 9 ∧ key = 1 := by
    rcases hk with rfl | rfl
    · exact Or.inl ⟨rfl, rfl⟩
    · exact Or.inr ⟨rfl, rfl⟩
  have hob : ∀ b k w : Int, lst key ≤ w → w < 11 → ob (clip μ 3 16 f) (clip μ 4 16 (f - 1)) b k w = ob (clip μ 3 16 f) pv b k w := fun b k w q0 q1 => by
    by_cases f0 : 0 < f
    · rw [hpv, if_pos f0]
    · have := hfk (by omega)
      exact ob9 (by omega)
  have hls : ∀ b w : Int, lst key ≤ w → w < 11 → lss (clip μ 3 16 f) (clip μ 4 16 (f - 1)) b w = lss (clip μ 3 16 f) pv b w := fun b w q0 q1 => by
    unfold lss sqd
    rw [hob b 0 w q0 q1, hob b 1 w q0 q1, hob b 2 w q0 q1, hob b 3 w q0 q1]
  have hlb := lss_bd hdb hpb
  have hlm : 0 ≤ lmt key most ∧ lmt key most ≤ 80 := by
    unfold lmt
    (repeat' split) <;> omega
  have E : ∀ (μa : MM) (u5 u6 : AV) (cN lim : Int), KL μ μa (lss (clip μ 3 16 f) (clip μ 4 16 (f - 1))) key 4 0 → cN = (if key = 1 then 2 else 4) → lim = lmt key most → AX κ mX1_cut 11 (QS (fun r μ' ν' => r = none ∧ ν' = ν ∧ CX μ μ' f ∧ isCut (clip μ 3 16 f) (clip μ 4 16 (f - 1)) key most (clip μ' 6 4 f) (μ' 7 f) (μ' 8 f) (clip μ' 4 16 f))) 119 [aR 9, aR 2, aI f, aI most, aI key, u5, u6] [aI lim, aR 9] (up μa 9 4 cN) ν := fun μa u5 u6 cN lim hK ec el => by
    refine aw_blk oX1_cut_119 (pc' := 138) (ls' := [_, _, _, _, _, _, _]) (st' := [_, _, _, _]) (cs := []) rfl trivial ?_
    obtain ⟨μ0, hμ0⟩ : ∃ m, m = up (up (up (up μa 9 4 cN) 9 5 lim) 9 6 1000000) 9 7 1000000 := ⟨_, rfl⟩
    rw [← hμ0]
    have o0 : ∀ c, c ≠ 9 → μ0 c = μa c := fun c q => by rw [hμ0, up_cell q, up_cell q, up_cell q, up_cell q]
    have m94 : μ0 9 4 = cN := by rw [hμ0]; rfl
    have m95 : μ0 9 5 = lim := by rw [hμ0]; rfl
    have m96 : μ0 9 6 = 1000000 := by rw [hμ0]; rfl
    have m97 : μ0 9 7 = 1000000 := by rw [hμ0]; rfl
    obtain ⟨hLC, hrc, rep, hrep⟩ := LC.of (μ0 := μ0) (most := most) hk hK hls hlb (o0 10 (by decide)) (o0 11 (by decide)) (by rw [m94, ec]) (by rw [m95, el]) hm
    have D0 : DQ (lss (clip μ 3 16 f) pv) (rcM μ0) (μ0 9 5) (vN (fun _ => 0) 0) (μ0 9 7) (μ0 9 6) (μ0 13) := Or.inl ⟨m97, m96, fun a' b' c' d' hq hn => by
      have := hq.bd hLC.rcb
      rw [vN_0] at hn
      unfold qN at hn
      omega⟩
    refine aw_crV (rest := []) (TB_0 hLC (fun _ => 0) μ0 0 0 ⟨SR.rf, rfl, rfl⟩ (fun j q0 q1 => by omega) rfl rfl D0) kX1_tryBlock eX1_cut_138 lX1_cut_138 rfl rfl rfl rfl (Nat.le_of_ble_eq_true rfl) ⟨Nat.le_of_ble_eq_true rfl, Nat.le_of_ble_eq_true rfl⟩ ⟨Nat.le_refl _, Nat.le_refl _⟩ ?_
    intro r μb νb hP
    obtain ⟨rfl, rfl, hSD, -, hDQ⟩ := hP
    have eN : vN (fun _ => 0) 0 + pP 0 = 14641 := rfl
    rw [eN, m95, el] at hDQ
    have F := hDQ.fin rep hrep hrc (by omega) (by
      rcases hk with rfl | rfl
      · refine ⟨4, by decide, by decide, ?_⟩
        have : cbt 4 = 1 := rfl
        unfold lmt
        rw [if_neg (by decide)]
        split <;> omega
      · refine ⟨9, by decide, by decide, ?_⟩
        have : cbt 9 = 5 := rfl
        unfold lmt
        rw [if_pos rfl]
        split <;> omega)
    have ob0 : ∀ c, c ∉ [9, 10, 11, 12, 13] → μb c = μ c := fun c hc => by
      rw [hSD.1 c (fun q => hc ((show ∀ c ∈ [9, 12, 13], c ∈ [9, 10, 11, 12, 13] by decide) c q)), o0 c (fun q => hc (by rw [q]; decide)), hK.1 c (fun q => hc ((show ∀ c ∈ [10, 11], c ∈ [9, 10, 11, 12, 13] by decide) c q))]
    have e3 : μb 3 = μ 3 := ob0 3 (by decide)
    have e4 : μb 4 = μ 4 := ob0 4 (by decide)
    have c3 : clip μb 3 16 f = clip μ 3 16 f := clip_congr (fun _ _ _ => by rw [e3])
    have c4 : clip μb 4 16 (f - 1) = clip μ 4 16 (f - 1) := clip_congr (fun _ _ _ => by rw [e4])
    have hq := F.1.1
    have hwb : ∀ b : Int, 0 ≤ b → b < 4 → lst key ≤ μb 13 b ∧ μb 13 b < 11 := fun b q0 q1 => by
      unfold okQ at hq
      rcases (show b = 0 ∨ b = 1 ∨ b = 2 ∨ b = 3 by omega) with rfl | rfl | rfl | rfl
      · exact hq.1
      · exact hq.2.1
      · exact hq.2.2.1
      · exact hq.2.2.2
    refine aw_blk oX1_cut_141 (pc' := 144) (ls' := [_, _, _, _, _, _, _]) (st' := [_, _, _]) (cs := []) rfl trivial ?_
    refine aw_crV (rest := []) (c_open (w := μb 13) (by rw [e3]; exact h3) hf (fun b q0 q1 => ⟨by have := hwb b q0 q1; omega, fun q => by have := hwb b q0 q1; have := hfk q; omega, rfl⟩)) kX1_open eX1_cut_144 lX1_cut_144 rfl rfl rfl rfl (Nat.le_of_ble_eq_true rfl) ⟨Nat.le_of_ble_eq_true rfl, Nat.le_of_ble_eq_true rfl⟩ ⟨Nat.le_refl _, Nat.le_refl _⟩ ?_
    intro r μ' ν' hP
    obtain ⟨rfl, rfl, p1, p2, p3, p4, p5, p6, p7, p8⟩ := hP
    rw [c3, c4] at p8
    have cw : ∀ b : Int, 0 ≤ b → b < 4 → clip μ' 6 4 f b = μb 13 b := fun b q0 q1 => by rw [clip_in q0 q1]; exact p7 b q0 q1
    refine aw_vret eX1_cut_147 rfl (Nat.le_refl _) (Nat.le_refl _) ?_
    refine ⟨rfl, rfl, rfl, ⟨?_, ?_, ?_, ?_⟩, ⟨?_, ?_, ?_, ?_⟩⟩
    · intro c hc
      rw [p1 c (fun q => hc ((show ∀ c ∈ [4, 6, 7, 8], c ∈ [4, 6, 7, 8, 9, 10, 11, 12, 13] by decide) c q)), ob0 c (fun q => hc ((show ∀ c ∈ [9, 10, 11, 12, 13], c ∈ [4, 6, 7, 8, 9, 10, 11, 12, 13] by decide) c q))]
    · intro x hx
      rw [p2 x hx, ob0 6 (by decide)]
    · intro x hx
      rw [p3 x hx, e4]
    · intro x hx
      rw [(p4 x hx).1, (p4 x hx).2, ob0 7 (by decide), ob0 8 (by decide)]
      exact ⟨rfl, rfl⟩
    · rw [cw 0 (by decide) (by decide), cw 1 (by decide) (by decide), cw 2 (by decide) (by decide), cw 3 (by decide) (by decide)]
      exact F.1.congr (fun x w q0 q1 => (hls x w q0 q1).symm)
    · rw [cw 0 (by decide) (by decide), cw 1 (by decide) (by decide), cw 2 (by decide) (by decide), cw 3 (by decide) (by decide), p5]
      exact F.2.1
    · rw [cw 0 (by decide) (by decide), cw 1 (by decide) (by decide), cw 2 (by decide) (by decide), cw 3 (by decide) (by decide), p6, qL_congr (fun x w q0 q1 => hls x w q0 q1) hq]
      exact F.2.2
    · intro b k q0 q1 q2 q3
      have hd := (sv b k ⟨q0, q1⟩ ⟨q2, q3⟩).2
      rw [clip_in hd.1 hd.2, cw b q0 q1]
      exact p8 b k q0 q1 q2 q3
  have l2 := svl
  have s9 : stv 2 9 = 5 := rfl
  have s4 : stv 2 4 = 1 := rfl
  refine AMet.of kX1_cut.1 (Nat.le_of_ble_eq_true rfl) rfl ?_
  refine aw_blk oX1_cut_0 (pc' := 11) (ls' := [_, _, _, _, _, _, _]) (st' := []) (cs := [(_, _)]) rfl (⟨⟨by omega, by omega⟩, trivial⟩) ?_
  rw [hkey]
  refine l_cutB h3 hf hk hfk h4 (fun μa u5 u6 hK => ?_) 4 0 μ _ (by omega) (by omega) ⟨SR.rf, fun b' w' q0 q1 q2 q3 q4 => by omega, fun b' q0 q1 => by omega⟩
  refine aw_blk oX1_cut_79 (pc' := 82) (ls' := [_, _, _, _, _, _, _]) (st' := [_, _]) (cs := []) rfl trivial ?_
  refine aw_if_eq (tgt := 89) eX1_cut_82 (by decide) (by omega) (fun h1 => ?_) (fun h1 => ?_)
  · refine aw_blk oX1_cut_89 (pc' := 90) (ls' := [_, _, _, _, _, _, _]) (st' := [_, _]) (cs := []) rfl trivial ?_
    refine aw_blk oX1_cut_90 (pc' := 98) (ls' := [_, _, _, _, _, _, _]) (st' := [_, _, _, _]) (cs := []) rfl trivial ?_
    refine aw_if_eq (tgt := 110) eX1_cut_98 (by decide) (by omega) (fun h2 => ?_) (fun h2 => ?_)
    · refine aw_blk oX1_cut_110 (pc' := 115) (ls' := [_, _, _, _, _, _, _]) (st' := [_, _, _, _]) (cs := [(_, _)]) rfl (⟨⟨by omega, by omega⟩, trivial⟩) ?_
      refine aw_blk oX1_cut_115 (pc' := 116) (ls' := [_, _, _, _, _, _, _]) (st' := [_, _, _]) (cs := []) rfl trivial ?_
      refine aw_mmax eX1_cut_116 lX1_cut_116 (by omega) (by omega) (Nat.le_of_ble_eq_true rfl) ⟨Nat.le_of_ble_eq_true rfl, Nat.le_of_ble_eq_true rfl⟩ ⟨Nat.le_refl _, Nat.le_refl _⟩ ?_
      refine E μa _ _ _ _ hK (by rw [if_neg (by omega)]) ?_
      unfold lmt
      rw [if_neg (show ¬ key = 1 by omega), s4]
      (repeat' split) <;> omega
    · exfalso; omega
  · refine aw_blk oX1_cut_85 (pc' := 90) (ls' := [_, _, _, _, _, _, _]) (st' := [_, _]) (cs := []) rfl trivial ?_
    refine aw_blk oX1_cut_90 (pc' := 98) (ls' := [_, _, _, _, _, _, _]) (st' := [_, _, _, _]) (cs := []) rfl trivial ?_
    refine aw_if_eq (tgt := 110) eX1_cut_98 (by decide) (by omega) (fun h2 => ?_) (fun h2 => ?_)
    · exfalso; omega
    · refine aw_blk oX1_cut_101 (pc' := 115) (ls' := [_, _, _, _, _, _, _]) (st' := [_, _, _, _]) (cs := [(_, _)]) rfl (⟨⟨by omega, by omega⟩, trivial⟩) ?_
      refine aw_blk oX1_cut_115 (pc' := 116) (ls' := [_, _, _, _, _, _, _]) (st' := [_, _, _]) (cs := []) rfl trivial ?_
      refine aw_mmax eX1_cut_116 lX1_cut_116 (by omega) (by omega) (Nat.le_of_ble_eq_true rfl) ⟨Nat.le_of_ble_eq_true rfl, Nat.le_of_ble_eq_true rfl⟩ ⟨Nat.le_refl _, Nat.le_refl _⟩ ?_
      refine E μa _ _ _ _ hK (by rw [if_pos (by omega)]) ?_
      unfold lmt
      rw [if_pos (show key = 1 by omega), s9]
      (repeat' split) <;> omega

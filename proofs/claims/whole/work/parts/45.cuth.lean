/-! ===== the reference's cut: the contract ===== -/
theorem ob9 {dt pv pv' : Int → Int} {b k w : Int} (hw : 9 ≤ w ∧ w < 11) : ob dt pv b k w = ob dt pv' b k w := by
  rcases (show w = 9 ∨ w = 10 by omega) with rfl | rfl <;> rfl
theorem lss9 {dt pv pv' : Int → Int} {b w : Int} (hw : 9 ≤ w ∧ w < 11) : lss dt pv b w = lss dt pv' b w := by
  unfold lss sqd
  rw [ob9 (pv' := pv') (k := 0) hw, ob9 (pv' := pv') (k := 1) hw, ob9 (pv' := pv') (k := 2) hw, ob9 (pv' := pv') (k := 3) hw]
theorem qL_congr {l l' : Int → Int → Int} {key a b c d : Int} (h : ∀ x w : Int, lst key ≤ w → w < 11 → l x w = l' x w) (hq : okQ key a b c d) : qL l a b c d = qL l' a b c d := by
  unfold qL
  rw [h 0 a hq.1.1 hq.1.2, h 1 b hq.2.1.1 hq.2.1.2, h 2 c hq.2.2.1.1 hq.2.2.1.2, h 3 d hq.2.2.2.1 hq.2.2.2.2]
theorem isB.congr {l l' : Int → Int → Int} {key most a b c d : Int} (h : ∀ x w : Int, lst key ≤ w → w < 11 → l x w = l' x w) (hB : isB l key most a b c d) : isB l' key most a b c d := by
  obtain ⟨h1, h2, h3⟩ := hB
  refine ⟨h1, h2, fun a' b' c' d' hq hb => ?_⟩
  have := h3 a' b' c' d' hq hb
  rw [qL_congr h h1, qL_congr h hq] at this
  exact this
theorem isCut.pv {dt pv pv' w op : Int → Int} {key most bits loss : Int} (hk : key = 1) (h : isCut dt pv key most w bits loss op) : isCut dt pv' key most w bits loss op := by
  subst hk
  obtain ⟨h1, h2, h3, h4⟩ := h
  have e : ∀ x w : Int, lst 1 ≤ w → w < 11 → lss dt pv x w = lss dt pv' x w := fun x w q0 q1 => lss9 ⟨q0, q1⟩
  refine ⟨h1.congr e, h2, by rw [h3, qL_congr e h1.1], fun b k q0 q1 q2 q3 => ?_⟩
  rw [h4 b k q0 q1 q2 q3]
  have hq := h1.1
  unfold okQ at hq
  have e9 : lst 1 = 9 := rfl
  rw [e9] at hq
  refine ob9 ?_
  rcases (show b = 0 ∨ b = 1 ∨ b = 2 ∨ b = 3 by omega) with rfl | rfl | rfl | rfl
  · exact hq.1
  · exact hq.2.1
  · exact hq.2.2.1
  · exact hq.2.2.2
theorem c_cutFrame {κ : KX} {μ : MM} {ν : ML} {f : Int} (h3 : ∀ i : Int, 0 ≤ i → i < 160 → 0 ≤ μ 56 i ∧ μ 56 i ≤ 15) (h77 : 0 < f → ∀ i : Int, 0 ≤ i → i < 16 → 0 ≤ μ 77 (16 * (f - 1) + i) ∧ μ 77 (16 * (f - 1) + i) ≤ 15) (hf : 0 ≤ f ∧ f < 10) (hk : μ 57 f = 0 ∨ μ 57 f = 1) (hfk : f = 0 → μ 57 f = 1) (hm : 0 ≤ μ 58 0 ∧ μ 58 0 ≤ 80) : AQ κ 2 mX12_cutFrame [aR 55, aI f] μ ν (fun r μ' ν' => r = none ∧ ν' = ν ∧ CM μ μ' f ∧ isCut (clip μ 56 16 f) (clip μ 77 16 (f - 1)) (μ 57 f) (μ 58 0) (clip μ' 76 4 f) (μ' 78 f) (μ' 79 f) (clip μ' 77 16 f)) := by
  obtain ⟨pv, hpv⟩ : ∃ pv : Int → Int, pv = if 0 < f then clip μ 77 16 (f - 1) else fun _ => 0 := ⟨_, rfl⟩
  have hdb : ∀ d, 0 ≤ clip μ 56 16 f d ∧ clip μ 56 16 f d ≤ 15 := clip_bd (by decide) (fun d q0 q1 => h3 _ (by omega) (by omega))
  have hpb : ∀ d, 0 ≤ pv d ∧ pv d ≤ 15 := by
    rw [hpv]
    split
    · rename_i q
      exact clip_bd (by decide) (fun d q0 q1 => h77 q d q0 q1)
    · intro d; exact ⟨(by decide : (0 : Int) ≤ 0), (by decide : (0 : Int) ≤ 15)⟩
  generalize hkey : μ 57 f = key at hk hfk
  have elk : lst key = 0 ∧ key = 0 ∨ lst key = 9 ∧ key = 1 := by
    rcases hk with rfl | rfl
    · exact Or.inl ⟨rfl, rfl⟩
    · exact Or.inr ⟨rfl, rfl⟩
  have hob : ∀ b k w : Int, lst key ≤ w → w < 11 → ob (clip μ 56 16 f) (clip μ 77 16 (f - 1)) b k w = ob (clip μ 56 16 f) pv b k w := fun b k w q0 q1 => by
    by_cases f0 : 0 < f
    · rw [hpv, if_pos f0]
    · have := hfk (by omega)
      exact ob9 (by omega)
  have hls : ∀ b w : Int, lst key ≤ w → w < 11 → lss (clip μ 56 16 f) (clip μ 77 16 (f - 1)) b w = lss (clip μ 56 16 f) pv b w := fun b w q0 q1 => by
    unfold lss sqd
    rw [hob b 0 w q0 q1, hob b 1 w q0 q1, hob b 2 w q0 q1, hob b 3 w q0 q1]
  have hlb := lss_bd hdb hpb
  have E15 : AX κ mX12_cutFrame 2 (QS (fun r μ' ν' => r = none ∧ ν' = ν ∧ CM μ μ' f ∧ isCut (clip μ 56 16 f) (clip μ 77 16 (f - 1)) key (μ 58 0) (clip μ' 76 4 f) (μ' 78 f) (μ' 79 f) (clip μ' 77 16 f))) 15 [aR 55, aI f, aU, aU, aU, aU, aU, aU, aU, aU, aU, aU, aU, aU, aU] [aI (lst key)] μ ν := by
    refine aw_blk oX12_cutFrame_15 (pc' := 18) (ls' := [_, _, _, _, _, _, _, _, _, _, _, _, _, _, _]) (st' := []) (cs := []) rfl trivial ?_
    refine l_lossB h3 hf hk hfk (fun μa u3 u4 u5 u6 u7 u8 u9 u10 u11 u12 u13 u14 hSa hLa => ?_) 4 0 μ _ _ _ _ _ _ _ _ _ _ _ (by omega) (by omega) SR.rf (fun b' w' q0 q1 q2 q3 q4 => by omega)
    have hLa' : LF μa (lss (clip μ 56 16 f) pv) key 4 0 := fun b' w' q0 q1 q2 q3 q4 => by
      rw [hLa b' w' q0 q1 q2 q3 q4]
      exact hls b' w' q1 q2
    refine aw_blk oX12_cutFrame_116 (pc' := 129) (ls' := [_, _, _, _, _, _, _, _, _, _, _, _, _, _, _]) (st' := []) (cs := []) rfl trivial ?_
    refine l_qa (most := μ 58 0) hf ⟨by rw [hSa 58 (by decide)], by omega⟩ hLa' hlb (by omega) (fun B L F μb u6 u7 u8 u9 u10 u11 u12 u13 u14 hQ hI => ?_) (11 - lst key).toNat (lst key) 1000000 1000000 0 μa _ _ _ _ _ _ _ _ (by omega) (by omega) ⟨SR.rf, fun _ _ => rfl⟩ (Or.inl ⟨rfl, rfl, rfl, fun a' b' c' d' hq hn => ?_⟩)
    · have D := hI.done hk
      have hq := D.1.1
      have hqb := okQ_bd hq
      have hbb := hI.bd hlb
      obtain ⟨w, ew⟩ : ∃ w : Int → Int, w = fun j => μb 76 (4 * f + j) := ⟨_, rfl⟩
      have eb : ∀ b : Int, 0 ≤ b → b < 4 → lst key ≤ w b ∧ w b < 11 := fun b q0 q1 => by
        rw [ew]
        unfold okQ at hq
        rcases (show b = 0 ∨ b = 1 ∨ b = 2 ∨ b = 3 by omega) with rfl | rfl | rfl | rfl
        · exact hq.1
        · exact hq.2.1
        · exact hq.2.2.1
        · exact hq.2.2.2
      refine aw_blk oX12_cutFrame_413 (pc' := 431) (ls' := [_, _, _, _, _, _, _, _, _, _, _, _, _, _, _]) (st' := []) (cs := [(_, _), (_, _)]) rfl (⟨⟨by omega, by omega⟩, ⟨by omega, by omega⟩, trivial⟩) ?_
      obtain ⟨μc, hμc⟩ : ∃ m, m = up (up μb 78 f B) 79 f L := ⟨_, rfl⟩
      rw [← hμc]
      have ec : ∀ c, c ≠ 78 → c ≠ 79 → c ≠ 76 → c ≠ 80 → μc c = μ c := fun c q1 q2 q3 q4 => by
        rw [hμc, up_cell q2, up_cell q1, hQ.1 c (fun q => q3 (List.mem_singleton.mp q)), hSa c (fun q => q4 (List.mem_singleton.mp q))]
      have e56 : μc 56 = μ 56 := ec 56 (by decide) (by decide) (by decide) (by decide)
      have e77 : μc 77 = μ 77 := ec 77 (by decide) (by decide) (by decide) (by decide)
      have e76 : μc 76 = μb 76 := by rw [hμc]; rfl
      have c56 : clip μc 56 16 f = clip μ 56 16 f := clip_congr (fun _ _ _ => by rw [e56])
      have c77 : clip μc 77 16 (f - 1) = clip μ 77 16 (f - 1) := clip_congr (fun _ _ _ => by rw [e77])
      refine l_openB (w := w) (by rw [e56]; exact h3) hf (fun b q0 q1 => ⟨?_, ?_, ?_⟩) (fun μ' hO => ?_) 4 0 μc _ _ _ _ _ _ _ _ (by omega) (by omega) ⟨SR.rf, fun _ _ => rfl, fun b' k' q0 q1 q2 q3 q4 => by omega⟩
      · have := eb b q0 q1
        omega
      · intro f0
        have := eb b q0 q1
        have := hfk f0
        omega
      · rw [e76, ew]
      · have o : ∀ c, c ≠ 77 → μ' c = μc c := fun c q => hO.1 c (fun h => q (List.mem_singleton.mp h))
        have m76 : ∀ x : Int, μ' 76 x = μb 76 x := fun x => by rw [o 76 (by decide), e76]
        have m78 : μ' 78 f = B := by rw [o 78 (by decide), hμc, up_c (by decide), up_at]
        have m79 : μ' 79 f = L := by rw [o 79 (by decide), hμc, up_at]
        have cw : ∀ b : Int, 0 ≤ b → b < 4 → clip μ' 76 4 f b = w b := fun b q0 q1 => by rw [clip_in q0 q1, m76, ew]
        refine ⟨rfl, rfl, rfl, ⟨?_, ?_, ?_, ?_⟩, ⟨?_, ?_, ?_, ?_⟩⟩
        · intro c hc
          have q : c ≠ 76 ∧ c ≠ 77 ∧ c ≠ 78 ∧ c ≠ 79 ∧ c ≠ 80 := ⟨fun e => hc (by rw [e]; decide), fun e => hc (by rw [e]; decide), fun e => hc (by rw [e]; decide), fun e => hc (by rw [e]; decide), fun e => hc (by rw [e]; decide)⟩
          rw [o c q.2.1, ec c q.2.2.1 q.2.2.2.1 q.1 q.2.2.2.2]
        · intro x hx
          rw [m76, hQ.2 x hx, hSa 76 (by decide)]
        · intro x hx
          rw [hO.2.1 x hx, e77]
        · intro x hx
          refine ⟨?_, ?_⟩
          · rw [o 78 (by decide), hμc, up_c (by decide), up_ne (Or.inr hx), hQ.1 78 (by decide), hSa 78 (by decide)]
          · rw [o 79 (by decide), hμc, up_ne (Or.inr hx), up_c (by decide), hQ.1 79 (by decide), hSa 79 (by decide)]
        · rw [cw 0 (by decide) (by decide), cw 1 (by decide) (by decide), cw 2 (by decide) (by decide), cw 3 (by decide) (by decide)]
          have := D.1.congr (fun x w q0 q1 => (hls x w q0 q1).symm)
          rw [ew]
          exact this
        · rw [cw 0 (by decide) (by decide), cw 1 (by decide) (by decide), cw 2 (by decide) (by decide), cw 3 (by decide) (by decide), m78, ew]
          exact D.2.1
        · rw [cw 0 (by decide) (by decide), cw 1 (by decide) (by decide), cw 2 (by decide) (by decide), cw 3 (by decide) (by decide), m79, ew, qL_congr (fun x w q0 q1 => hls x w q0 q1) hq]
          exact D.2.2
        · intro b k q0 q1 q2 q3
          have hd := (sv b k ⟨q0, q1⟩ ⟨q2, q3⟩).2
          rw [clip_in hd.1 hd.2, cw b q0 q1]
          have := hO.2.2 b k q0 q1 q2 q3 (by omega)
          rw [this]
          show ob (clip μc 56 16 f) (clip μc 77 16 (f - 1)) b k (w b) = _
          rw [c56, c77]
    · have := okQ_bd hq
      unfold okQ at hq
      unfold qN at hn
      omega
  refine AMet.of kX12_cutFrame.1 (Nat.le_of_ble_eq_true rfl) rfl ?_
  refine aw_blk oX12_cutFrame_0 (pc' := 6) (ls' := [_, _, _, _, _, _, _, _, _, _, _, _, _, _, _]) (st' := [_]) (cs := [(_, _)]) rfl (⟨⟨by omega, by omega⟩, trivial⟩) ?_
  rw [hkey]
  refine aw_if_eq (tgt := 14) eX12_cutFrame_6 (by decide) (by omega) (fun h1 => ?_) (fun h1 => ?_)
  · refine aw_blk oX12_cutFrame_14 (pc' := 15) (ls' := [_, _, _, _, _, _, _, _, _, _, _, _, _, _, _]) (st' := [_]) (cs := []) rfl trivial ?_
    have e : lst key = 0 := by omega
    rw [e] at E15
    exact E15
  · refine aw_blk oX12_cutFrame_9 (pc' := 15) (ls' := [_, _, _, _, _, _, _, _, _, _, _, _, _, _, _]) (st' := [_]) (cs := []) rfl trivial ?_
    have e : lst key = 9 := by omega
    rw [e] at E15
    exact E15

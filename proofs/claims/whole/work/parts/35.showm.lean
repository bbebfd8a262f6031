/-! ===== the reference's show ===== -/
def SM (μ0 μ : MM) : Prop := SR [55, 81] μ0 μ ∧ SF [31, 32, 33, 34] μ0 μ
theorem SM.rf {μ : MM} : SM μ μ := ⟨SR.rf, fun _ _ => rfl⟩
theorem SM.p81 {μ0 μ : MM} {i v : Int} (h : SM μ0 μ) : SM μ0 (up μ 81 i v) := ⟨h.1.put (by decide), fun j hj => by rw [up_c (by decide)]; exact h.2 j hj⟩
theorem SM.p55 {μ0 μ : MM} {i v : Int} (h : SM μ0 μ) (hi : i ∈ ([31, 32, 33, 34] : List Int)) : SM μ0 (up μ 55 i v) := ⟨h.1.put (by decide), fun j hj => by
  rw [up_ne (Or.inr (fun e => hj (by rw [e]; exact hi)))]
  exact h.2 j hj⟩
def eM (μ : MM) (W : WS) : Prop := μ 55 31 = W.seen ∧ μ 55 32 = W.still ∧ μ 55 33 = W.sum ∧ μ 55 34 = W.last ∧ ∀ i : Int, 0 ≤ i → i < 8 → μ 81 i = W.row i
def NW (now : Int) (W : WS) : Prop := (W.miss = 0 ∧ now = nowOf W) ∨ (W.miss ≠ 0 ∧ now = W.row W.whole)
theorem NW.bd {D : FD} {now : Int} {W : WS} (h : NW now W) (hW : WI D W) : 0 ≤ now ∧ now ≤ 2 := by
  rcases h with ⟨_, e⟩ | ⟨a, e⟩
  · rw [e]; exact hW.now
  · rw [e]
    rcases hW.2.2.2.2 with ⟨q, -⟩ | ⟨-, -, q⟩
    · exact absurd q a
    · exact q
abbrev PM (ν : ML) (μ0 : MM) (W : WS) : Option AV → MM → ML → Prop := fun r μ' ν' => r = none ∧ ν' = ν ∧ SM μ0 μ' ∧ eM μ' W
def MD (μ0 : MM) (D : FD) : Prop := D.ok ∧ (∀ t : Int, 0 ≤ t → t < 60 → μ0 60 t = D.line t) ∧ (∀ i : Int, 0 ≤ i → i < 24 → μ0 59 i = D.bits i) ∧ μ0 55 4 = D.cnt ∧ μ0 58 2 = D.start
/-- a size is chosen -/
def CHO (κ : KX) (ν : ML) (μ0 : MM) (D : FD) (b : Int) : Prop := ∀ (P : Option AV → List SH → MM → ML → Prop) (μ : MM) (W : WS) (bg t left : Int) (u8 : AV), SM μ0 μ → eM μ W → WI D W → W.miss = 0 → W.whole < D.cnt → 0 ≤ t → t < 60 → (∀ u8' : AV, AX κ mX12_run 2 P 176 [aR 55, aI b, aI (nowOf W), aI W.whole, aI 0, aI bg, aI t, aI left, u8'] [aI (D.ch W.whole W.seen t (nowOf W))] μ ν) → AX κ mX12_run 2 P 101 [aR 55, aI b, aI (nowOf W), aI W.whole, aI 0, aI bg, aI t, aI left, u8] [] μ ν
theorem cho_show {κ : KX} {μ0 : MM} {ν : ML} (h : FS μ0) : CHO κ ν μ0 (fdS μ0) 1 := by
  intro P μ W bg t left u8 hS hE hW hm hw h0 h1 K
  obtain ⟨⟨f1, f2, f3, f4⟩, ra, f5⟩ := id h
  obtain ⟨⟨a1, a2, a3⟩, b, c, d, e⟩ := id hW
  obtain ⟨c1, c2, c3, c4, c7⟩ := id hE
  have hn := hW.now
  have ecnt : (fdS μ0).cnt = μ0 14 2 := rfl
  have e6 : μ 55 6 = μ0 14 3 := by rw [hS.2 6 (by decide)]; exact f2.1
  have ra' : RA μ := ra.fr ⟨by rw [hS.1 17 (by decide)], by rw [hS.1 17 (by decide)]⟩ (hS.1 19 (by decide)) (hS.1 20 (by decide)) (hS.1 21 (by decide)) (hS.1 22 (by decide)) (hS.1 62 (by decide)) (hS.2 10 (by decide))
  have e60 : μ 60 = μ0 60 := hS.1 60 (by decide)
  have hpk : ∀ w l z k : Int, pk μ w l z k (μ 17 6).toNat 0 = pk μ0 w l z k (μ0 17 6).toNat 0 := fun w l z k => by
    rw [hS.1 17 (by decide)]
    exact pk_congr (by rw [hS.1 17 (by decide)]) (hS.1 19 (by decide)) (hS.1 20 (by decide)) (hS.1 21 (by decide)) (hS.1 22 (by decide)) _ _
  generalize nowOf W = now at hn K ⊢
  have E167 : ∀ (la : Int) (u8 : Int), dor (μ0 14 3) W.whole → la = (if t = 0 then 0 else μ0 15 (t - 1)) → AX κ mX12_run 2 P 167 [aR 55, aI 1, aI now, aI W.whole, aI 0, aI bg, aI t, aI left, aI u8] [aI la, aI (W.whole - μ 55 31), aR 55] μ ν := fun la u8 dd el => by
    have hla : R32 la := by
      rw [el]
      split
      · decide
      · have := (f4 (t - 1) (by omega) (by omega)).2
        omega
    rw [c1]
    refine aw_blk oX12_run_167 (pc' := 169) (ls' := [_, _, _, _, _, _, _, _, _]) (st' := [_, _, _, _, _]) (cs := []) rfl trivial ?_
    refine aw_ciV (rest := []) (c_pickM ra' (by omega) hla (by omega) (by omega)) kX12_pick eX12_run_169 lX12_run_169 rfl rfl rfl rfl (Nat.le_of_ble_eq_true rfl) ⟨Nat.le_of_ble_eq_true rfl, Nat.le_of_ble_eq_true rfl⟩ ⟨Nat.le_refl _, Nat.le_refl _⟩ ?_
    refine aw_blk oX12_run_172 (pc' := 176) (ls' := [_, _, _, _, _, _, _, _, _]) (st' := [_]) (cs := []) rfl trivial ?_
    rw [hpk]
    have := K (aI u8)
    rw [fs_ch, if_pos dd, ← el] at this
    exact this
  have E122 : ∀ z : Int, z = (if dor (μ0 14 3) W.whole then 1 else 0) → ∀ u8 : AV, AX κ mX12_run 2 P 122 [aR 55, aI 1, aI now, aI W.whole, aI 0, aI bg, aI t, aI left, u8] [aI z] μ ν := fun z ez u8 => by
    by_cases dd : dor (μ0 14 3) W.whole
    · rw [if_pos dd] at ez
      subst ez
      refine aw_blk oX12_run_122 (pc' := 125) (ls' := [_, _, _, _, _, _, _, _, _]) (st' := [_]) (cs := []) rfl trivial ?_
      refine aw_if_ne (tgt := 137) eX12_run_125 (by decide) (by omega) (fun h2 => ?_) (fun h2 => ?_)
      · refine aw_blk oX12_run_137 (pc' := 139) (ls' := [_, _, _, _, _, _, _, _, _]) (st' := [_]) (cs := []) rfl trivial ?_
        refine aw_if_eq (tgt := 175) eX12_run_139 (by decide) (by omega) (fun h3 => ?_) (fun h3 => ?_)
        · exfalso; omega
        · refine aw_blk oX12_run_142 (pc' := 151) (ls' := [_, _, _, _, _, _, _, _, _]) (st' := [_, _, _]) (cs := []) rfl trivial ?_
          refine aw_if_ne (tgt := 158) eX12_run_151 (by decide) (by omega) (fun h4 => ?_) (fun h4 => ?_)
          · refine aw_blk oX12_run_158 (pc' := 167) (ls' := [_, _, _, _, _, _, _, _, _]) (st' := [_, _, _]) (cs := [(_, _)]) rfl (⟨⟨by omega, by omega⟩, trivial⟩) ?_
            refine E167 _ _ dd ?_
            rw [if_neg h4, e60]
            exact (f4 (t - 1) (by omega) (by omega)).1
          · refine aw_blk oX12_run_154 (pc' := 167) (ls' := [_, _, _, _, _, _, _, _, _]) (st' := [_, _, _]) (cs := []) rfl trivial ?_
            refine E167 _ _ dd ?_
            rw [if_pos h4]
      · exfalso; omega
    · rw [if_neg dd] at ez
      subst ez
      refine aw_blk oX12_run_122 (pc' := 125) (ls' := [_, _, _, _, _, _, _, _, _]) (st' := [_]) (cs := []) rfl trivial ?_
      refine aw_if_ne (tgt := 137) eX12_run_125 (by decide) (by omega) (fun h2 => ?_) (fun h2 => ?_)
      · refine aw_blk oX12_run_137 (pc' := 139) (ls' := [_, _, _, _, _, _, _, _, _]) (st' := [_]) (cs := []) rfl trivial ?_
        refine aw_if_eq (tgt := 175) eX12_run_139 (by decide) (by omega) (fun h3 => ?_) (fun h3 => ?_)
        · refine aw_blk oX12_run_175 (pc' := 176) (ls' := [_, _, _, _, _, _, _, _, _]) (st' := [_]) (cs := []) rfl trivial ?_
          have := K (aI 0)
          rw [fs_ch, if_neg dd] at this
          exact this
        · exfalso; omega
      · exfalso; omega
  refine aw_blk oX12_run_101 (pc' := 102) (ls' := [_, _, _, _, _, _, _, _, _]) (st' := [_]) (cs := []) rfl trivial ?_
  refine aw_if_eq (tgt := 117) eX12_run_102 (by decide) (by omega) (fun h2 => ?_) (fun h2 => ?_)
  · refine aw_blk oX12_run_117 (pc' := 122) (ls' := [_, _, _, _, _, _, _, _, _]) (st' := [_]) (cs := []) rfl trivial ?_
    exact E122 _ (by rw [if_pos (Or.inl h2)]) _
  · refine aw_blk oX12_run_105 (pc' := 114) (ls' := [_, _, _, _, _, _, _, _, _]) (st' := [_, _]) (cs := []) rfl trivial ?_
    rw [e6]
    refine aw_icmp_ne (tgt := 121) eX12_run_114 (by decide) (by first | exact bitk_R (μ0 14 3) W.whole | omega) (by first | exact bitk_R (μ0 14 3) W.whole | omega) (fun h3 => ?_) (fun h3 => ?_)
    · refine aw_blk oX12_run_121 (pc' := 122) (ls' := [_, _, _, _, _, _, _, _, _]) (st' := [_]) (cs := []) rfl trivial ?_
      refine E122 _ ?_ _
      rw [if_neg (fun q => ?_)]
      rcases q with q | q
      · exact h2 q
      · exact h3 q
    · refine aw_blk oX12_run_117 (pc' := 122) (ls' := [_, _, _, _, _, _, _, _, _]) (st' := [_]) (cs := []) rfl trivial ?_
      refine E122 _ ?_ _
      rw [if_pos (Or.inr ?_)]
      exact h3
theorem l_whileM {κ : KX} {μ0 : MM} {ν : ML} {D : FD} {b : Int} {P : Option AV → List SH → MM → ML → Prop} {bg t : Int} (hM : MD μ0 D) (hC : CHO κ ν μ0 D b) (h0 : 0 ≤ t) (h1 : t < 60) (n : Nat) : ∀ (left now : Int) (W : WS) (u8 : AV) (μ : MM), SM μ0 μ → eM μ W → WI D W → NW now W → (left = 0 ∨ D.cnt ≤ W.whole + n) → 0 ≤ left → left ≤ 1000 → (∀ (now' l' : Int) (μ' : MM) (u8' : AV), NW now' (lod D t n left W) → SM μ0 μ' → eM μ' (lod D t n left W) → AX κ mX12_run 2 P 242 [aR 55, aI b, aI now', aI (lod D t n left W).whole, aI (lod D t n left W).miss, aI bg, aI t, aI l', u8'] [] μ' ν) → AX κ mX12_run 2 P 83 [aR 55, aI b, aI now, aI W.whole, aI W.miss, aI bg, aI t, aI left, u8] [] μ ν := by
  obtain ⟨hD, hln, hbt, hcn, hst⟩ := id hM
  have o1 := hD.1
  induction n with
  | zero =>
    intro left now W u8 μ hS hE hW hN hf l0 l1 K
    have e4 : μ 55 4 = D.cnt := by rw [hS.2 4 (by decide)]; exact hcn
    have a := hW.1
    refine aw_blk oX12_run_83 (pc' := 85) (ls' := [_, _, _, _, _, _, _, _, _]) (st' := [_]) (cs := []) rfl trivial ?_
    refine aw_if_le (tgt := 242) eX12_run_85 (by decide) (by omega) (fun h2 => ?_) (fun h2 => ?_)
    · exact K now left μ u8 hN hS hE
    · refine aw_blk oX12_run_88 (pc' := 93) (ls' := [_, _, _, _, _, _, _, _, _]) (st' := [_, _]) (cs := []) rfl trivial ?_
      refine aw_icmp_ge (tgt := 242) eX12_run_93 (by decide) (by omega) (by omega) (fun h3 => ?_) (fun h3 => ?_)
      · exact K now left μ u8 hN hS hE
      · exfalso; omega
  | succ n ih =>
    intro left now W u8 μ hS hE hW hN hf l0 l1 K
    have e4 : μ 55 4 = D.cnt := by rw [hS.2 4 (by decide)]; exact hcn
    obtain ⟨⟨a1, a2, a3⟩, ba, c, d, e⟩ := id hW
    by_cases go : 0 < left ∧ W.whole < D.cnt
    · have el : lod D t (n + 1) left W = lod D t n (left - mn left (bgnQ D t W).miss) (tkn left (bgnQ D t W)) := by rw [lod, if_pos go]
      rw [el] at K
      have B := WI_bgnQ hD hW ⟨h0, h1⟩ go.2
      have S := bgnQ_same (D := D) (W := W) (t := t)
      have E196 : ∀ (μ : MM) (V : WS) (now : Int) (u8 : AV), SM μ0 μ → eM μ V → V = bgnQ D t W → now = V.row V.whole → AX κ mX12_run 2 P 196 [aR 55, aI b, aI now, aI W.whole, aI V.miss, aI bg, aI t, aI left, u8] [] μ ν := fun μ V now u8 hS hE eV hnow => by
        rw [← eV] at B S K
        have hV := B.1.2.1
        have hT := WI_tkn hD B.1 B.2 go.1
        have q := mn_sp left V.miss
        have e5 : 0 ≤ V.row V.whole ∧ V.row V.whole ≤ 2 := by
          rcases B.1.2.2.2.2 with ⟨q, -⟩ | ⟨-, -, q⟩
          · have := B.2; omega
          · exact q
        have E210 : ∀ (x : Int) (u8 : AV), x = mn left V.miss → AX κ mX12_run 2 P 210 [aR 55, aI b, aI now, aI W.whole, aI V.miss, aI bg, aI t, aI left, u8] [aI x] μ ν := fun x u8 ex => by
          rw [← ex] at q
          have tm : (tkn left V).miss = V.miss - x := by rw [ex]; rfl
          have ht : eM μ (tkn left V) := hE
          rw [← ex] at K
          refine aw_blk oX12_run_210 (pc' := 229) (ls' := [_, _, _, _, _, _, _, _, _]) (st' := [_, _]) (cs := []) rfl trivial ?_
          refine aw_if_ne (tgt := 236) eX12_run_229 (by decide) (by omega) (fun h5 => ?_) (fun h5 => ?_)
          · have tw : (tkn left V).whole = W.whole := by
              rw [← S.1]
              show (if V.miss - mn left V.miss = 0 then V.whole + 1 else V.whole) = V.whole
              rw [← ex, if_neg h5]
            have nw : NW now (tkn left V) := Or.inr ⟨by rw [tm]; exact h5, by rw [hnow, tw, ← S.1]; rfl⟩
            have T := ih (left - x) now (tkn left V) (aI x) μ hS ht hT nw (Or.inl (by omega)) (by omega) (by omega) K
            rw [tw, tm] at T
            refine aw_blk oX12_run_236 (pc' := 237) (ls' := [_, _, _, _, _, _, _, _, _]) (st' := [_, _]) (cs := []) rfl trivial ?_
            refine aw_blk oX12_run_237 (pc' := 83) (ls' := [_, _, _, _, _, _, _, _, _]) (st' := []) (cs := []) rfl trivial ?_
            rw [show W.whole + 0 = W.whole by omega]
            exact T
          · have tw : (tkn left V).whole = W.whole + 1 := by
              rw [← S.1]
              show (if V.miss - mn left V.miss = 0 then V.whole + 1 else V.whole) = V.whole + 1
              rw [← ex, if_pos h5]
            have nw : NW now (tkn left V) := Or.inl ⟨by rw [tm]; exact h5, by
              unfold nowOf
              rw [tw, if_pos (by omega), hnow, S.1, show W.whole + 1 - 1 = W.whole by omega]
              rfl⟩
            have T := ih (left - x) now (tkn left V) (aI x) μ hS ht hT nw (Or.inr (by rw [tw]; omega)) (by omega) (by omega) K
            rw [tw, tm] at T
            refine aw_blk oX12_run_232 (pc' := 237) (ls' := [_, _, _, _, _, _, _, _, _]) (st' := [_, _]) (cs := []) rfl trivial ?_
            refine aw_blk oX12_run_237 (pc' := 83) (ls' := [_, _, _, _, _, _, _, _, _]) (st' := []) (cs := []) rfl trivial ?_
            exact T
        refine aw_blk oX12_run_196 (pc' := 200) (ls' := [_, _, _, _, _, _, _, _, _]) (st' := [_, _]) (cs := []) rfl trivial ?_
        refine aw_icmp_ge (tgt := 208) eX12_run_200 (by decide) (by omega) (by omega) (fun h4 => ?_) (fun h4 => ?_)
        · refine aw_blk oX12_run_208 (pc' := 210) (ls' := [_, _, _, _, _, _, _, _, _]) (st' := [_]) (cs := []) rfl trivial ?_
          exact E210 _ _ (by omega)
        · refine aw_blk oX12_run_203 (pc' := 210) (ls' := [_, _, _, _, _, _, _, _, _]) (st' := [_]) (cs := []) rfl trivial ?_
          exact E210 _ _ (by omega)
      refine aw_blk oX12_run_83 (pc' := 85) (ls' := [_, _, _, _, _, _, _, _, _]) (st' := [_]) (cs := []) rfl trivial ?_
      refine aw_if_le (tgt := 242) eX12_run_85 (by decide) (by omega) (fun h2 => ?_) (fun h2 => ?_)
      · exfalso; omega
      · refine aw_blk oX12_run_88 (pc' := 93) (ls' := [_, _, _, _, _, _, _, _, _]) (st' := [_, _]) (cs := []) rfl trivial ?_
        refine aw_icmp_ge (tgt := 242) eX12_run_93 (by decide) (by omega) (by omega) (fun h3 => ?_) (fun h3 => ?_)
        · exfalso; omega
        · refine aw_blk oX12_run_96 (pc' := 98) (ls' := [_, _, _, _, _, _, _, _, _]) (st' := [_]) (cs := []) rfl trivial ?_
          refine aw_if_ne (tgt := 196) eX12_run_98 (by decide) (by omega) (fun h4 => ?_) (fun h4 => ?_)
          · refine E196 μ W now _ hS hE (by unfold bgnQ; rw [if_neg h4]) ?_
            rcases hN with ⟨q, -⟩ | ⟨-, q⟩
            · exact absurd q h4
            · exact q
          · have en : now = nowOf W := by
              rcases hN with ⟨-, q⟩ | ⟨q, -⟩
              · exact q
              · exact absurd h4 q
            have Bs := WI_bgn hD hW ⟨h0, h1⟩ go.2 h4
            rw [en, h4]
            refine hC P μ W bg t left _ hS hE hW h4 go.2 h0 h1 (fun u8' => ?_)
            have e59 : μ 59 = μ0 59 := hS.1 59 (by decide)
            have eb := hbt (W.whole * 3 + D.ch W.whole W.seen t (nowOf W)) (by omega) (by omega)
            have ebq : bgnQ D t W = bgn D t W := by unfold bgnQ; rw [if_pos h4]
            have hs := Bs.2.2
            generalize hss : D.ch W.whole W.seen t (nowOf W) = s at eb hs ⊢
            refine aw_blk oX12_run_176 (pc' := 196) (ls' := [_, _, _, _, _, _, _, _, _]) (st' := []) (cs := [(_, _), (_, _)]) rfl (⟨⟨by omega, by omega⟩, ⟨by omega, by omega⟩, trivial⟩) ?_
            have em : up μ 81 W.whole s 59 (3 * W.whole + s) = (bgn D t W).miss := by
              show _ = D.bits (W.whole * 3 + D.ch W.whole W.seen t (nowOf W))
              rw [hss, up_c (by decide), e59, show 3 * W.whole + s = W.whole * 3 + s by omega]
              exact eb
            rw [em]
            refine E196 _ (bgn D t W) s u8' hS.p81 ⟨hE.1, hE.2.1, hE.2.2.1, hE.2.2.2.1, ?_⟩ ebq.symm ?_
            · intro i q0 q1
              show up μ 81 W.whole s 81 i = rowU W.row W.whole (D.ch W.whole W.seen t (nowOf W)) i
              rw [hss]
              by_cases q : i = W.whole
              · rw [q, up_at, rowU_at]
              · rw [up_ne (Or.inr q), rowU_ne q]; exact hE.2.2.2.2 i q0 q1
            · show s = rowU W.row W.whole (D.ch W.whole W.seen t (nowOf W)) W.whole
              rw [rowU_at, hss]
    · rw [lod_stop go] at K
      refine aw_blk oX12_run_83 (pc' := 85) (ls' := [_, _, _, _, _, _, _, _, _]) (st' := [_]) (cs := []) rfl trivial ?_
      refine aw_if_le (tgt := 242) eX12_run_85 (by decide) (by omega) (fun h2 => ?_) (fun h2 => ?_)
      · exact K now left μ u8 hN hS hE
      · refine aw_blk oX12_run_88 (pc' := 93) (ls' := [_, _, _, _, _, _, _, _, _]) (st' := [_, _]) (cs := []) rfl trivial ?_
        refine aw_icmp_ge (tgt := 242) eX12_run_93 (by decide) (by omega) (by omega) (fun h3 => ?_) (fun h3 => ?_)
        · exact K now left μ u8 hN hS hE
        · exfalso; omega
theorem s_run242 {κ : KX} {μ0 : MM} {ν : ML} {D : FD} {b : Int} {P : Option AV → List SH → MM → ML → Prop} {bg t now l' : Int} {W : WS} {u8 : AV} {μ : MM} (hM : MD μ0 D) (h0 : 0 ≤ t) (h1 : t < 60) (hS : SM μ0 μ) (hE : eM μ W) (hW : WI D W) (hB : WB D t W) (hs : W.seen < D.cnt) (hbg : bg = 0 ∨ (bg = 1 ∧ mn D.start D.cnt ≤ W.whole)) (K : ∀ (bg' : Int) (μ' : MM), (bg' = 0 ∨ (bg' = 1 ∧ mn D.start D.cnt ≤ W.whole)) → SM μ0 μ' → eM μ' (wtc D t W) → AX κ mX12_run 2 P 353 [aR 55, aI b, aI now, aI W.whole, aI W.miss, aI bg', aI t, aI l', u8] [] μ' ν) : AX κ mX12_run 2 P 242 [aR 55, aI b, aI now, aI W.whole, aI W.miss, aI bg, aI t, aI l', u8] [] μ ν := by
  obtain ⟨hD, hln, hbt, hcn, hst⟩ := id hM
  have o1 := hD.1
  have o2 := hD.2.1
  have q := mn_sp D.start D.cnt
  have e4 : μ 55 4 = D.cnt := by rw [hS.2 4 (by decide)]; exact hcn
  have e58 : μ 58 2 = D.start := by rw [hS.1 58 (by decide)]; exact hst
  obtain ⟨⟨a1, a2, a3⟩, ba, c, d, e⟩ := id hW
  obtain ⟨c1, c2, c3, c4, c7⟩ := id hE
  have E270 : ∀ z : Int, ((z = 1 ∧ mn D.start D.cnt ≤ W.whole) ∨ (z = 0 ∧ ¬ mn D.start D.cnt ≤ W.whole)) → ∀ bg : Int, AX κ mX12_run 2 P 270 [aR 55, aI b, aI now, aI W.whole, aI W.miss, aI bg, aI t, aI l', u8] [aI z] μ ν := fun z ez bg => by
    rcases ez with ⟨rfl, ez⟩ | ⟨rfl, ez⟩
    · have K1 := fun μ' => K 1 μ' (Or.inr ⟨rfl, ez⟩)
      refine aw_blk oX12_run_270 (pc' := 274) (ls' := [_, _, _, _, _, _, _, _, _]) (st' := [_]) (cs := []) rfl trivial ?_
      refine aw_if_eq (tgt := 338) eX12_run_274 (by decide) (by omega) (fun h2 => ?_) (fun h2 => ?_)
      · exfalso; omega
      · refine aw_blk oX12_run_277 (pc' := 282) (ls' := [_, _, _, _, _, _, _, _, _]) (st' := [_, _]) (cs := []) rfl trivial ?_
        refine aw_icmp_le (tgt := 338) eX12_run_282 (by decide) (by omega) (by omega) (fun h3 => ?_) (fun h3 => ?_)
        · refine aw_blk oX12_run_338 (pc' := 340) (ls' := [_, _, _, _, _, _, _, _, _]) (st' := [_]) (cs := []) rfl trivial ?_
          refine aw_if_eq (tgt := 353) eX12_run_340 (by decide) (by omega) (fun h4 => ?_) (fun h4 => ?_)
          · exfalso; omega
          · refine aw_blk oX12_run_343 (pc' := 353) (ls' := [_, _, _, _, _, _, _, _, _]) (st' := []) (cs := []) rfl trivial ?_
            refine K1 _ (hS.p55 (by decide)) ?_
            unfold wtc wat
            rw [if_pos ez, if_pos (by omega)]
            refine ⟨c1, ?_, c3, c4, c7⟩
            show μ 55 32 + 1 = W.still + 1
            omega
        · have g := c7 W.seen (by omega) (by omega)
          have r1 : ∀ v w : Int, up (up μ 55 33 v) 55 31 w 55 31 = w := fun _ _ => rfl
          have r2 : ∀ v w : Int, up (up μ 55 33 v) 55 31 w 55 4 = μ 55 4 := fun _ _ => rfl
          have r3 : ∀ v : Int, up μ 55 33 v 55 31 = μ 55 31 := fun _ => rfl
          have ew : wtc D t W = ((W.seen + 1, W.still, W.sum + W.row W.seen, if W.seen + 1 = D.cnt then t else W.last), W.2) := by
            unfold wtc wat
            rw [if_pos ez, if_neg (by omega)]
          rw [ew] at K1
          refine aw_blk oX12_run_285 (pc' := 322) (ls' := [_, _, _, _, _, _, _, _, _]) (st' := [_, _, _]) (cs := [(_, _)]) rfl (⟨⟨by omega, by omega⟩, trivial⟩) ?_
          rw [r1, r2, r3]
          refine aw_icmp_ne (tgt := 330) eX12_run_322 (by decide) (by omega) (by omega) (fun h4 => ?_) (fun h4 => ?_)
          · refine aw_blk oX12_run_330 (pc' := 332) (ls' := [_, _, _, _, _, _, _, _, _]) (st' := [_, _]) (cs := []) rfl trivial ?_
            refine aw_blk oX12_run_332 (pc' := 353) (ls' := [_, _, _, _, _, _, _, _, _]) (st' := []) (cs := []) rfl trivial ?_
            refine K1 _ (((hS.p55 (by decide)).p55 (by decide)).p55 (by decide)) ⟨?_, c2, ?_, ?_, c7⟩
            · show μ 55 31 + 1 = W.seen + 1
              omega
            · show μ 55 33 + μ 81 (μ 55 31) = W.sum + W.row W.seen
              rw [c1, g]; omega
            · show -6 = if W.seen + 1 = D.cnt then t else W.last
              rw [if_neg (by omega)]
              exact (hB.2.2.2 hs).symm
          · refine aw_blk oX12_run_325 (pc' := 332) (ls' := [_, _, _, _, _, _, _, _, _]) (st' := [_, _]) (cs := []) rfl trivial ?_
            refine aw_blk oX12_run_332 (pc' := 353) (ls' := [_, _, _, _, _, _, _, _, _]) (st' := []) (cs := []) rfl trivial ?_
            refine K1 _ (((hS.p55 (by decide)).p55 (by decide)).p55 (by decide)) ⟨?_, c2, ?_, ?_, c7⟩
            · show μ 55 31 + 1 = W.seen + 1
              omega
            · show μ 55 33 + μ 81 (μ 55 31) = W.sum + W.row W.seen
              rw [c1, g]; omega
            · show t = if W.seen + 1 = D.cnt then t else W.last
              rw [if_pos (by omega)]
    · refine aw_blk oX12_run_270 (pc' := 274) (ls' := [_, _, _, _, _, _, _, _, _]) (st' := [_]) (cs := []) rfl trivial ?_
      refine aw_if_eq (tgt := 338) eX12_run_274 (by decide) (by omega) (fun h2 => ?_) (fun h2 => ?_)
      · refine aw_blk oX12_run_338 (pc' := 340) (ls' := [_, _, _, _, _, _, _, _, _]) (st' := [_]) (cs := []) rfl trivial ?_
        refine aw_if_eq (tgt := 353) eX12_run_340 (by decide) (by omega) (fun h3 => ?_) (fun h3 => ?_)
        · refine K 0 μ (Or.inl rfl) hS ?_
          unfold wtc
          rw [if_neg ez]
          exact hE
        · exfalso; omega
      · exfalso; omega
  refine aw_blk oX12_run_242 (pc' := 244) (ls' := [_, _, _, _, _, _, _, _, _]) (st' := [_]) (cs := []) rfl trivial ?_
  refine aw_if_ne (tgt := 265) eX12_run_244 (by decide) (by omega) (fun h2 => ?_) (fun h2 => ?_)
  · refine aw_blk oX12_run_265 (pc' := 270) (ls' := [_, _, _, _, _, _, _, _, _]) (st' := [_]) (cs := []) rfl trivial ?_
    exact E270 _ (Or.inl ⟨rfl, by omega⟩) _
  · refine aw_blk oX12_run_247 (pc' := 254) (ls' := [_, _, _, _, _, _, _, _, _]) (st' := [_, _]) (cs := [(_, _)]) rfl (⟨⟨by omega, by omega⟩, trivial⟩) ?_
    refine aw_icmp_ge (tgt := 265) eX12_run_254 (by decide) (by omega) (by omega) (fun h3 => ?_) (fun h3 => ?_)
    · refine aw_blk oX12_run_265 (pc' := 270) (ls' := [_, _, _, _, _, _, _, _, _]) (st' := [_]) (cs := []) rfl trivial ?_
      exact E270 _ (Or.inl ⟨rfl, by omega⟩) _
    · refine aw_blk oX12_run_257 (pc' := 262) (ls' := [_, _, _, _, _, _, _, _, _]) (st' := [_, _]) (cs := []) rfl trivial ?_
      refine aw_icmp_ne (tgt := 269) eX12_run_262 (by decide) (by omega) (by omega) (fun h4 => ?_) (fun h4 => ?_)
      · refine aw_blk oX12_run_269 (pc' := 270) (ls' := [_, _, _, _, _, _, _, _, _]) (st' := [_]) (cs := []) rfl trivial ?_
        exact E270 _ (Or.inr ⟨rfl, by omega⟩) _
      · refine aw_blk oX12_run_265 (pc' := 270) (ls' := [_, _, _, _, _, _, _, _, _]) (st' := [_]) (cs := []) rfl trivial ?_
        exact E270 _ (Or.inl ⟨rfl, by omega⟩) _
theorem l_secsM {κ : KX} {μ0 : MM} {ν : ML} {D : FD} {b : Int} (hM : MD μ0 D) (hC : CHO κ ν μ0 D b) (n : Nat) : ∀ (t now bg : Int) (W : WS) (u7 u8 : AV) (μ : MM), SM μ0 μ → eM μ W → WI D W → WB D t W → NW now W → (bg = 0 ∨ (bg = 1 ∧ mn D.start D.cnt ≤ W.whole)) → 0 ≤ t → t + n = 60 → AX κ mX12_run 2 (QS (PM ν μ0 (shw D n t W))) 56 [aR 55, aI b, aI now, aI W.whole, aI W.miss, aI bg, aI t, u7, u8] [] μ ν := by
  obtain ⟨hD, hln, hbt, hcn, hst⟩ := id hM
  have o1 := hD.1
  induction n with
  | zero =>
    intro t now bg W u7 u8 μ hS hE hW hB hN hbg h0 hn
    refine aw_blk oX12_run_56 (pc' := 60) (ls' := [_, _, _, _, _, _, _, _, _]) (st' := [_, _]) (cs := []) rfl trivial ?_
    refine aw_icmp_ge (tgt := 359) eX12_run_60 (by decide) (by omega) (by omega) (fun h1 => ?_) (fun h1 => ?_)
    · refine aw_vret eX12_run_359 rfl (Nat.le_refl _) (Nat.le_refl _) ?_
      exact ⟨rfl, rfl, rfl, hS, hE⟩
    · exfalso; omega
  | succ n ih =>
    intro t now bg W u7 u8 μ hS hE hW hB hN hbg h0 hn
    have e4 : μ 55 4 = D.cnt := by rw [hS.2 4 (by decide)]; exact hcn
    have e60 : μ 60 t = D.line t := by rw [hS.1 60 (by decide)]; exact hln t h0 (by omega)
    have hl := hD.2.2.1 t h0 (by omega)
    have a := hW.1
    have c1 := hE.1
    refine aw_blk oX12_run_56 (pc' := 60) (ls' := [_, _, _, _, _, _, _, _, _]) (st' := [_, _]) (cs := []) rfl trivial ?_
    refine aw_icmp_ge (tgt := 359) eX12_run_60 (by decide) (by omega) (by omega) (fun h1 => ?_) (fun h1 => ?_)
    · exfalso; omega
    · refine aw_blk oX12_run_63 (pc' := 71) (ls' := [_, _, _, _, _, _, _, _, _]) (st' := [_, _]) (cs := []) rfl trivial ?_
      refine aw_icmp_ge (tgt := 359) eX12_run_71 (by decide) (by omega) (by omega) (fun h2 => ?_) (fun h2 => ?_)
      · refine aw_vret eX12_run_359 rfl (Nat.le_refl _) (Nat.le_refl _) ?_
        rw [shw, if_neg (by omega)]
        exact ⟨rfl, rfl, rfl, hS, hE⟩
      · have L := lod_inv hD ⟨h0, by omega⟩ 8 (D.line t) W hl.1 hW
        have hB1 : WB D t (lod D t 8 (D.line t) W) := by
          unfold WB
          rw [L.2.1, L.2.2.1, L.2.2.2.1, L.2.2.2.2.1]
          exact hB
        have C := wtc_inv hD ⟨h0, by omega⟩ L.1 hB1 (by rw [L.2.1]; omega)
        rw [shw, if_pos (by omega)]
        refine aw_blk oX12_run_74 (pc' := 83) (ls' := [_, _, _, _, _, _, _, _, _]) (st' := []) (cs := [(_, _)]) rfl (⟨⟨by omega, by omega⟩, trivial⟩) ?_
        rw [e60]
        refine l_whileM hM hC h0 (by omega) 8 (D.line t) now W _ μ hS hE hW hN (Or.inr (by omega)) hl.1 hl.2 (fun now' l' μ' u8' hN' hS' hE' => ?_)
        generalize lod D t 8 (D.line t) W = V at L hB1 C hN' hE' ⊢
        refine s_run242 hM h0 (by omega) hS' hE' L.1 hB1 (by rw [L.2.1]; omega) (by omega) (fun bg' μ2 hbg' hS2 hE2 => ?_)
        refine aw_blk oX12_run_353 (pc' := 56) (ls' := [_, _, _, _, _, _, _, _, _]) (st' := []) (cs := []) rfl trivial ?_
        have hN2 : NW now' (wtc D t V) := by
          have em : (wtc D t V).miss = V.miss ∧ (wtc D t V).row = V.row := by
            unfold wtc wat
            split
            · split <;> exact ⟨rfl, rfl⟩
            · exact ⟨rfl, rfl⟩
          unfold NW nowOf at hN' ⊢
          rw [em.1, em.2, C.2.2]
          exact hN'
        have em : (wtc D t V).miss = V.miss := by
          unfold wtc wat
          split
          · split <;> rfl
          · rfl
        have T := ih (t + 1) now' bg' (wtc D t V) (aI l') u8' μ2 hS2 hE2 C.1 C.2.1 hN2 (by rw [C.2.2]; exact hbg') (by omega) (by omega)
        rw [C.2.2, em] at T
        exact T
theorem l_clearM {κ : KX} {μ0 : MM} {ν : ML} {b : Int} {P : Option AV → List SH → MM → ML → Prop} (n : Nat) : ∀ (i : Int) (u3 u4 u5 u6 u7 u8 : AV) (μ : MM), SM μ0 μ → μ 55 31 = 0 ∧ μ 55 32 = 0 ∧ μ 55 33 = 0 ∧ μ 55 34 = -6 → (∀ x : Int, 0 ≤ x → x < i → μ 81 x = -6) → 0 ≤ i → i + n = 8 → (∀ (μ' : MM) (u2 u3 u4 u5 u6 u7 u8 : AV), SM μ0 μ' → eM μ' W0 → AX κ mX12_run 2 P 43 [aR 55, aI b, u2, u3, u4, u5, u6, u7, u8] [] μ' ν) → AX κ mX12_run 2 P 23 [aR 55, aI b, aI i, u3, u4, u5, u6, u7, u8] [] μ ν := by
  induction n with
  | zero =>
    intro i u3 u4 u5 u6 u7 u8 μ hS hc hx h0 hn K
    refine aw_blk oX12_run_23 (pc' := 26) (ls' := [_, _, _, _, _, _, _, _, _]) (st' := [_, _]) (cs := []) rfl trivial ?_
    refine aw_icmp_ge (tgt := 43) eX12_run_26 (by decide) (by omega) (by omega) (fun h1 => ?_) (fun h1 => ?_)
    · exact K μ _ _ _ _ _ _ _ hS ⟨hc.1, hc.2.1, hc.2.2.1, hc.2.2.2, fun x q0 q1 => hx x q0 (by omega)⟩
    · exfalso; omega
  | succ n ih =>
    intro i u3 u4 u5 u6 u7 u8 μ hS hc hx h0 hn K
    refine aw_blk oX12_run_23 (pc' := 26) (ls' := [_, _, _, _, _, _, _, _, _]) (st' := [_, _]) (cs := []) rfl trivial ?_
    refine aw_icmp_ge (tgt := 43) eX12_run_26 (by decide) (by omega) (by omega) (fun h1 => ?_) (fun h1 => ?_)
    · exfalso; omega
    · refine aw_blk oX12_run_29 (pc' := 23) (ls' := [_, _, _, _, _, _, _, _, _]) (st' := []) (cs := [(_, _)]) rfl (⟨⟨by omega, by omega⟩, trivial⟩) ?_
      refine ih (i + 1) _ _ _ _ _ _ _ hS.p81 hc ?_ (by omega) (by omega) K
      intro x q0 q1
      by_cases e : x = i
      · rw [e, up_at]
      · rw [up_ne (Or.inr e)]; exact hx x q0 (by omega)
theorem c_runM {κ : KX} {μ : MM} {ν : ML} {D : FD} {b : Int} (hM : MD μ D) (hC : CHO κ ν μ D b) : AQ κ 2 mX12_run [aR 55, aI b] μ ν (PM ν μ (shw D 60 0 W0)) := by
  refine AMet.of kX12_run.1 (Nat.le_of_ble_eq_true rfl) rfl ?_
  refine aw_blk oX12_run_0 (pc' := 23) (ls' := [_, _, _, _, _, _, _, _, _]) (st' := []) (cs := []) rfl trivial ?_
  refine l_clearM 8 0 _ _ _ _ _ _ _ ((((SM.rf.p55 (by decide)).p55 (by decide)).p55 (by decide)).p55 (by decide)) ⟨rfl, rfl, rfl, rfl⟩ (fun x q0 q1 => by omega) (by omega) (by omega) (fun μ' u2 u3 u4 u5 u6 u7 u8 hS hE => ?_)
  refine aw_blk oX12_run_43 (pc' := 56) (ls' := [_, _, _, _, _, _, _, _, _]) (st' := []) (cs := []) rfl trivial ?_
  exact l_secsM hM hC 60 0 0 0 W0 _ _ μ' hS hE (WI.w0 hM.1) WB.w0 (Or.inl ⟨rfl, rfl⟩) (Or.inl rfl) (by omega) (by omega)

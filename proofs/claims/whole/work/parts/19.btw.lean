/-! ===== between, in, and the small tests built on them ===== -/
theorem bt_z {a b c : Int} : 0 ≤ bt a b c ∧ bt a b c < 2 := by unfold bt; split <;> decide
theorem c_X11_between {κ : KX} {μ : MM} {ν : ML} {a b c : Int} (ha : R32 a) (hb : R32 b) (hc : R32 c) : AE κ 0 mX11_between [aI a, aI b, aI c] μ ν (some (aI (bt a b c))) μ ν := by
  refine AMet.of kX11_between.1 (Nat.le_of_ble_eq_true rfl) rfl ?_
  refine aw_blk oX11_between_0 (pc' := 2) (ls' := [_, _, _]) (st' := [_, _]) (cs := []) rfl trivial ?_
  refine aw_icmp_lt (tgt := 14) eX11_between_2 (by decide) (by omega) (by omega) (fun h1 => ?_) (fun h1 => ?_)
  · first
    | (exfalso; omega; done)
    | (refine aw_blk oX11_between_14 (pc' := 15) (ls' := [_, _, _]) (st' := [_]) (cs := []) rfl trivial ?_
       refine aw_zret eX11_between_15 rfl (by omega) (Nat.le_refl _) (Nat.le_refl _) ?_
       exact pe_i (by unfold bt; first | rw [if_neg (by omega)] | rw [if_pos (by omega)]) rfl rfl)
  · first
    | (exfalso; omega; done)
    | (refine aw_blk oX11_between_5 (pc' := 7) (ls' := [_, _, _]) (st' := [_, _]) (cs := []) rfl trivial ?_
       refine aw_icmp_gt (tgt := 14) eX11_between_7 (by decide) (by omega) (by omega) (fun h2 => ?_) (fun h2 => ?_)
       · first
         | (exfalso; omega; done)
         | (refine aw_blk oX11_between_14 (pc' := 15) (ls' := [_, _, _]) (st' := [_]) (cs := []) rfl trivial ?_
            refine aw_zret eX11_between_15 rfl (by omega) (Nat.le_refl _) (Nat.le_refl _) ?_
            exact pe_i (by unfold bt; first | rw [if_neg (by omega)] | rw [if_pos (by omega)]) rfl rfl)
       · first
         | (exfalso; omega; done)
         | (refine aw_blk oX11_between_10 (pc' := 15) (ls' := [_, _, _]) (st' := [_]) (cs := []) rfl trivial ?_
            refine aw_zret eX11_between_15 rfl (by omega) (Nat.le_refl _) (Nat.le_refl _) ?_
            exact pe_i (by unfold bt; first | rw [if_neg (by omega)] | rw [if_pos (by omega)]) rfl rfl))
theorem c_X12_in {κ : KX} {μ : MM} {ν : ML} {a b c : Int} (ha : R32 a) (hb : R32 b) (hc : R32 c) : AE κ 0 mX12_in [aI a, aI b, aI c] μ ν (some (aI (bt a b c))) μ ν := by
  refine AMet.of kX12_in.1 (Nat.le_of_ble_eq_true rfl) rfl ?_
  refine aw_blk oX12_in_0 (pc' := 2) (ls' := [_, _, _]) (st' := [_, _]) (cs := []) rfl trivial ?_
  refine aw_icmp_lt (tgt := 14) eX12_in_2 (by decide) (by omega) (by omega) (fun h3 => ?_) (fun h3 => ?_)
  · first
    | (exfalso; omega; done)
    | (refine aw_blk oX12_in_14 (pc' := 15) (ls' := [_, _, _]) (st' := [_]) (cs := []) rfl trivial ?_
       refine aw_zret eX12_in_15 rfl (by omega) (Nat.le_refl _) (Nat.le_refl _) ?_
       exact pe_i (by unfold bt; first | rw [if_neg (by omega)] | rw [if_pos (by omega)]) rfl rfl)
  · first
    | (exfalso; omega; done)
    | (refine aw_blk oX12_in_5 (pc' := 7) (ls' := [_, _, _]) (st' := [_, _]) (cs := []) rfl trivial ?_
       refine aw_icmp_gt (tgt := 14) eX12_in_7 (by decide) (by omega) (by omega) (fun h4 => ?_) (fun h4 => ?_)
       · first
         | (exfalso; omega; done)
         | (refine aw_blk oX12_in_14 (pc' := 15) (ls' := [_, _, _]) (st' := [_]) (cs := []) rfl trivial ?_
            refine aw_zret eX12_in_15 rfl (by omega) (Nat.le_refl _) (Nat.le_refl _) ?_
            exact pe_i (by unfold bt; first | rw [if_neg (by omega)] | rw [if_pos (by omega)]) rfl rfl)
       · first
         | (exfalso; omega; done)
         | (refine aw_blk oX12_in_10 (pc' := 15) (ls' := [_, _, _]) (st' := [_]) (cs := []) rfl trivial ?_
            refine aw_zret eX12_in_15 rfl (by omega) (Nat.le_refl _) (Nat.le_refl _) ?_
            exact pe_i (by unfold bt; first | rw [if_neg (by omega)] | rw [if_pos (by omega)]) rfl rfl))
theorem c_X11_isFilm {κ : KX} {μ : MM} {ν : ML} {a : Int} (ha : R32 a) : AE κ 1 mX11_isFilm [aI a] μ ν (some (aI (bt a 0 5))) μ ν := by
  refine AMet.of kX11_isFilm.1 (Nat.le_of_ble_eq_true rfl) rfl ?_
  refine aw_blk oX11_isFilm_0 (pc' := 3) (ls' := [_]) (st' := [_, _, _]) (cs := []) rfl trivial ?_
  refine aw_ciS (rest := []) (c_X11_between (by omega) (by omega) (by omega)) kX11_between eX11_isFilm_3 lX11_isFilm_3 rfl rfl (Nat.le_of_ble_eq_true rfl) ⟨Nat.le_of_ble_eq_true rfl, Nat.le_of_ble_eq_true rfl⟩ ⟨Nat.le_refl _, Nat.le_refl _⟩ ?_
  refine aw_zret eX11_isFilm_6 rfl (by exact bt_z) (Nat.le_refl _) (Nat.le_refl _) ?_
  exact pe_i rfl rfl rfl
theorem c_X11_isSeer {κ : KX} {μ : MM} {ν : ML} {a : Int} (ha : R32 a) : AE κ 1 mX11_isSeer [aI a] μ ν (some (aI (bt a 0 7))) μ ν := by
  refine AMet.of kX11_isSeer.1 (Nat.le_of_ble_eq_true rfl) rfl ?_
  refine aw_blk oX11_isSeer_0 (pc' := 4) (ls' := [_]) (st' := [_, _, _]) (cs := []) rfl trivial ?_
  refine aw_ciS (rest := []) (c_X11_between (by omega) (by omega) (by omega)) kX11_between eX11_isSeer_4 lX11_isSeer_4 rfl rfl (Nat.le_of_ble_eq_true rfl) ⟨Nat.le_of_ble_eq_true rfl, Nat.le_of_ble_eq_true rfl⟩ ⟨Nat.le_refl _, Nat.le_refl _⟩ ?_
  refine aw_zret eX11_isSeer_7 rfl (by exact bt_z) (Nat.le_refl _) (Nat.le_refl _) ?_
  exact pe_i rfl rfl rfl
theorem c_X11_isNode {κ : KX} {μ : MM} {ν : ML} {a : Int} (ha : R32 a) : AE κ 1 mX11_isNode [aI a] μ ν (some (aI (bt a 0 9))) μ ν := by
  refine AMet.of kX11_isNode.1 (Nat.le_of_ble_eq_true rfl) rfl ?_
  refine aw_blk oX11_isNode_0 (pc' := 4) (ls' := [_]) (st' := [_, _, _]) (cs := []) rfl trivial ?_
  refine aw_ciS (rest := []) (c_X11_between (by omega) (by omega) (by omega)) kX11_between eX11_isNode_4 lX11_isNode_4 rfl rfl (Nat.le_of_ble_eq_true rfl) ⟨Nat.le_of_ble_eq_true rfl, Nat.le_of_ble_eq_true rfl⟩ ⟨Nat.le_refl _, Nat.le_refl _⟩ ?_
  refine aw_zret eX11_isNode_7 rfl (by exact bt_z) (Nat.le_refl _) (Nat.le_refl _) ?_
  exact pe_i rfl rfl rfl
theorem c_X12_isFilm {κ : KX} {μ : MM} {ν : ML} {a : Int} (ha : R32 a) : AE κ 1 mX12_isFilm [aI a] μ ν (some (aI (bt a 0 5))) μ ν := by
  refine AMet.of kX12_isFilm.1 (Nat.le_of_ble_eq_true rfl) rfl ?_
  refine aw_blk oX12_isFilm_0 (pc' := 3) (ls' := [_]) (st' := [_, _, _]) (cs := []) rfl trivial ?_
  refine aw_ciS (rest := []) (c_X12_in (by omega) (by omega) (by omega)) kX12_in eX12_isFilm_3 lX12_isFilm_3 rfl rfl (Nat.le_of_ble_eq_true rfl) ⟨Nat.le_of_ble_eq_true rfl, Nat.le_of_ble_eq_true rfl⟩ ⟨Nat.le_refl _, Nat.le_refl _⟩ ?_
  refine aw_zret eX12_isFilm_6 rfl (by exact bt_z) (Nat.le_refl _) (Nat.le_refl _) ?_
  exact pe_i rfl rfl rfl
theorem c_X12_isSeer {κ : KX} {μ : MM} {ν : ML} {a : Int} (ha : R32 a) : AE κ 1 mX12_isSeer [aI a] μ ν (some (aI (bt a 0 7))) μ ν := by
  refine AMet.of kX12_isSeer.1 (Nat.le_of_ble_eq_true rfl) rfl ?_
  refine aw_blk oX12_isSeer_0 (pc' := 4) (ls' := [_]) (st' := [_, _, _]) (cs := []) rfl trivial ?_
  refine aw_ciS (rest := []) (c_X12_in (by omega) (by omega) (by omega)) kX12_in eX12_isSeer_4 lX12_isSeer_4 rfl rfl (Nat.le_of_ble_eq_true rfl) ⟨Nat.le_of_ble_eq_true rfl, Nat.le_of_ble_eq_true rfl⟩ ⟨Nat.le_refl _, Nat.le_refl _⟩ ?_
  refine aw_zret eX12_isSeer_7 rfl (by exact bt_z) (Nat.le_refl _) (Nat.le_refl _) ?_
  exact pe_i rfl rfl rfl
theorem c_X12_isNode {κ : KX} {μ : MM} {ν : ML} {a : Int} (ha : R32 a) : AE κ 1 mX12_isNode [aI a] μ ν (some (aI (bt a 0 9))) μ ν := by
  refine AMet.of kX12_isNode.1 (Nat.le_of_ble_eq_true rfl) rfl ?_
  refine aw_blk oX12_isNode_0 (pc' := 4) (ls' := [_]) (st' := [_, _, _]) (cs := []) rfl trivial ?_
  refine aw_ciS (rest := []) (c_X12_in (by omega) (by omega) (by omega)) kX12_in eX12_isNode_4 lX12_isNode_4 rfl rfl (Nat.le_of_ble_eq_true rfl) ⟨Nat.le_of_ble_eq_true rfl, Nat.le_of_ble_eq_true rfl⟩ ⟨Nat.le_refl _, Nat.le_refl _⟩ ?_
  refine aw_zret eX12_isNode_7 rfl (by exact bt_z) (Nat.le_refl _) (Nat.le_refl _) ?_
  exact pe_i rfl rfl rfl
theorem c_X12_isTown {κ : KX} {μ : MM} {ν : ML} {a : Int} (ha : R32 a) : AE κ 1 mX12_isTown [aI a] μ ν (some (aI (bt a 0 3))) μ ν := by
  refine AMet.of kX12_isTown.1 (Nat.le_of_ble_eq_true rfl) rfl ?_
  refine aw_blk oX12_isTown_0 (pc' := 3) (ls' := [_]) (st' := [_, _, _]) (cs := []) rfl trivial ?_
  refine aw_ciS (rest := []) (c_X12_in (by omega) (by omega) (by omega)) kX12_in eX12_isTown_3 lX12_isTown_3 rfl rfl (Nat.le_of_ble_eq_true rfl) ⟨Nat.le_of_ble_eq_true rfl, Nat.le_of_ble_eq_true rfl⟩ ⟨Nat.le_refl _, Nat.le_refl _⟩ ?_
  refine aw_zret eX12_isTown_6 rfl (by exact bt_z) (Nat.le_refl _) (Nat.le_refl _) ?_
  exact pe_i rfl rfl rfl
theorem c_X12_isGroup {κ : KX} {μ : MM} {ν : ML} {a : Int} (ha : R32 a) : AE κ 1 mX12_isGroup [aI a] μ ν (some (aI (bt a 0 3))) μ ν := by
  refine AMet.of kX12_isGroup.1 (Nat.le_of_ble_eq_true rfl) rfl ?_
  refine aw_blk oX12_isGroup_0 (pc' := 3) (ls' := [_]) (st' := [_, _, _]) (cs := []) rfl trivial ?_
  refine aw_ciS (rest := []) (c_X12_in (by omega) (by omega) (by omega)) kX12_in eX12_isGroup_3 lX12_isGroup_3 rfl rfl (Nat.le_of_ble_eq_true rfl) ⟨Nat.le_of_ble_eq_true rfl, Nat.le_of_ble_eq_true rfl⟩ ⟨Nat.le_refl _, Nat.le_refl _⟩ ?_
  refine aw_zret eX12_isGroup_6 rfl (by exact bt_z) (Nat.le_refl _) (Nat.le_refl _) ?_
  exact pe_i rfl rfl rfl

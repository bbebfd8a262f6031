/-! ===== the law: its cases ===== -/
theorem lc_0 {κ : KX} {cells slots : Nat} {i : Int} {μ : MM} {ν : ML} (hcs : cells ≤ 600000 ∧ slots ≤ 7302250) (hL : κ.2.2.2.2.1 < 2147483648) (h0 : 0 ≤ i) (h6 : i + 6 ≤ (κ.2.2.2.2.1 : Int)) (hR : Rel μ ν) (K : ∀ (μ2 : MM) (ν2 : ML), Rel μ2 ν2 → AL κ cells slots 1423 [aS 5, aR 0, aR 55, aI i] [] μ2 ν2) : AL κ cells slots 196 [aS 5, aR 0, aR 55, aI i] [] μ ν := by
  obtain ⟨P, hP, hQ⟩ := q_frame (κ := κ) hR
  refine aw_blk oL_law_196 (pc' := 197) (ls' := [_, _, _, _]) (st' := [_]) (cs := []) rfl trivial ?_
  refine aw_crV (rest := []) hP kX11_frame eL_law_197 lL_law_197 rfl rfl rfl rfl (Nat.le_of_ble_eq_true rfl) ⟨Nat.le_of_ble_eq_true rfl, Nat.le_of_ble_eq_true rfl⟩ hcs ?_
  intro r μ1 ν1 hp
  obtain ⟨z, rfl, hz, hM⟩ := hQ r μ1 ν1 hp
  refine aw_blk oL_law_200 (pc' := 201) (ls' := [_, _, _, _]) (st' := [_, _]) (cs := []) rfl trivial ?_
  refine aw_crV (rest := [_]) hM kX12_frame eL_law_201 lL_law_201 rfl rfl rfl rfl (Nat.le_of_ble_eq_true rfl) ⟨Nat.le_of_ble_eq_true rfl, Nat.le_of_ble_eq_true rfl⟩ hcs ?_
  intro r μ2 ν2 hp2
  obtain ⟨rfl, hR2⟩ := hp2
  refine aw_icmp_eq (tgt := 1423) eL_law_204 (by decide) (by exact hz) (by exact hz) (fun h3 => ?_) (fun h3 => ?_)
  · exact K μ2 ν2 hR2
  · exact absurd rfl h3
theorem lc_1 {κ : KX} {cells slots : Nat} {i : Int} {μ : MM} {ν : ML} (hcs : cells ≤ 600000 ∧ slots ≤ 7302250) (hL : κ.2.2.2.2.1 < 2147483648) (h0 : 0 ≤ i) (h6 : i + 6 ≤ (κ.2.2.2.2.1 : Int)) (hR : Rel μ ν) (K : ∀ (μ2 : MM) (ν2 : ML), Rel μ2 ν2 → AL κ cells slots 1423 [aS 5, aR 0, aR 55, aI i] [] μ2 ν2) : AL κ cells slots 209 [aS 5, aR 0, aR 55, aI i] [] μ ν := by
  obtain ⟨P, hP, hQ⟩ := q_dot (κ := κ) (a := sc κ (i + 1)) (b := sc κ (i + 2)) (c := sc κ (i + 3)) hR (sc_R _) (sc_R _) (sc_R _)
  refine aw_blk os_209 (pc' := 214) (ls' := [_, _, _, _]) (st' := [_, _, _]) (cs := []) rfl trivial ?_
  refine aw_sld es_214 (by omega) (by omega) hL ?_
  refine aw_blk os_215 (pc' := 219) (ls' := [_, _, _, _]) (st' := [_, _, _, _]) (cs := []) rfl trivial ?_
  refine aw_sld es_219 (by omega) (by omega) hL ?_
  refine aw_blk os_220 (pc' := 224) (ls' := [_, _, _, _]) (st' := [_, _, _, _, _]) (cs := []) rfl trivial ?_
  refine aw_sld es_224 (by omega) (by omega) hL ?_
  refine aw_crV (rest := []) hP kX11_dot eL_law_225 lL_law_225 rfl rfl rfl rfl (Nat.le_of_ble_eq_true rfl) ⟨Nat.le_of_ble_eq_true rfl, Nat.le_of_ble_eq_true rfl⟩ hcs ?_
  intro r μ1 ν1 hp
  obtain ⟨z, rfl, hz, hM⟩ := hQ r μ1 ν1 hp
  refine aw_blk os_228 (pc' := 233) (ls' := [_, _, _, _]) (st' := [_, _, _, _]) (cs := []) rfl trivial ?_
  refine aw_sld es_233 (by omega) (by omega) hL ?_
  refine aw_blk os_234 (pc' := 238) (ls' := [_, _, _, _]) (st' := [_, _, _, _, _]) (cs := []) rfl trivial ?_
  refine aw_sld es_238 (by omega) (by omega) hL ?_
  refine aw_blk os_239 (pc' := 243) (ls' := [_, _, _, _]) (st' := [_, _, _, _, _, _]) (cs := []) rfl trivial ?_
  refine aw_sld es_243 (by omega) (by omega) hL ?_
  refine aw_crV (rest := [_]) hM kX12_dot eL_law_244 lL_law_244 rfl rfl rfl rfl (Nat.le_of_ble_eq_true rfl) ⟨Nat.le_of_ble_eq_true rfl, Nat.le_of_ble_eq_true rfl⟩ hcs ?_
  intro r μ2 ν2 hp2
  obtain ⟨rfl, hR2⟩ := hp2
  refine aw_icmp_eq (tgt := 1423) eL_law_247 (by decide) (by exact hz) (by exact hz) (fun h3 => ?_) (fun h3 => ?_)
  · exact K μ2 ν2 hR2
  · exact absurd rfl h3
theorem lc_2 {κ : KX} {cells slots : Nat} {i : Int} {μ : MM} {ν : ML} (hcs : cells ≤ 600000 ∧ slots ≤ 7302250) (hL : κ.2.2.2.2.1 < 2147483648) (h0 : 0 ≤ i) (h6 : i + 6 ≤ (κ.2.2.2.2.1 : Int)) (hR : Rel μ ν) (K : ∀ (μ2 : MM) (ν2 : ML), Rel μ2 ν2 → AL κ cells slots 1423 [aS 5, aR 0, aR 55, aI i] [] μ2 ν2) : AL κ cells slots 252 [aS 5, aR 0, aR 55, aI i] [] μ ν := by
  have hb : R32 (sc κ (i + 2)) := sc_R _
  refine aw_blk os_252 (pc' := 257) (ls' := [_, _, _, _]) (st' := [_, _, _]) (cs := []) rfl trivial ?_
  refine aw_sld es_257 (by omega) (by omega) hL ?_
  refine aw_blk os_258 (pc' := 262) (ls' := [_, _, _, _]) (st' := [_, _, _, _]) (cs := []) rfl trivial ?_
  refine aw_sld es_262 (by omega) (by omega) hL ?_
  refine aw_if_eq (tgt := 270) eL_law_263 (by decide) (by omega) (fun h1 => ?_) (fun h1 => ?_)
  · refine aw_blk oL_law_270 (pc' := 271) (ls' := [_, _, _, _]) (st' := [_, _, _]) (cs := []) rfl trivial ?_
    obtain ⟨P, hP, hQ⟩ := q_key (κ := κ) (a := sc κ (i + 1)) (b := 0) hR (sc_R _) (by decide)
    refine aw_crV (rest := []) hP kX11_key eL_law_271 lL_law_271 rfl rfl rfl rfl (Nat.le_of_ble_eq_true rfl) ⟨Nat.le_of_ble_eq_true rfl, Nat.le_of_ble_eq_true rfl⟩ hcs ?_
    intro r μ1 ν1 hp
    obtain ⟨z, rfl, hz, hM⟩ := hQ r μ1 ν1 hp
    refine aw_blk os_274 (pc' := 279) (ls' := [_, _, _, _]) (st' := [_, _, _, _]) (cs := []) rfl trivial ?_
    refine aw_sld es_279 (by omega) (by omega) hL ?_
    refine aw_blk os_280 (pc' := 284) (ls' := [_, _, _, _]) (st' := [_, _, _, _, _]) (cs := []) rfl trivial ?_
    refine aw_sld es_284 (by omega) (by omega) hL ?_
    refine aw_if_eq (tgt := 292) eL_law_285 (by decide) (by omega) (fun h2 => ?_) (fun h2 => ?_)
    · refine aw_blk oL_law_292 (pc' := 293) (ls' := [_, _, _, _]) (st' := [_, _, _, _]) (cs := []) rfl trivial ?_
      refine aw_crV (rest := [_]) hM kX12_key eL_law_293 lL_law_293 rfl rfl rfl rfl (Nat.le_of_ble_eq_true rfl) ⟨Nat.le_of_ble_eq_true rfl, Nat.le_of_ble_eq_true rfl⟩ hcs ?_
      intro r μ2 ν2 hp2
      obtain ⟨rfl, hR2⟩ := hp2
      refine aw_icmp_eq (tgt := 1423) eL_law_296 (by decide) (by exact hz) (by exact hz) (fun h3 => ?_) (fun h3 => ?_)
      · exact K μ2 ν2 hR2
      · exact absurd rfl h3
    · exfalso; exact h2 h1
  · refine aw_blk oL_law_266 (pc' := 271) (ls' := [_, _, _, _]) (st' := [_, _, _]) (cs := []) rfl trivial ?_
    obtain ⟨P, hP, hQ⟩ := q_key (κ := κ) (a := sc κ (i + 1)) (b := 1) hR (sc_R _) (by decide)
    refine aw_crV (rest := []) hP kX11_key eL_law_271 lL_law_271 rfl rfl rfl rfl (Nat.le_of_ble_eq_true rfl) ⟨Nat.le_of_ble_eq_true rfl, Nat.le_of_ble_eq_true rfl⟩ hcs ?_
    intro r μ1 ν1 hp
    obtain ⟨z, rfl, hz, hM⟩ := hQ r μ1 ν1 hp
    refine aw_blk os_274 (pc' := 279) (ls' := [_, _, _, _]) (st' := [_, _, _, _]) (cs := []) rfl trivial ?_
    refine aw_sld es_279 (by omega) (by omega) hL ?_
    refine aw_blk os_280 (pc' := 284) (ls' := [_, _, _, _]) (st' := [_, _, _, _, _]) (cs := []) rfl trivial ?_
    refine aw_sld es_284 (by omega) (by omega) hL ?_
    refine aw_if_eq (tgt := 292) eL_law_285 (by decide) (by omega) (fun h2 => ?_) (fun h2 => ?_)
    · exfalso; exact h1 h2
    · refine aw_blk oL_law_288 (pc' := 293) (ls' := [_, _, _, _]) (st' := [_, _, _, _]) (cs := []) rfl trivial ?_
      refine aw_crV (rest := [_]) hM kX12_key eL_law_293 lL_law_293 rfl rfl rfl rfl (Nat.le_of_ble_eq_true rfl) ⟨Nat.le_of_ble_eq_true rfl, Nat.le_of_ble_eq_true rfl⟩ hcs ?_
      intro r μ2 ν2 hp2
      obtain ⟨rfl, hR2⟩ := hp2
      refine aw_icmp_eq (tgt := 1423) eL_law_296 (by decide) (by exact hz) (by exact hz) (fun h3 => ?_) (fun h3 => ?_)
      · exact K μ2 ν2 hR2
      · exact absurd rfl h3
theorem lc_3 {κ : KX} {cells slots : Nat} {i : Int} {μ : MM} {ν : ML} (hcs : cells ≤ 600000 ∧ slots ≤ 7302250) (hL : κ.2.2.2.2.1 < 2147483648) (h0 : 0 ≤ i) (h6 : i + 6 ≤ (κ.2.2.2.2.1 : Int)) (hR : Rel μ ν) (K : ∀ (μ2 : MM) (ν2 : ML), Rel μ2 ν2 → AL κ cells slots 1423 [aS 5, aR 0, aR 55, aI i] [] μ2 ν2) : AL κ cells slots 301 [aS 5, aR 0, aR 55, aI i] [] μ ν := by
  obtain ⟨P, hP, hQ⟩ := q_set (κ := κ) (a := sc κ (i + 1)) (b := sc κ (i + 2)) hR (sc_R _) (sc_R _)
  refine aw_blk os_301 (pc' := 306) (ls' := [_, _, _, _]) (st' := [_, _, _]) (cs := []) rfl trivial ?_
  refine aw_sld es_306 (by omega) (by omega) hL ?_
  refine aw_blk os_307 (pc' := 311) (ls' := [_, _, _, _]) (st' := [_, _, _, _]) (cs := []) rfl trivial ?_
  refine aw_sld es_311 (by omega) (by omega) hL ?_
  refine aw_crV (rest := []) hP kX11_set eL_law_312 lL_law_312 rfl rfl rfl rfl (Nat.le_of_ble_eq_true rfl) ⟨Nat.le_of_ble_eq_true rfl, Nat.le_of_ble_eq_true rfl⟩ hcs ?_
  intro r μ1 ν1 hp
  obtain ⟨z, rfl, hz, hM⟩ := hQ r μ1 ν1 hp
  refine aw_blk os_315 (pc' := 320) (ls' := [_, _, _, _]) (st' := [_, _, _, _]) (cs := []) rfl trivial ?_
  refine aw_sld es_320 (by omega) (by omega) hL ?_
  refine aw_blk os_321 (pc' := 325) (ls' := [_, _, _, _]) (st' := [_, _, _, _, _]) (cs := []) rfl trivial ?_
  refine aw_sld es_325 (by omega) (by omega) hL ?_
  refine aw_crV (rest := [_]) hM kX12_set eL_law_326 lL_law_326 rfl rfl rfl rfl (Nat.le_of_ble_eq_true rfl) ⟨Nat.le_of_ble_eq_true rfl, Nat.le_of_ble_eq_true rfl⟩ hcs ?_
  intro r μ2 ν2 hp2
  obtain ⟨rfl, hR2⟩ := hp2
  refine aw_icmp_eq (tgt := 1423) eL_law_329 (by decide) (by exact hz) (by exact hz) (fun h3 => ?_) (fun h3 => ?_)
  · exact K μ2 ν2 hR2
  · exact absurd rfl h3
theorem lc_4 {κ : KX} {cells slots : Nat} {i : Int} {μ : MM} {ν : ML} (hcs : cells ≤ 600000 ∧ slots ≤ 7302250) (hL : κ.2.2.2.2.1 < 2147483648) (h0 : 0 ≤ i) (h6 : i + 6 ≤ (κ.2.2.2.2.1 : Int)) (hR : Rel μ ν) (K : ∀ (μ2 : MM) (ν2 : ML), Rel μ2 ν2 → AL κ cells slots 1423 [aS 5, aR 0, aR 55, aI i] [] μ2 ν2) : AL κ cells slots 334 [aS 5, aR 0, aR 55, aI i] [] μ ν := by
  obtain ⟨P, hP, hQ⟩ := q_way (κ := κ) (a := sc κ (i + 1)) (b := sc κ (i + 2)) hR (sc_R _) (sc_R _)
  refine aw_blk os_334 (pc' := 339) (ls' := [_, _, _, _]) (st' := [_, _, _]) (cs := []) rfl trivial ?_
  refine aw_sld es_339 (by omega) (by omega) hL ?_
  refine aw_blk os_340 (pc' := 344) (ls' := [_, _, _, _]) (st' := [_, _, _, _]) (cs := []) rfl trivial ?_
  refine aw_sld es_344 (by omega) (by omega) hL ?_
  refine aw_crV (rest := []) hP kX11_way eL_law_345 lL_law_345 rfl rfl rfl rfl (Nat.le_of_ble_eq_true rfl) ⟨Nat.le_of_ble_eq_true rfl, Nat.le_of_ble_eq_true rfl⟩ hcs ?_
  intro r μ1 ν1 hp
  obtain ⟨z, rfl, hz, hM⟩ := hQ r μ1 ν1 hp
  refine aw_blk os_348 (pc' := 353) (ls' := [_, _, _, _]) (st' := [_, _, _, _]) (cs := []) rfl trivial ?_
  refine aw_sld es_353 (by omega) (by omega) hL ?_
  refine aw_blk os_354 (pc' := 358) (ls' := [_, _, _, _]) (st' := [_, _, _, _, _]) (cs := []) rfl trivial ?_
  refine aw_sld es_358 (by omega) (by omega) hL ?_
  refine aw_crV (rest := [_]) hM kX12_way eL_law_359 lL_law_359 rfl rfl rfl rfl (Nat.le_of_ble_eq_true rfl) ⟨Nat.le_of_ble_eq_true rfl, Nat.le_of_ble_eq_true rfl⟩ hcs ?_
  intro r μ2 ν2 hp2
  obtain ⟨rfl, hR2⟩ := hp2
  refine aw_icmp_eq (tgt := 1423) eL_law_362 (by decide) (by exact hz) (by exact hz) (fun h3 => ?_) (fun h3 => ?_)
  · exact K μ2 ν2 hR2
  · exact absurd rfl h3
theorem lc_5 {κ : KX} {cells slots : Nat} {i : Int} {μ : MM} {ν : ML} (hcs : cells ≤ 600000 ∧ slots ≤ 7302250) (hL : κ.2.2.2.2.1 < 2147483648) (h0 : 0 ≤ i) (h6 : i + 6 ≤ (κ.2.2.2.2.1 : Int)) (hR : Rel μ ν) (K : ∀ (μ2 : MM) (ν2 : ML), Rel μ2 ν2 → AL κ cells slots 1423 [aS 5, aR 0, aR 55, aI i] [] μ2 ν2) : AL κ cells slots 367 [aS 5, aR 0, aR 55, aI i] [] μ ν := by
  obtain ⟨P, hP, hQ⟩ := q_opened (κ := κ) (a := sc κ (i + 1)) (b := sc κ (i + 2)) hR (sc_R _) (sc_R _)
  refine aw_blk os_367 (pc' := 372) (ls' := [_, _, _, _]) (st' := [_, _, _]) (cs := []) rfl trivial ?_
  refine aw_sld es_372 (by omega) (by omega) hL ?_
  refine aw_blk os_373 (pc' := 377) (ls' := [_, _, _, _]) (st' := [_, _, _, _]) (cs := []) rfl trivial ?_
  refine aw_sld es_377 (by omega) (by omega) hL ?_
  refine aw_crV (rest := []) hP kX11_opened eL_law_378 lL_law_378 rfl rfl rfl rfl (Nat.le_of_ble_eq_true rfl) ⟨Nat.le_of_ble_eq_true rfl, Nat.le_of_ble_eq_true rfl⟩ hcs ?_
  intro r μ1 ν1 hp
  obtain ⟨z, rfl, hz, hM⟩ := hQ r μ1 ν1 hp
  refine aw_blk os_381 (pc' := 386) (ls' := [_, _, _, _]) (st' := [_, _, _, _]) (cs := []) rfl trivial ?_
  refine aw_sld es_386 (by omega) (by omega) hL ?_
  refine aw_blk os_387 (pc' := 391) (ls' := [_, _, _, _]) (st' := [_, _, _, _, _]) (cs := []) rfl trivial ?_
  refine aw_sld es_391 (by omega) (by omega) hL ?_
  refine aw_crV (rest := [_]) hM kX12_opened eL_law_392 lL_law_392 rfl rfl rfl rfl (Nat.le_of_ble_eq_true rfl) ⟨Nat.le_of_ble_eq_true rfl, Nat.le_of_ble_eq_true rfl⟩ hcs ?_
  intro r μ2 ν2 hp2
  obtain ⟨rfl, hR2⟩ := hp2
  refine aw_icmp_eq (tgt := 1423) eL_law_395 (by decide) (by exact hz) (by exact hz) (fun h3 => ?_) (fun h3 => ?_)
  · exact K μ2 ν2 hR2
  · exact absurd rfl h3
theorem lc_6 {κ : KX} {cells slots : Nat} {i : Int} {μ : MM} {ν : ML} (hcs : cells ≤ 600000 ∧ slots ≤ 7302250) (hL : κ.2.2.2.2.1 < 2147483648) (h0 : 0 ≤ i) (h6 : i + 6 ≤ (κ.2.2.2.2.1 : Int)) (hR : Rel μ ν) (K : ∀ (μ2 : MM) (ν2 : ML), Rel μ2 ν2 → AL κ cells slots 1423 [aS 5, aR 0, aR 55, aI i] [] μ2 ν2) : AL κ cells slots 400 [aS 5, aR 0, aR 55, aI i] [] μ ν := by
  obtain ⟨P, hP, hQ⟩ := q_of (κ := κ) (a := sc κ (i + 1)) (b := sc κ (i + 2)) hR (sc_R _) (sc_R _)
  refine aw_blk os_400 (pc' := 405) (ls' := [_, _, _, _]) (st' := [_, _, _]) (cs := []) rfl trivial ?_
  refine aw_sld es_405 (by omega) (by omega) hL ?_
  refine aw_blk os_406 (pc' := 410) (ls' := [_, _, _, _]) (st' := [_, _, _, _]) (cs := []) rfl trivial ?_
  refine aw_sld es_410 (by omega) (by omega) hL ?_
  refine aw_crV (rest := []) hP kX11_of eL_law_411 lL_law_411 rfl rfl rfl rfl (Nat.le_of_ble_eq_true rfl) ⟨Nat.le_of_ble_eq_true rfl, Nat.le_of_ble_eq_true rfl⟩ hcs ?_
  intro r μ1 ν1 hp
  obtain ⟨z, rfl, hz, hM⟩ := hQ r μ1 ν1 hp
  refine aw_blk os_414 (pc' := 419) (ls' := [_, _, _, _]) (st' := [_, _, _, _]) (cs := []) rfl trivial ?_
  refine aw_sld es_419 (by omega) (by omega) hL ?_
  refine aw_blk os_420 (pc' := 424) (ls' := [_, _, _, _]) (st' := [_, _, _, _, _]) (cs := []) rfl trivial ?_
  refine aw_sld es_424 (by omega) (by omega) hL ?_
  refine aw_crV (rest := [_]) hM kX12_of eL_law_425 lL_law_425 rfl rfl rfl rfl (Nat.le_of_ble_eq_true rfl) ⟨Nat.le_of_ble_eq_true rfl, Nat.le_of_ble_eq_true rfl⟩ hcs ?_
  intro r μ2 ν2 hp2
  obtain ⟨rfl, hR2⟩ := hp2
  refine aw_icmp_eq (tgt := 1423) eL_law_428 (by decide) (by exact hz) (by exact hz) (fun h3 => ?_) (fun h3 => ?_)
  · exact K μ2 ν2 hR2
  · exact absurd rfl h3
theorem lc_7 {κ : KX} {cells slots : Nat} {i : Int} {μ : MM} {ν : ML} (hcs : cells ≤ 600000 ∧ slots ≤ 7302250) (hL : κ.2.2.2.2.1 < 2147483648) (h0 : 0 ≤ i) (h6 : i + 6 ≤ (κ.2.2.2.2.1 : Int)) (hR : Rel μ ν) (K : ∀ (μ2 : MM) (ν2 : ML), Rel μ2 ν2 → AL κ cells slots 1423 [aS 5, aR 0, aR 55, aI i] [] μ2 ν2) : AL κ cells slots 433 [aS 5, aR 0, aR 55, aI i] [] μ ν := by
  obtain ⟨P, hP, hQ⟩ := q_pieces (κ := κ) (a := sc κ (i + 1)) hR (sc_R _)
  refine aw_blk os_433 (pc' := 438) (ls' := [_, _, _, _]) (st' := [_, _, _]) (cs := []) rfl trivial ?_
  refine aw_sld es_438 (by omega) (by omega) hL ?_
  refine aw_crV (rest := []) hP kX11_pieces eL_law_439 lL_law_439 rfl rfl rfl rfl (Nat.le_of_ble_eq_true rfl) ⟨Nat.le_of_ble_eq_true rfl, Nat.le_of_ble_eq_true rfl⟩ hcs ?_
  intro r μ1 ν1 hp
  obtain ⟨z, rfl, hz, hM⟩ := hQ r μ1 ν1 hp
  refine aw_blk os_442 (pc' := 447) (ls' := [_, _, _, _]) (st' := [_, _, _, _]) (cs := []) rfl trivial ?_
  refine aw_sld es_447 (by omega) (by omega) hL ?_
  refine aw_crV (rest := [_]) hM kX12_pieces eL_law_448 lL_law_448 rfl rfl rfl rfl (Nat.le_of_ble_eq_true rfl) ⟨Nat.le_of_ble_eq_true rfl, Nat.le_of_ble_eq_true rfl⟩ hcs ?_
  intro r μ2 ν2 hp2
  obtain ⟨rfl, hR2⟩ := hp2
  refine aw_icmp_eq (tgt := 1423) eL_law_451 (by decide) (by exact hz) (by exact hz) (fun h3 => ?_) (fun h3 => ?_)
  · exact K μ2 ν2 hR2
  · exact absurd rfl h3
theorem lc_8 {κ : KX} {cells slots : Nat} {i : Int} {μ : MM} {ν : ML} (hcs : cells ≤ 600000 ∧ slots ≤ 7302250) (hL : κ.2.2.2.2.1 < 2147483648) (h0 : 0 ≤ i) (h6 : i + 6 ≤ (κ.2.2.2.2.1 : Int)) (hR : Rel μ ν) (K : ∀ (μ2 : MM) (ν2 : ML), Rel μ2 ν2 → AL κ cells slots 1423 [aS 5, aR 0, aR 55, aI i] [] μ2 ν2) : AL κ cells slots 456 [aS 5, aR 0, aR 55, aI i] [] μ ν := by
  obtain ⟨P, hP, hQ⟩ := q_bits (κ := κ) (a := sc κ (i + 1)) (b := sc κ (i + 2)) (c := sc κ (i + 3)) hR (sc_R _) (sc_R _) (sc_R _)
  refine aw_blk os_456 (pc' := 461) (ls' := [_, _, _, _]) (st' := [_, _, _]) (cs := []) rfl trivial ?_
  refine aw_sld es_461 (by omega) (by omega) hL ?_
  refine aw_blk os_462 (pc' := 466) (ls' := [_, _, _, _]) (st' := [_, _, _, _]) (cs := []) rfl trivial ?_
  refine aw_sld es_466 (by omega) (by omega) hL ?_
  refine aw_blk os_467 (pc' := 471) (ls' := [_, _, _, _]) (st' := [_, _, _, _, _]) (cs := []) rfl trivial ?_
  refine aw_sld es_471 (by omega) (by omega) hL ?_
  refine aw_crV (rest := []) hP kX11_bits eL_law_472 lL_law_472 rfl rfl rfl rfl (Nat.le_of_ble_eq_true rfl) ⟨Nat.le_of_ble_eq_true rfl, Nat.le_of_ble_eq_true rfl⟩ hcs ?_
  intro r μ1 ν1 hp
  obtain ⟨z, rfl, hz, hM⟩ := hQ r μ1 ν1 hp
  refine aw_blk os_475 (pc' := 480) (ls' := [_, _, _, _]) (st' := [_, _, _, _]) (cs := []) rfl trivial ?_
  refine aw_sld es_480 (by omega) (by omega) hL ?_
  refine aw_blk os_481 (pc' := 485) (ls' := [_, _, _, _]) (st' := [_, _, _, _, _]) (cs := []) rfl trivial ?_
  refine aw_sld es_485 (by omega) (by omega) hL ?_
  refine aw_blk os_486 (pc' := 490) (ls' := [_, _, _, _]) (st' := [_, _, _, _, _, _]) (cs := []) rfl trivial ?_
  refine aw_sld es_490 (by omega) (by omega) hL ?_
  refine aw_crV (rest := [_]) hM kX12_bits eL_law_491 lL_law_491 rfl rfl rfl rfl (Nat.le_of_ble_eq_true rfl) ⟨Nat.le_of_ble_eq_true rfl, Nat.le_of_ble_eq_true rfl⟩ hcs ?_
  intro r μ2 ν2 hp2
  obtain ⟨rfl, hR2⟩ := hp2
  refine aw_icmp_eq (tgt := 1423) eL_law_494 (by decide) (by exact hz) (by exact hz) (fun h3 => ?_) (fun h3 => ?_)
  · exact K μ2 ν2 hR2
  · exact absurd rfl h3
theorem lc_9 {κ : KX} {cells slots : Nat} {i : Int} {μ : MM} {ν : ML} (hcs : cells ≤ 600000 ∧ slots ≤ 7302250) (hL : κ.2.2.2.2.1 < 2147483648) (h0 : 0 ≤ i) (h6 : i + 6 ≤ (κ.2.2.2.2.1 : Int)) (hR : Rel μ ν) (K : ∀ (μ2 : MM) (ν2 : ML), Rel μ2 ν2 → AL κ cells slots 1423 [aS 5, aR 0, aR 55, aI i] [] μ2 ν2) : AL κ cells slots 499 [aS 5, aR 0, aR 55, aI i] [] μ ν := by
  obtain ⟨P, hP, hQ⟩ := q_doors (κ := κ) (a := sc κ (i + 1)) hR (sc_R _)
  refine aw_blk os_499 (pc' := 504) (ls' := [_, _, _, _]) (st' := [_, _, _]) (cs := []) rfl trivial ?_
  refine aw_sld es_504 (by omega) (by omega) hL ?_
  refine aw_crV (rest := []) hP kX11_doors eL_law_505 lL_law_505 rfl rfl rfl rfl (Nat.le_of_ble_eq_true rfl) ⟨Nat.le_of_ble_eq_true rfl, Nat.le_of_ble_eq_true rfl⟩ hcs ?_
  intro r μ1 ν1 hp
  obtain ⟨z, rfl, hz, hM⟩ := hQ r μ1 ν1 hp
  refine aw_blk os_508 (pc' := 513) (ls' := [_, _, _, _]) (st' := [_, _, _, _]) (cs := []) rfl trivial ?_
  refine aw_sld es_513 (by omega) (by omega) hL ?_
  refine aw_crV (rest := [_]) hM kX12_doors eL_law_514 lL_law_514 rfl rfl rfl rfl (Nat.le_of_ble_eq_true rfl) ⟨Nat.le_of_ble_eq_true rfl, Nat.le_of_ble_eq_true rfl⟩ hcs ?_
  intro r μ2 ν2 hp2
  obtain ⟨rfl, hR2⟩ := hp2
  refine aw_icmp_eq (tgt := 1423) eL_law_517 (by decide) (by exact hz) (by exact hz) (fun h3 => ?_) (fun h3 => ?_)
  · exact K μ2 ν2 hR2
  · exact absurd rfl h3
theorem lc_10 {κ : KX} {cells slots : Nat} {i : Int} {μ : MM} {ν : ML} (hcs : cells ≤ 600000 ∧ slots ≤ 7302250) (hL : κ.2.2.2.2.1 < 2147483648) (h0 : 0 ≤ i) (h6 : i + 6 ≤ (κ.2.2.2.2.1 : Int)) (hR : Rel μ ν) (K : ∀ (μ2 : MM) (ν2 : ML), Rel μ2 ν2 → AL κ cells slots 1423 [aS 5, aR 0, aR 55, aI i] [] μ2 ν2) : AL κ cells slots 522 [aS 5, aR 0, aR 55, aI i] [] μ ν := by
  obtain ⟨P, hP, hQ⟩ := q_line (κ := κ) (a := sc κ (i + 1)) (b := sc κ (i + 2)) (c := sc κ (i + 3)) hR (sc_R _) (sc_R _) (sc_R _)
  refine aw_blk os_522 (pc' := 527) (ls' := [_, _, _, _]) (st' := [_, _, _]) (cs := []) rfl trivial ?_
  refine aw_sld es_527 (by omega) (by omega) hL ?_
  refine aw_blk os_528 (pc' := 532) (ls' := [_, _, _, _]) (st' := [_, _, _, _]) (cs := []) rfl trivial ?_
  refine aw_sld es_532 (by omega) (by omega) hL ?_
  refine aw_blk os_533 (pc' := 537) (ls' := [_, _, _, _]) (st' := [_, _, _, _, _]) (cs := []) rfl trivial ?_
  refine aw_sld es_537 (by omega) (by omega) hL ?_
  refine aw_crV (rest := []) hP kX11_line eL_law_538 lL_law_538 rfl rfl rfl rfl (Nat.le_of_ble_eq_true rfl) ⟨Nat.le_of_ble_eq_true rfl, Nat.le_of_ble_eq_true rfl⟩ hcs ?_
  intro r μ1 ν1 hp
  obtain ⟨z, rfl, hz, hM⟩ := hQ r μ1 ν1 hp
  refine aw_blk os_541 (pc' := 546) (ls' := [_, _, _, _]) (st' := [_, _, _, _]) (cs := []) rfl trivial ?_
  refine aw_sld es_546 (by omega) (by omega) hL ?_
  refine aw_blk os_547 (pc' := 551) (ls' := [_, _, _, _]) (st' := [_, _, _, _, _]) (cs := []) rfl trivial ?_
  refine aw_sld es_551 (by omega) (by omega) hL ?_
  refine aw_blk os_552 (pc' := 556) (ls' := [_, _, _, _]) (st' := [_, _, _, _, _, _]) (cs := []) rfl trivial ?_
  refine aw_sld es_556 (by omega) (by omega) hL ?_
  refine aw_crV (rest := [_]) hM kX12_line eL_law_557 lL_law_557 rfl rfl rfl rfl (Nat.le_of_ble_eq_true rfl) ⟨Nat.le_of_ble_eq_true rfl, Nat.le_of_ble_eq_true rfl⟩ hcs ?_
  intro r μ2 ν2 hp2
  obtain ⟨rfl, hR2⟩ := hp2
  refine aw_icmp_eq (tgt := 1423) eL_law_560 (by decide) (by exact hz) (by exact hz) (fun h3 => ?_) (fun h3 => ?_)
  · exact K μ2 ν2 hR2
  · exact absurd rfl h3
theorem lc_11 {κ : KX} {cells slots : Nat} {i : Int} {μ : MM} {ν : ML} (hcs : cells ≤ 600000 ∧ slots ≤ 7302250) (hL : κ.2.2.2.2.1 < 2147483648) (h0 : 0 ≤ i) (h6 : i + 6 ≤ (κ.2.2.2.2.1 : Int)) (hR : Rel μ ν) (K : ∀ (μ2 : MM) (ν2 : ML), Rel μ2 ν2 → AL κ cells slots 1423 [aS 5, aR 0, aR 55, aI i] [] μ2 ν2) : AL κ cells slots 565 [aS 5, aR 0, aR 55, aI i] [] μ ν := by
  obtain ⟨P, hP, hQ⟩ := q_say (κ := κ) (a := sc κ (i + 1)) hR (sc_R _)
  refine aw_blk os_565 (pc' := 570) (ls' := [_, _, _, _]) (st' := [_, _, _]) (cs := []) rfl trivial ?_
  refine aw_sld es_570 (by omega) (by omega) hL ?_
  refine aw_crV (rest := []) hP kX11_say eL_law_571 lL_law_571 rfl rfl rfl rfl (Nat.le_of_ble_eq_true rfl) ⟨Nat.le_of_ble_eq_true rfl, Nat.le_of_ble_eq_true rfl⟩ hcs ?_
  intro r μ1 ν1 hp
  obtain ⟨z, rfl, hz, hM⟩ := hQ r μ1 ν1 hp
  refine aw_blk os_574 (pc' := 579) (ls' := [_, _, _, _]) (st' := [_, _, _, _]) (cs := []) rfl trivial ?_
  refine aw_sld es_579 (by omega) (by omega) hL ?_
  refine aw_crV (rest := [_]) hM kX12_say eL_law_580 lL_law_580 rfl rfl rfl rfl (Nat.le_of_ble_eq_true rfl) ⟨Nat.le_of_ble_eq_true rfl, Nat.le_of_ble_eq_true rfl⟩ hcs ?_
  intro r μ2 ν2 hp2
  obtain ⟨rfl, hR2⟩ := hp2
  refine aw_icmp_eq (tgt := 1423) eL_law_583 (by decide) (by exact hz) (by exact hz) (fun h3 => ?_) (fun h3 => ?_)
  · exact K μ2 ν2 hR2
  · exact absurd rfl h3
theorem lc_12 {κ : KX} {cells slots : Nat} {i : Int} {μ : MM} {ν : ML} (hcs : cells ≤ 600000 ∧ slots ≤ 7302250) (hL : κ.2.2.2.2.1 < 2147483648) (h0 : 0 ≤ i) (h6 : i + 6 ≤ (κ.2.2.2.2.1 : Int)) (hR : Rel μ ν) (K : ∀ (μ2 : MM) (ν2 : ML), Rel μ2 ν2 → AL κ cells slots 1423 [aS 5, aR 0, aR 55, aI i] [] μ2 ν2) : AL κ cells slots 588 [aS 5, aR 0, aR 55, aI i] [] μ ν := by
  obtain ⟨P, hP, hQ⟩ := q_wipe (κ := κ) hR
  refine aw_blk oL_law_588 (pc' := 589) (ls' := [_, _, _, _]) (st' := [_]) (cs := []) rfl trivial ?_
  refine aw_crV (rest := []) hP kX11_wipe eL_law_589 lL_law_589 rfl rfl rfl rfl (Nat.le_of_ble_eq_true rfl) ⟨Nat.le_of_ble_eq_true rfl, Nat.le_of_ble_eq_true rfl⟩ hcs ?_
  intro r μ1 ν1 hp
  obtain ⟨z, rfl, hz, hM⟩ := hQ r μ1 ν1 hp
  refine aw_blk oL_law_592 (pc' := 593) (ls' := [_, _, _, _]) (st' := [_, _]) (cs := []) rfl trivial ?_
  refine aw_crV (rest := [_]) hM kX12_wipe eL_law_593 lL_law_593 rfl rfl rfl rfl (Nat.le_of_ble_eq_true rfl) ⟨Nat.le_of_ble_eq_true rfl, Nat.le_of_ble_eq_true rfl⟩ hcs ?_
  intro r μ2 ν2 hp2
  obtain ⟨rfl, hR2⟩ := hp2
  refine aw_icmp_eq (tgt := 1423) eL_law_596 (by decide) (by exact hz) (by exact hz) (fun h3 => ?_) (fun h3 => ?_)
  · exact K μ2 ν2 hR2
  · exact absurd rfl h3
theorem lc_13 {κ : KX} {cells slots : Nat} {i : Int} {μ : MM} {ν : ML} (hcs : cells ≤ 600000 ∧ slots ≤ 7302250) (hL : κ.2.2.2.2.1 < 2147483648) (h0 : 0 ≤ i) (h6 : i + 6 ≤ (κ.2.2.2.2.1 : Int)) (hR : Rel μ ν) (K : ∀ (μ2 : MM) (ν2 : ML), Rel μ2 ν2 → AL κ cells slots 1423 [aS 5, aR 0, aR 55, aI i] [] μ2 ν2) : AL κ cells slots 601 [aS 5, aR 0, aR 55, aI i] [] μ ν := by
  obtain ⟨P, hP, hQ⟩ := q_fault (κ := κ) hR
  refine aw_blk oL_law_601 (pc' := 602) (ls' := [_, _, _, _]) (st' := [_]) (cs := []) rfl trivial ?_
  refine aw_crV (rest := []) hP kX11_fault eL_law_602 lL_law_602 rfl rfl rfl rfl (Nat.le_of_ble_eq_true rfl) ⟨Nat.le_of_ble_eq_true rfl, Nat.le_of_ble_eq_true rfl⟩ hcs ?_
  intro r μ1 ν1 hp
  obtain ⟨z, rfl, hz, hM⟩ := hQ r μ1 ν1 hp
  refine aw_blk oL_law_605 (pc' := 606) (ls' := [_, _, _, _]) (st' := [_, _]) (cs := []) rfl trivial ?_
  refine aw_crV (rest := [_]) hM kX12_fault eL_law_606 lL_law_606 rfl rfl rfl rfl (Nat.le_of_ble_eq_true rfl) ⟨Nat.le_of_ble_eq_true rfl, Nat.le_of_ble_eq_true rfl⟩ hcs ?_
  intro r μ2 ν2 hp2
  obtain ⟨rfl, hR2⟩ := hp2
  refine aw_icmp_eq (tgt := 1423) eL_law_609 (by decide) (by exact hz) (by exact hz) (fun h3 => ?_) (fun h3 => ?_)
  · exact K μ2 ν2 hR2
  · exact absurd rfl h3
theorem lc_14 {κ : KX} {cells slots : Nat} {i : Int} {μ : MM} {ν : ML} (hcs : cells ≤ 600000 ∧ slots ≤ 7302250) (hL : κ.2.2.2.2.1 < 2147483648) (h0 : 0 ≤ i) (h6 : i + 6 ≤ (κ.2.2.2.2.1 : Int)) (hR : Rel μ ν) (K : ∀ (μ2 : MM) (ν2 : ML), Rel μ2 ν2 → AL κ cells slots 1423 [aS 5, aR 0, aR 55, aI i] [] μ2 ν2) : AL κ cells slots 614 [aS 5, aR 0, aR 55, aI i] [] μ ν := by
  obtain ⟨P, hP, hQ⟩ := q_rule (κ := κ) hR
  refine aw_blk oL_law_614 (pc' := 615) (ls' := [_, _, _, _]) (st' := [_]) (cs := []) rfl trivial ?_
  refine aw_crV (rest := []) hP kX11_rule eL_law_615 lL_law_615 rfl rfl rfl rfl (Nat.le_of_ble_eq_true rfl) ⟨Nat.le_of_ble_eq_true rfl, Nat.le_of_ble_eq_true rfl⟩ hcs ?_
  intro r μ1 ν1 hp
  obtain ⟨z, rfl, hz, hM⟩ := hQ r μ1 ν1 hp
  refine aw_blk oL_law_618 (pc' := 619) (ls' := [_, _, _, _]) (st' := [_, _]) (cs := []) rfl trivial ?_
  refine aw_crV (rest := [_]) hM kX12_rule eL_law_619 lL_law_619 rfl rfl rfl rfl (Nat.le_of_ble_eq_true rfl) ⟨Nat.le_of_ble_eq_true rfl, Nat.le_of_ble_eq_true rfl⟩ hcs ?_
  intro r μ2 ν2 hp2
  obtain ⟨rfl, hR2⟩ := hp2
  refine aw_icmp_eq (tgt := 1423) eL_law_622 (by decide) (by exact hz) (by exact hz) (fun h3 => ?_) (fun h3 => ?_)
  · exact K μ2 ν2 hR2
  · exact absurd rfl h3
theorem lc_15 {κ : KX} {cells slots : Nat} {i : Int} {μ : MM} {ν : ML} (hcs : cells ≤ 600000 ∧ slots ≤ 7302250) (hL : κ.2.2.2.2.1 < 2147483648) (h0 : 0 ≤ i) (h6 : i + 6 ≤ (κ.2.2.2.2.1 : Int)) (hR : Rel μ ν) (K : ∀ (μ2 : MM) (ν2 : ML), Rel μ2 ν2 → AL κ cells slots 1423 [aS 5, aR 0, aR 55, aI i] [] μ2 ν2) : AL κ cells slots 627 [aS 5, aR 0, aR 55, aI i] [] μ ν := by
  obtain ⟨P, hP, hQ⟩ := q_show (κ := κ) (a := sc κ (i + 1)) hR (sc_R _)
  refine aw_blk os_627 (pc' := 632) (ls' := [_, _, _, _]) (st' := [_, _, _]) (cs := []) rfl trivial ?_
  refine aw_sld es_632 (by omega) (by omega) hL ?_
  refine aw_crV (rest := []) hP kX11_show eL_law_633 lL_law_633 rfl rfl rfl rfl (Nat.le_of_ble_eq_true rfl) ⟨Nat.le_of_ble_eq_true rfl, Nat.le_of_ble_eq_true rfl⟩ hcs ?_
  intro r μ1 ν1 hp
  obtain ⟨z, rfl, hz, hM⟩ := hQ r μ1 ν1 hp
  refine aw_blk os_636 (pc' := 641) (ls' := [_, _, _, _]) (st' := [_, _, _, _]) (cs := []) rfl trivial ?_
  refine aw_sld es_641 (by omega) (by omega) hL ?_
  refine aw_crV (rest := [_]) hM kX12_show eL_law_642 lL_law_642 rfl rfl rfl rfl (Nat.le_of_ble_eq_true rfl) ⟨Nat.le_of_ble_eq_true rfl, Nat.le_of_ble_eq_true rfl⟩ hcs ?_
  intro r μ2 ν2 hp2
  obtain ⟨rfl, hR2⟩ := hp2
  refine aw_icmp_eq (tgt := 1423) eL_law_645 (by decide) (by exact hz) (by exact hz) (fun h3 => ?_) (fun h3 => ?_)
  · exact K μ2 ν2 hR2
  · exact absurd rfl h3
theorem lc_16 {κ : KX} {cells slots : Nat} {i : Int} {μ : MM} {ν : ML} (hcs : cells ≤ 600000 ∧ slots ≤ 7302250) (hL : κ.2.2.2.2.1 < 2147483648) (h0 : 0 ≤ i) (h6 : i + 6 ≤ (κ.2.2.2.2.1 : Int)) (hR : Rel μ ν) (K : ∀ (μ2 : MM) (ν2 : ML), Rel μ2 ν2 → AL κ cells slots 1423 [aS 5, aR 0, aR 55, aI i] [] μ2 ν2) : AL κ cells slots 650 [aS 5, aR 0, aR 55, aI i] [] μ ν := by
  obtain ⟨P, hP, hQ⟩ := q_best (κ := κ) (a := sc κ (i + 1)) hR (sc_R _)
  refine aw_blk os_650 (pc' := 655) (ls' := [_, _, _, _]) (st' := [_, _, _]) (cs := []) rfl trivial ?_
  refine aw_sld es_655 (by omega) (by omega) hL ?_
  refine aw_crV (rest := []) hP kX11_best eL_law_656 lL_law_656 rfl rfl rfl rfl (Nat.le_of_ble_eq_true rfl) ⟨Nat.le_of_ble_eq_true rfl, Nat.le_of_ble_eq_true rfl⟩ hcs ?_
  intro r μ1 ν1 hp
  obtain ⟨z, rfl, hz, hM⟩ := hQ r μ1 ν1 hp
  refine aw_blk os_659 (pc' := 664) (ls' := [_, _, _, _]) (st' := [_, _, _, _]) (cs := []) rfl trivial ?_
  refine aw_sld es_664 (by omega) (by omega) hL ?_
  refine aw_crV (rest := [_]) hM kX12_best eL_law_665 lL_law_665 rfl rfl rfl rfl (Nat.le_of_ble_eq_true rfl) ⟨Nat.le_of_ble_eq_true rfl, Nat.le_of_ble_eq_true rfl⟩ hcs ?_
  intro r μ2 ν2 hp2
  obtain ⟨rfl, hR2⟩ := hp2
  refine aw_icmp_eq (tgt := 1423) eL_law_668 (by decide) (by exact hz) (by exact hz) (fun h3 => ?_) (fun h3 => ?_)
  · exact K μ2 ν2 hR2
  · exact absurd rfl h3
theorem lc_17 {κ : KX} {cells slots : Nat} {i : Int} {μ : MM} {ν : ML} (hcs : cells ≤ 600000 ∧ slots ≤ 7302250) (hL : κ.2.2.2.2.1 < 2147483648) (h0 : 0 ≤ i) (h6 : i + 6 ≤ (κ.2.2.2.2.1 : Int)) (hR : Rel μ ν) (K : ∀ (μ2 : MM) (ν2 : ML), Rel μ2 ν2 → AL κ cells slots 1423 [aS 5, aR 0, aR 55, aI i] [] μ2 ν2) : AL κ cells slots 673 [aS 5, aR 0, aR 55, aI i] [] μ ν := by
  obtain ⟨P, hP, hQ⟩ := q_town (κ := κ) (a := sc κ (i + 1)) (b := sc κ (i + 2)) (c := sc κ (i + 3)) hR (sc_R _) (sc_R _) (sc_R _)
  refine aw_blk os_673 (pc' := 678) (ls' := [_, _, _, _]) (st' := [_, _, _]) (cs := []) rfl trivial ?_
  refine aw_sld es_678 (by omega) (by omega) hL ?_
  refine aw_blk os_679 (pc' := 683) (ls' := [_, _, _, _]) (st' := [_, _, _, _]) (cs := []) rfl trivial ?_
  refine aw_sld es_683 (by omega) (by omega) hL ?_
  refine aw_blk os_684 (pc' := 688) (ls' := [_, _, _, _]) (st' := [_, _, _, _, _]) (cs := []) rfl trivial ?_
  refine aw_sld es_688 (by omega) (by omega) hL ?_
  refine aw_crV (rest := []) hP kX11_town eL_law_689 lL_law_689 rfl rfl rfl rfl (Nat.le_of_ble_eq_true rfl) ⟨Nat.le_of_ble_eq_true rfl, Nat.le_of_ble_eq_true rfl⟩ hcs ?_
  intro r μ1 ν1 hp
  obtain ⟨z, rfl, hz, hM⟩ := hQ r μ1 ν1 hp
  refine aw_blk os_692 (pc' := 697) (ls' := [_, _, _, _]) (st' := [_, _, _, _]) (cs := []) rfl trivial ?_
  refine aw_sld es_697 (by omega) (by omega) hL ?_
  refine aw_blk os_698 (pc' := 702) (ls' := [_, _, _, _]) (st' := [_, _, _, _, _]) (cs := []) rfl trivial ?_
  refine aw_sld es_702 (by omega) (by omega) hL ?_
  refine aw_blk os_703 (pc' := 707) (ls' := [_, _, _, _]) (st' := [_, _, _, _, _, _]) (cs := []) rfl trivial ?_
  refine aw_sld es_707 (by omega) (by omega) hL ?_
  refine aw_crV (rest := [_]) hM kX12_town eL_law_708 lL_law_708 rfl rfl rfl rfl (Nat.le_of_ble_eq_true rfl) ⟨Nat.le_of_ble_eq_true rfl, Nat.le_of_ble_eq_true rfl⟩ hcs ?_
  intro r μ2 ν2 hp2
  obtain ⟨rfl, hR2⟩ := hp2
  refine aw_icmp_eq (tgt := 1423) eL_law_711 (by decide) (by exact hz) (by exact hz) (fun h3 => ?_) (fun h3 => ?_)
  · exact K μ2 ν2 hR2
  · exact absurd rfl h3
theorem lc_18 {κ : KX} {cells slots : Nat} {i : Int} {μ : MM} {ν : ML} (hcs : cells ≤ 600000 ∧ slots ≤ 7302250) (hL : κ.2.2.2.2.1 < 2147483648) (h0 : 0 ≤ i) (h6 : i + 6 ≤ (κ.2.2.2.2.1 : Int)) (hR : Rel μ ν) (K : ∀ (μ2 : MM) (ν2 : ML), Rel μ2 ν2 → AL κ cells slots 1423 [aS 5, aR 0, aR 55, aI i] [] μ2 ν2) : AL κ cells slots 716 [aS 5, aR 0, aR 55, aI i] [] μ ν := by
  obtain ⟨P, hP, hQ⟩ := q_weight (κ := κ) (a := sc κ (i + 1)) (b := sc κ (i + 2)) hR (sc_R _) (sc_R _)
  refine aw_blk os_716 (pc' := 721) (ls' := [_, _, _, _]) (st' := [_, _, _]) (cs := []) rfl trivial ?_
  refine aw_sld es_721 (by omega) (by omega) hL ?_
  refine aw_blk os_722 (pc' := 726) (ls' := [_, _, _, _]) (st' := [_, _, _, _]) (cs := []) rfl trivial ?_
  refine aw_sld es_726 (by omega) (by omega) hL ?_
  refine aw_crV (rest := []) hP kX11_weight eL_law_727 lL_law_727 rfl rfl rfl rfl (Nat.le_of_ble_eq_true rfl) ⟨Nat.le_of_ble_eq_true rfl, Nat.le_of_ble_eq_true rfl⟩ hcs ?_
  intro r μ1 ν1 hp
  obtain ⟨z, rfl, hz, hM⟩ := hQ r μ1 ν1 hp
  refine aw_blk os_730 (pc' := 735) (ls' := [_, _, _, _]) (st' := [_, _, _, _]) (cs := []) rfl trivial ?_
  refine aw_sld es_735 (by omega) (by omega) hL ?_
  refine aw_blk os_736 (pc' := 740) (ls' := [_, _, _, _]) (st' := [_, _, _, _, _]) (cs := []) rfl trivial ?_
  refine aw_sld es_740 (by omega) (by omega) hL ?_
  refine aw_crV (rest := [_]) hM kX12_weight eL_law_741 lL_law_741 rfl rfl rfl rfl (Nat.le_of_ble_eq_true rfl) ⟨Nat.le_of_ble_eq_true rfl, Nat.le_of_ble_eq_true rfl⟩ hcs ?_
  intro r μ2 ν2 hp2
  obtain ⟨rfl, hR2⟩ := hp2
  refine aw_icmp_eq (tgt := 1423) eL_law_744 (by decide) (by exact hz) (by exact hz) (fun h3 => ?_) (fun h3 => ?_)
  · exact K μ2 ν2 hR2
  · exact absurd rfl h3
theorem lc_19 {κ : KX} {cells slots : Nat} {i : Int} {μ : MM} {ν : ML} (hcs : cells ≤ 600000 ∧ slots ≤ 7302250) (hL : κ.2.2.2.2.1 < 2147483648) (h0 : 0 ≤ i) (h6 : i + 6 ≤ (κ.2.2.2.2.1 : Int)) (hR : Rel μ ν) (K : ∀ (μ2 : MM) (ν2 : ML), Rel μ2 ν2 → AL κ cells slots 1423 [aS 5, aR 0, aR 55, aI i] [] μ2 ν2) : AL κ cells slots 749 [aS 5, aR 0, aR 55, aI i] [] μ ν := by
  obtain ⟨P, hP, hQ⟩ := q_ask (κ := κ) (a := sc κ (i + 1)) (b := sc κ (i + 2)) (c := sc κ (i + 3)) hR (sc_R _) (sc_R _) (sc_R _)
  refine aw_blk os_749 (pc' := 754) (ls' := [_, _, _, _]) (st' := [_, _, _]) (cs := []) rfl trivial ?_
  refine aw_sld es_754 (by omega) (by omega) hL ?_
  refine aw_blk os_755 (pc' := 759) (ls' := [_, _, _, _]) (st' := [_, _, _, _]) (cs := []) rfl trivial ?_
  refine aw_sld es_759 (by omega) (by omega) hL ?_
  refine aw_blk os_760 (pc' := 764) (ls' := [_, _, _, _]) (st' := [_, _, _, _, _]) (cs := []) rfl trivial ?_
  refine aw_sld es_764 (by omega) (by omega) hL ?_
  refine aw_crV (rest := []) hP kX11_ask eL_law_765 lL_law_765 rfl rfl rfl rfl (Nat.le_of_ble_eq_true rfl) ⟨Nat.le_of_ble_eq_true rfl, Nat.le_of_ble_eq_true rfl⟩ hcs ?_
  intro r μ1 ν1 hp
  obtain ⟨z, rfl, hz, hM⟩ := hQ r μ1 ν1 hp
  refine aw_blk os_768 (pc' := 773) (ls' := [_, _, _, _]) (st' := [_, _, _, _]) (cs := []) rfl trivial ?_
  refine aw_sld es_773 (by omega) (by omega) hL ?_
  refine aw_blk os_774 (pc' := 778) (ls' := [_, _, _, _]) (st' := [_, _, _, _, _]) (cs := []) rfl trivial ?_
  refine aw_sld es_778 (by omega) (by omega) hL ?_
  refine aw_blk os_779 (pc' := 783) (ls' := [_, _, _, _]) (st' := [_, _, _, _, _, _]) (cs := []) rfl trivial ?_
  refine aw_sld es_783 (by omega) (by omega) hL ?_
  refine aw_crV (rest := [_]) hM kX12_ask eL_law_784 lL_law_784 rfl rfl rfl rfl (Nat.le_of_ble_eq_true rfl) ⟨Nat.le_of_ble_eq_true rfl, Nat.le_of_ble_eq_true rfl⟩ hcs ?_
  intro r μ2 ν2 hp2
  obtain ⟨rfl, hR2⟩ := hp2
  refine aw_icmp_eq (tgt := 1423) eL_law_787 (by decide) (by exact hz) (by exact hz) (fun h3 => ?_) (fun h3 => ?_)
  · exact K μ2 ν2 hR2
  · exact absurd rfl h3
theorem lc_20 {κ : KX} {cells slots : Nat} {i : Int} {μ : MM} {ν : ML} (hcs : cells ≤ 600000 ∧ slots ≤ 7302250) (hL : κ.2.2.2.2.1 < 2147483648) (h0 : 0 ≤ i) (h6 : i + 6 ≤ (κ.2.2.2.2.1 : Int)) (hR : Rel μ ν) (K : ∀ (μ2 : MM) (ν2 : ML), Rel μ2 ν2 → AL κ cells slots 1423 [aS 5, aR 0, aR 55, aI i] [] μ2 ν2) : AL κ cells slots 792 [aS 5, aR 0, aR 55, aI i] [] μ ν := by
  obtain ⟨P, hP, hQ⟩ := q_kept (κ := κ) (a := sc κ (i + 1)) (b := sc κ (i + 2)) hR (sc_R _) (sc_R _)
  refine aw_blk os_792 (pc' := 797) (ls' := [_, _, _, _]) (st' := [_, _, _]) (cs := []) rfl trivial ?_
  refine aw_sld es_797 (by omega) (by omega) hL ?_
  refine aw_blk os_798 (pc' := 802) (ls' := [_, _, _, _]) (st' := [_, _, _, _]) (cs := []) rfl trivial ?_
  refine aw_sld es_802 (by omega) (by omega) hL ?_
  refine aw_crV (rest := []) hP kX11_kept eL_law_803 lL_law_803 rfl rfl rfl rfl (Nat.le_of_ble_eq_true rfl) ⟨Nat.le_of_ble_eq_true rfl, Nat.le_of_ble_eq_true rfl⟩ hcs ?_
  intro r μ1 ν1 hp
  obtain ⟨z, rfl, hz, hM⟩ := hQ r μ1 ν1 hp
  refine aw_blk os_806 (pc' := 811) (ls' := [_, _, _, _]) (st' := [_, _, _, _]) (cs := []) rfl trivial ?_
  refine aw_sld es_811 (by omega) (by omega) hL ?_
  refine aw_blk os_812 (pc' := 816) (ls' := [_, _, _, _]) (st' := [_, _, _, _, _]) (cs := []) rfl trivial ?_
  refine aw_sld es_816 (by omega) (by omega) hL ?_
  refine aw_crV (rest := [_]) hM kX12_kept eL_law_817 lL_law_817 rfl rfl rfl rfl (Nat.le_of_ble_eq_true rfl) ⟨Nat.le_of_ble_eq_true rfl, Nat.le_of_ble_eq_true rfl⟩ hcs ?_
  intro r μ2 ν2 hp2
  obtain ⟨rfl, hR2⟩ := hp2
  refine aw_icmp_eq (tgt := 1423) eL_law_820 (by decide) (by exact hz) (by exact hz) (fun h3 => ?_) (fun h3 => ?_)
  · exact K μ2 ν2 hR2
  · exact absurd rfl h3
theorem lc_21 {κ : KX} {cells slots : Nat} {i : Int} {μ : MM} {ν : ML} (hcs : cells ≤ 600000 ∧ slots ≤ 7302250) (hL : κ.2.2.2.2.1 < 2147483648) (h0 : 0 ≤ i) (h6 : i + 6 ≤ (κ.2.2.2.2.1 : Int)) (hR : Rel μ ν) (K : ∀ (μ2 : MM) (ν2 : ML), Rel μ2 ν2 → AL κ cells slots 1423 [aS 5, aR 0, aR 55, aI i] [] μ2 ν2) : AL κ cells slots 825 [aS 5, aR 0, aR 55, aI i] [] μ ν := by
  obtain ⟨P, hP, hQ⟩ := q_right (κ := κ) (a := sc κ (i + 1)) (b := sc κ (i + 2)) (c := sc κ (i + 3)) (d := sc κ (i + 4)) (e := sc κ (i + 5)) hR (sc_R _) (sc_R _) (sc_R _) (sc_R _) (sc_R _)
  refine aw_blk os_825 (pc' := 830) (ls' := [_, _, _, _]) (st' := [_, _, _]) (cs := []) rfl trivial ?_
  refine aw_sld es_830 (by omega) (by omega) hL ?_
  refine aw_blk os_831 (pc' := 835) (ls' := [_, _, _, _]) (st' := [_, _, _, _]) (cs := []) rfl trivial ?_
  refine aw_sld es_835 (by omega) (by omega) hL ?_
  refine aw_blk os_836 (pc' := 840) (ls' := [_, _, _, _]) (st' := [_, _, _, _, _]) (cs := []) rfl trivial ?_
  refine aw_sld es_840 (by omega) (by omega) hL ?_
  refine aw_blk os_841 (pc' := 845) (ls' := [_, _, _, _]) (st' := [_, _, _, _, _, _]) (cs := []) rfl trivial ?_
  refine aw_sld es_845 (by omega) (by omega) hL ?_
  refine aw_blk os_846 (pc' := 850) (ls' := [_, _, _, _]) (st' := [_, _, _, _, _, _, _]) (cs := []) rfl trivial ?_
  refine aw_sld es_850 (by omega) (by omega) hL ?_
  refine aw_crV (rest := []) hP kX11_right eL_law_851 lL_law_851 rfl rfl rfl rfl (Nat.le_of_ble_eq_true rfl) ⟨Nat.le_of_ble_eq_true rfl, Nat.le_of_ble_eq_true rfl⟩ hcs ?_
  intro r μ1 ν1 hp
  obtain ⟨z, rfl, hz, hM⟩ := hQ r μ1 ν1 hp
  refine aw_blk os_854 (pc' := 859) (ls' := [_, _, _, _]) (st' := [_, _, _, _]) (cs := []) rfl trivial ?_
  refine aw_sld es_859 (by omega) (by omega) hL ?_
  refine aw_blk os_860 (pc' := 864) (ls' := [_, _, _, _]) (st' := [_, _, _, _, _]) (cs := []) rfl trivial ?_
  refine aw_sld es_864 (by omega) (by omega) hL ?_
  refine aw_blk os_865 (pc' := 869) (ls' := [_, _, _, _]) (st' := [_, _, _, _, _, _]) (cs := []) rfl trivial ?_
  refine aw_sld es_869 (by omega) (by omega) hL ?_
  refine aw_blk os_870 (pc' := 874) (ls' := [_, _, _, _]) (st' := [_, _, _, _, _, _, _]) (cs := []) rfl trivial ?_
  refine aw_sld es_874 (by omega) (by omega) hL ?_
  refine aw_blk os_875 (pc' := 879) (ls' := [_, _, _, _]) (st' := [_, _, _, _, _, _, _, _]) (cs := []) rfl trivial ?_
  refine aw_sld es_879 (by omega) (by omega) hL ?_
  refine aw_crV (rest := [_]) hM kX12_right eL_law_880 lL_law_880 rfl rfl rfl rfl (Nat.le_of_ble_eq_true rfl) ⟨Nat.le_of_ble_eq_true rfl, Nat.le_of_ble_eq_true rfl⟩ hcs ?_
  intro r μ2 ν2 hp2
  obtain ⟨rfl, hR2⟩ := hp2
  refine aw_icmp_eq (tgt := 1423) eL_law_883 (by decide) (by exact hz) (by exact hz) (fun h3 => ?_) (fun h3 => ?_)
  · exact K μ2 ν2 hR2
  · exact absurd rfl h3
theorem lc_22 {κ : KX} {cells slots : Nat} {i : Int} {μ : MM} {ν : ML} (hcs : cells ≤ 600000 ∧ slots ≤ 7302250) (hL : κ.2.2.2.2.1 < 2147483648) (h0 : 0 ≤ i) (h6 : i + 6 ≤ (κ.2.2.2.2.1 : Int)) (hR : Rel μ ν) (K : ∀ (μ2 : MM) (ν2 : ML), Rel μ2 ν2 → AL κ cells slots 1423 [aS 5, aR 0, aR 55, aI i] [] μ2 ν2) : AL κ cells slots 888 [aS 5, aR 0, aR 55, aI i] [] μ ν := by
  obtain ⟨P, hP, hQ⟩ := q_land (κ := κ) (a := sc κ (i + 1)) (b := sc κ (i + 2)) hR (sc_R _) (sc_R _)
  refine aw_blk os_888 (pc' := 893) (ls' := [_, _, _, _]) (st' := [_, _, _]) (cs := []) rfl trivial ?_
  refine aw_sld es_893 (by omega) (by omega) hL ?_
  refine aw_blk os_894 (pc' := 898) (ls' := [_, _, _, _]) (st' := [_, _, _, _]) (cs := []) rfl trivial ?_
  refine aw_sld es_898 (by omega) (by omega) hL ?_
  refine aw_crV (rest := []) hP kX11_land eL_law_899 lL_law_899 rfl rfl rfl rfl (Nat.le_of_ble_eq_true rfl) ⟨Nat.le_of_ble_eq_true rfl, Nat.le_of_ble_eq_true rfl⟩ hcs ?_
  intro r μ1 ν1 hp
  obtain ⟨z, rfl, hz, hM⟩ := hQ r μ1 ν1 hp
  refine aw_blk os_902 (pc' := 907) (ls' := [_, _, _, _]) (st' := [_, _, _, _]) (cs := []) rfl trivial ?_
  refine aw_sld es_907 (by omega) (by omega) hL ?_
  refine aw_blk os_908 (pc' := 912) (ls' := [_, _, _, _]) (st' := [_, _, _, _, _]) (cs := []) rfl trivial ?_
  refine aw_sld es_912 (by omega) (by omega) hL ?_
  refine aw_crV (rest := [_]) hM kX12_land eL_law_913 lL_law_913 rfl rfl rfl rfl (Nat.le_of_ble_eq_true rfl) ⟨Nat.le_of_ble_eq_true rfl, Nat.le_of_ble_eq_true rfl⟩ hcs ?_
  intro r μ2 ν2 hp2
  obtain ⟨rfl, hR2⟩ := hp2
  refine aw_icmp_eq (tgt := 1423) eL_law_916 (by decide) (by exact hz) (by exact hz) (fun h3 => ?_) (fun h3 => ?_)
  · exact K μ2 ν2 hR2
  · exact absurd rfl h3
theorem lc_23 {κ : KX} {cells slots : Nat} {i : Int} {μ : MM} {ν : ML} (hcs : cells ≤ 600000 ∧ slots ≤ 7302250) (hL : κ.2.2.2.2.1 < 2147483648) (h0 : 0 ≤ i) (h6 : i + 6 ≤ (κ.2.2.2.2.1 : Int)) (hR : Rel μ ν) (K : ∀ (μ2 : MM) (ν2 : ML), Rel μ2 ν2 → AL κ cells slots 1423 [aS 5, aR 0, aR 55, aI i] [] μ2 ν2) : AL κ cells slots 921 [aS 5, aR 0, aR 55, aI i] [] μ ν := by
  obtain ⟨P, hP, hQ⟩ := q_may (κ := κ) (a := sc κ (i + 1)) (b := sc κ (i + 2)) (c := sc κ (i + 3)) hR (sc_R _) (sc_R _) (sc_R _)
  refine aw_blk os_921 (pc' := 926) (ls' := [_, _, _, _]) (st' := [_, _, _]) (cs := []) rfl trivial ?_
  refine aw_sld es_926 (by omega) (by omega) hL ?_
  refine aw_blk os_927 (pc' := 931) (ls' := [_, _, _, _]) (st' := [_, _, _, _]) (cs := []) rfl trivial ?_
  refine aw_sld es_931 (by omega) (by omega) hL ?_
  refine aw_blk os_932 (pc' := 936) (ls' := [_, _, _, _]) (st' := [_, _, _, _, _]) (cs := []) rfl trivial ?_
  refine aw_sld es_936 (by omega) (by omega) hL ?_
  refine aw_crV (rest := []) hP kX11_may eL_law_937 lL_law_937 rfl rfl rfl rfl (Nat.le_of_ble_eq_true rfl) ⟨Nat.le_of_ble_eq_true rfl, Nat.le_of_ble_eq_true rfl⟩ hcs ?_
  intro r μ1 ν1 hp
  obtain ⟨z, rfl, hz, hM⟩ := hQ r μ1 ν1 hp
  refine aw_blk os_940 (pc' := 945) (ls' := [_, _, _, _]) (st' := [_, _, _, _]) (cs := []) rfl trivial ?_
  refine aw_sld es_945 (by omega) (by omega) hL ?_
  refine aw_blk os_946 (pc' := 950) (ls' := [_, _, _, _]) (st' := [_, _, _, _, _]) (cs := []) rfl trivial ?_
  refine aw_sld es_950 (by omega) (by omega) hL ?_
  refine aw_blk os_951 (pc' := 955) (ls' := [_, _, _, _]) (st' := [_, _, _, _, _, _]) (cs := []) rfl trivial ?_
  refine aw_sld es_955 (by omega) (by omega) hL ?_
  refine aw_crV (rest := [_]) hM kX12_may eL_law_956 lL_law_956 rfl rfl rfl rfl (Nat.le_of_ble_eq_true rfl) ⟨Nat.le_of_ble_eq_true rfl, Nat.le_of_ble_eq_true rfl⟩ hcs ?_
  intro r μ2 ν2 hp2
  obtain ⟨rfl, hR2⟩ := hp2
  refine aw_icmp_eq (tgt := 1423) eL_law_959 (by decide) (by exact hz) (by exact hz) (fun h3 => ?_) (fun h3 => ?_)
  · exact K μ2 ν2 hR2
  · exact absurd rfl h3
theorem lc_24 {κ : KX} {cells slots : Nat} {i : Int} {μ : MM} {ν : ML} (hcs : cells ≤ 600000 ∧ slots ≤ 7302250) (hL : κ.2.2.2.2.1 < 2147483648) (h0 : 0 ≤ i) (h6 : i + 6 ≤ (κ.2.2.2.2.1 : Int)) (hR : Rel μ ν) (K : ∀ (μ2 : MM) (ν2 : ML), Rel μ2 ν2 → AL κ cells slots 1423 [aS 5, aR 0, aR 55, aI i] [] μ2 ν2) : AL κ cells slots 964 [aS 5, aR 0, aR 55, aI i] [] μ ν := by
  obtain ⟨P, hP, hQ⟩ := q_see (κ := κ) (a := sc κ (i + 1)) (b := sc κ (i + 2)) (c := sc κ (i + 3)) (d := sc κ (i + 4)) (e := sc κ (i + 5)) hR (sc_R _) (sc_R _) (sc_R _) (sc_R _) (sc_R _)
  refine aw_blk os_964 (pc' := 969) (ls' := [_, _, _, _]) (st' := [_, _, _]) (cs := []) rfl trivial ?_
  refine aw_sld es_969 (by omega) (by omega) hL ?_
  refine aw_blk os_970 (pc' := 974) (ls' := [_, _, _, _]) (st' := [_, _, _, _]) (cs := []) rfl trivial ?_
  refine aw_sld es_974 (by omega) (by omega) hL ?_
  refine aw_blk os_975 (pc' := 979) (ls' := [_, _, _, _]) (st' := [_, _, _, _, _]) (cs := []) rfl trivial ?_
  refine aw_sld es_979 (by omega) (by omega) hL ?_
  refine aw_blk os_980 (pc' := 984) (ls' := [_, _, _, _]) (st' := [_, _, _, _, _, _]) (cs := []) rfl trivial ?_
  refine aw_sld es_984 (by omega) (by omega) hL ?_
  refine aw_blk os_985 (pc' := 989) (ls' := [_, _, _, _]) (st' := [_, _, _, _, _, _, _]) (cs := []) rfl trivial ?_
  refine aw_sld es_989 (by omega) (by omega) hL ?_
  refine aw_crV (rest := []) hP kX11_see eL_law_990 lL_law_990 rfl rfl rfl rfl (Nat.le_of_ble_eq_true rfl) ⟨Nat.le_of_ble_eq_true rfl, Nat.le_of_ble_eq_true rfl⟩ hcs ?_
  intro r μ1 ν1 hp
  obtain ⟨z, rfl, hz, hM⟩ := hQ r μ1 ν1 hp
  refine aw_blk os_993 (pc' := 998) (ls' := [_, _, _, _]) (st' := [_, _, _, _]) (cs := []) rfl trivial ?_
  refine aw_sld es_998 (by omega) (by omega) hL ?_
  refine aw_blk os_999 (pc' := 1003) (ls' := [_, _, _, _]) (st' := [_, _, _, _, _]) (cs := []) rfl trivial ?_
  refine aw_sld es_1003 (by omega) (by omega) hL ?_
  refine aw_blk os_1004 (pc' := 1008) (ls' := [_, _, _, _]) (st' := [_, _, _, _, _, _]) (cs := []) rfl trivial ?_
  refine aw_sld es_1008 (by omega) (by omega) hL ?_
  refine aw_blk os_1009 (pc' := 1013) (ls' := [_, _, _, _]) (st' := [_, _, _, _, _, _, _]) (cs := []) rfl trivial ?_
  refine aw_sld es_1013 (by omega) (by omega) hL ?_
  refine aw_blk os_1014 (pc' := 1018) (ls' := [_, _, _, _]) (st' := [_, _, _, _, _, _, _, _]) (cs := []) rfl trivial ?_
  refine aw_sld es_1018 (by omega) (by omega) hL ?_
  refine aw_crV (rest := [_]) hM kX12_see eL_law_1019 lL_law_1019 rfl rfl rfl rfl (Nat.le_of_ble_eq_true rfl) ⟨Nat.le_of_ble_eq_true rfl, Nat.le_of_ble_eq_true rfl⟩ hcs ?_
  intro r μ2 ν2 hp2
  obtain ⟨rfl, hR2⟩ := hp2
  refine aw_icmp_eq (tgt := 1423) eL_law_1022 (by decide) (by exact hz) (by exact hz) (fun h3 => ?_) (fun h3 => ?_)
  · exact K μ2 ν2 hR2
  · exact absurd rfl h3
theorem lc_25 {κ : KX} {cells slots : Nat} {i : Int} {μ : MM} {ν : ML} (hcs : cells ≤ 600000 ∧ slots ≤ 7302250) (hL : κ.2.2.2.2.1 < 2147483648) (h0 : 0 ≤ i) (h6 : i + 6 ≤ (κ.2.2.2.2.1 : Int)) (hR : Rel μ ν) (K : ∀ (μ2 : MM) (ν2 : ML), Rel μ2 ν2 → AL κ cells slots 1423 [aS 5, aR 0, aR 55, aI i] [] μ2 ν2) : AL κ cells slots 1027 [aS 5, aR 0, aR 55, aI i] [] μ ν := by
  obtain ⟨P, hP, hQ⟩ := q_seen (κ := κ) (a := sc κ (i + 1)) (b := sc κ (i + 2)) (c := sc κ (i + 3)) hR (sc_R _) (sc_R _) (sc_R _)
  refine aw_blk os_1027 (pc' := 1032) (ls' := [_, _, _, _]) (st' := [_, _, _]) (cs := []) rfl trivial ?_
  refine aw_sld es_1032 (by omega) (by omega) hL ?_
  refine aw_blk os_1033 (pc' := 1037) (ls' := [_, _, _, _]) (st' := [_, _, _, _]) (cs := []) rfl trivial ?_
  refine aw_sld es_1037 (by omega) (by omega) hL ?_
  refine aw_blk os_1038 (pc' := 1042) (ls' := [_, _, _, _]) (st' := [_, _, _, _, _]) (cs := []) rfl trivial ?_
  refine aw_sld es_1042 (by omega) (by omega) hL ?_
  refine aw_crV (rest := []) hP kX11_seen eL_law_1043 lL_law_1043 rfl rfl rfl rfl (Nat.le_of_ble_eq_true rfl) ⟨Nat.le_of_ble_eq_true rfl, Nat.le_of_ble_eq_true rfl⟩ hcs ?_
  intro r μ1 ν1 hp
  obtain ⟨z, rfl, hz, hM⟩ := hQ r μ1 ν1 hp
  refine aw_blk os_1046 (pc' := 1051) (ls' := [_, _, _, _]) (st' := [_, _, _, _]) (cs := []) rfl trivial ?_
  refine aw_sld es_1051 (by omega) (by omega) hL ?_
  refine aw_blk os_1052 (pc' := 1056) (ls' := [_, _, _, _]) (st' := [_, _, _, _, _]) (cs := []) rfl trivial ?_
  refine aw_sld es_1056 (by omega) (by omega) hL ?_
  refine aw_blk os_1057 (pc' := 1061) (ls' := [_, _, _, _]) (st' := [_, _, _, _, _, _]) (cs := []) rfl trivial ?_
  refine aw_sld es_1061 (by omega) (by omega) hL ?_
  refine aw_crV (rest := [_]) hM kX12_seen eL_law_1062 lL_law_1062 rfl rfl rfl rfl (Nat.le_of_ble_eq_true rfl) ⟨Nat.le_of_ble_eq_true rfl, Nat.le_of_ble_eq_true rfl⟩ hcs ?_
  intro r μ2 ν2 hp2
  obtain ⟨rfl, hR2⟩ := hp2
  refine aw_icmp_eq (tgt := 1423) eL_law_1065 (by decide) (by exact hz) (by exact hz) (fun h3 => ?_) (fun h3 => ?_)
  · exact K μ2 ν2 hR2
  · exact absurd rfl h3
theorem lc_26 {κ : KX} {cells slots : Nat} {i : Int} {μ : MM} {ν : ML} (hcs : cells ≤ 600000 ∧ slots ≤ 7302250) (hL : κ.2.2.2.2.1 < 2147483648) (h0 : 0 ≤ i) (h6 : i + 6 ≤ (κ.2.2.2.2.1 : Int)) (hR : Rel μ ν) (K : ∀ (μ2 : MM) (ν2 : ML), Rel μ2 ν2 → AL κ cells slots 1423 [aS 5, aR 0, aR 55, aI i] [] μ2 ν2) : AL κ cells slots 1070 [aS 5, aR 0, aR 55, aI i] [] μ ν := by
  obtain ⟨P, hP, hQ⟩ := q_owed (κ := κ) (a := sc κ (i + 1)) hR (sc_R _)
  refine aw_blk os_1070 (pc' := 1075) (ls' := [_, _, _, _]) (st' := [_, _, _]) (cs := []) rfl trivial ?_
  refine aw_sld es_1075 (by omega) (by omega) hL ?_
  refine aw_crV (rest := []) hP kX11_owed eL_law_1076 lL_law_1076 rfl rfl rfl rfl (Nat.le_of_ble_eq_true rfl) ⟨Nat.le_of_ble_eq_true rfl, Nat.le_of_ble_eq_true rfl⟩ hcs ?_
  intro r μ1 ν1 hp
  obtain ⟨z, rfl, hz, hM⟩ := hQ r μ1 ν1 hp
  refine aw_blk os_1079 (pc' := 1084) (ls' := [_, _, _, _]) (st' := [_, _, _, _]) (cs := []) rfl trivial ?_
  refine aw_sld es_1084 (by omega) (by omega) hL ?_
  refine aw_crV (rest := [_]) hM kX12_owed eL_law_1085 lL_law_1085 rfl rfl rfl rfl (Nat.le_of_ble_eq_true rfl) ⟨Nat.le_of_ble_eq_true rfl, Nat.le_of_ble_eq_true rfl⟩ hcs ?_
  intro r μ2 ν2 hp2
  obtain ⟨rfl, hR2⟩ := hp2
  refine aw_icmp_eq (tgt := 1423) eL_law_1088 (by decide) (by exact hz) (by exact hz) (fun h3 => ?_) (fun h3 => ?_)
  · exact K μ2 ν2 hR2
  · exact absurd rfl h3
theorem lc_27 {κ : KX} {cells slots : Nat} {i : Int} {μ : MM} {ν : ML} (hcs : cells ≤ 600000 ∧ slots ≤ 7302250) (hL : κ.2.2.2.2.1 < 2147483648) (h0 : 0 ≤ i) (h6 : i + 6 ≤ (κ.2.2.2.2.1 : Int)) (hR : Rel μ ν) (K : ∀ (μ2 : MM) (ν2 : ML), Rel μ2 ν2 → AL κ cells slots 1423 [aS 5, aR 0, aR 55, aI i] [] μ2 ν2) : AL κ cells slots 1093 [aS 5, aR 0, aR 55, aI i] [] μ ν := by
  obtain ⟨P, hP, hQ⟩ := q_mark (κ := κ) (a := sc κ (i + 1)) (b := sc κ (i + 2)) hR (sc_R _) (sc_R _)
  refine aw_blk os_1093 (pc' := 1098) (ls' := [_, _, _, _]) (st' := [_, _, _]) (cs := []) rfl trivial ?_
  refine aw_sld es_1098 (by omega) (by omega) hL ?_
  refine aw_blk os_1099 (pc' := 1103) (ls' := [_, _, _, _]) (st' := [_, _, _, _]) (cs := []) rfl trivial ?_
  refine aw_sld es_1103 (by omega) (by omega) hL ?_
  refine aw_crV (rest := []) hP kX11_mark eL_law_1104 lL_law_1104 rfl rfl rfl rfl (Nat.le_of_ble_eq_true rfl) ⟨Nat.le_of_ble_eq_true rfl, Nat.le_of_ble_eq_true rfl⟩ hcs ?_
  intro r μ1 ν1 hp
  obtain ⟨z, rfl, hz, hM⟩ := hQ r μ1 ν1 hp
  refine aw_blk os_1107 (pc' := 1112) (ls' := [_, _, _, _]) (st' := [_, _, _, _]) (cs := []) rfl trivial ?_
  refine aw_sld es_1112 (by omega) (by omega) hL ?_
  refine aw_blk os_1113 (pc' := 1117) (ls' := [_, _, _, _]) (st' := [_, _, _, _, _]) (cs := []) rfl trivial ?_
  refine aw_sld es_1117 (by omega) (by omega) hL ?_
  refine aw_crV (rest := [_]) hM kX12_mark eL_law_1118 lL_law_1118 rfl rfl rfl rfl (Nat.le_of_ble_eq_true rfl) ⟨Nat.le_of_ble_eq_true rfl, Nat.le_of_ble_eq_true rfl⟩ hcs ?_
  intro r μ2 ν2 hp2
  obtain ⟨rfl, hR2⟩ := hp2
  refine aw_icmp_eq (tgt := 1423) eL_law_1121 (by decide) (by exact hz) (by exact hz) (fun h3 => ?_) (fun h3 => ?_)
  · exact K μ2 ν2 hR2
  · exact absurd rfl h3
theorem lc_28 {κ : KX} {cells slots : Nat} {i : Int} {μ : MM} {ν : ML} (hcs : cells ≤ 600000 ∧ slots ≤ 7302250) (hL : κ.2.2.2.2.1 < 2147483648) (h0 : 0 ≤ i) (h6 : i + 6 ≤ (κ.2.2.2.2.1 : Int)) (hR : Rel μ ν) (K : ∀ (μ2 : MM) (ν2 : ML), Rel μ2 ν2 → AL κ cells slots 1423 [aS 5, aR 0, aR 55, aI i] [] μ2 ν2) : AL κ cells slots 1126 [aS 5, aR 0, aR 55, aI i] [] μ ν := by
  obtain ⟨P, hP, hQ⟩ := q_blame (κ := κ) (a := sc κ (i + 1)) (b := sc κ (i + 2)) (c := sc κ (i + 3)) hR (sc_R _) (sc_R _) (sc_R _)
  refine aw_blk os_1126 (pc' := 1131) (ls' := [_, _, _, _]) (st' := [_, _, _]) (cs := []) rfl trivial ?_
  refine aw_sld es_1131 (by omega) (by omega) hL ?_
  refine aw_blk os_1132 (pc' := 1136) (ls' := [_, _, _, _]) (st' := [_, _, _, _]) (cs := []) rfl trivial ?_
  refine aw_sld es_1136 (by omega) (by omega) hL ?_
  refine aw_blk os_1137 (pc' := 1141) (ls' := [_, _, _, _]) (st' := [_, _, _, _, _]) (cs := []) rfl trivial ?_
  refine aw_sld es_1141 (by omega) (by omega) hL ?_
  refine aw_crV (rest := []) hP kX11_blame eL_law_1142 lL_law_1142 rfl rfl rfl rfl (Nat.le_of_ble_eq_true rfl) ⟨Nat.le_of_ble_eq_true rfl, Nat.le_of_ble_eq_true rfl⟩ hcs ?_
  intro r μ1 ν1 hp
  obtain ⟨z, rfl, hz, hM⟩ := hQ r μ1 ν1 hp
  refine aw_blk os_1145 (pc' := 1150) (ls' := [_, _, _, _]) (st' := [_, _, _, _]) (cs := []) rfl trivial ?_
  refine aw_sld es_1150 (by omega) (by omega) hL ?_
  refine aw_blk os_1151 (pc' := 1155) (ls' := [_, _, _, _]) (st' := [_, _, _, _, _]) (cs := []) rfl trivial ?_
  refine aw_sld es_1155 (by omega) (by omega) hL ?_
  refine aw_blk os_1156 (pc' := 1160) (ls' := [_, _, _, _]) (st' := [_, _, _, _, _, _]) (cs := []) rfl trivial ?_
  refine aw_sld es_1160 (by omega) (by omega) hL ?_
  refine aw_crV (rest := [_]) hM kX12_blame eL_law_1161 lL_law_1161 rfl rfl rfl rfl (Nat.le_of_ble_eq_true rfl) ⟨Nat.le_of_ble_eq_true rfl, Nat.le_of_ble_eq_true rfl⟩ hcs ?_
  intro r μ2 ν2 hp2
  obtain ⟨rfl, hR2⟩ := hp2
  refine aw_icmp_eq (tgt := 1423) eL_law_1164 (by decide) (by exact hz) (by exact hz) (fun h3 => ?_) (fun h3 => ?_)
  · exact K μ2 ν2 hR2
  · exact absurd rfl h3
theorem lc_29 {κ : KX} {cells slots : Nat} {i : Int} {μ : MM} {ν : ML} (hcs : cells ≤ 600000 ∧ slots ≤ 7302250) (hL : κ.2.2.2.2.1 < 2147483648) (h0 : 0 ≤ i) (h6 : i + 6 ≤ (κ.2.2.2.2.1 : Int)) (hR : Rel μ ν) (K : ∀ (μ2 : MM) (ν2 : ML), Rel μ2 ν2 → AL κ cells slots 1423 [aS 5, aR 0, aR 55, aI i] [] μ2 ν2) : AL κ cells slots 1169 [aS 5, aR 0, aR 55, aI i] [] μ ν := by
  obtain ⟨P, hP, hQ⟩ := q_put (κ := κ) (a := sc κ (i + 1)) (b := sc κ (i + 2)) (c := sc κ (i + 3)) hR (sc_R _) (sc_R _) (sc_R _)
  refine aw_blk os_1169 (pc' := 1174) (ls' := [_, _, _, _]) (st' := [_, _, _]) (cs := []) rfl trivial ?_
  refine aw_sld es_1174 (by omega) (by omega) hL ?_
  refine aw_blk os_1175 (pc' := 1179) (ls' := [_, _, _, _]) (st' := [_, _, _, _]) (cs := []) rfl trivial ?_
  refine aw_sld es_1179 (by omega) (by omega) hL ?_
  refine aw_blk os_1180 (pc' := 1184) (ls' := [_, _, _, _]) (st' := [_, _, _, _, _]) (cs := []) rfl trivial ?_
  refine aw_sld es_1184 (by omega) (by omega) hL ?_
  refine aw_crV (rest := []) hP kX11_put eL_law_1185 lL_law_1185 rfl rfl rfl rfl (Nat.le_of_ble_eq_true rfl) ⟨Nat.le_of_ble_eq_true rfl, Nat.le_of_ble_eq_true rfl⟩ hcs ?_
  intro r μ1 ν1 hp
  obtain ⟨z, rfl, hz, hM⟩ := hQ r μ1 ν1 hp
  refine aw_blk os_1188 (pc' := 1193) (ls' := [_, _, _, _]) (st' := [_, _, _, _]) (cs := []) rfl trivial ?_
  refine aw_sld es_1193 (by omega) (by omega) hL ?_
  refine aw_blk os_1194 (pc' := 1198) (ls' := [_, _, _, _]) (st' := [_, _, _, _, _]) (cs := []) rfl trivial ?_
  refine aw_sld es_1198 (by omega) (by omega) hL ?_
  refine aw_blk os_1199 (pc' := 1203) (ls' := [_, _, _, _]) (st' := [_, _, _, _, _, _]) (cs := []) rfl trivial ?_
  refine aw_sld es_1203 (by omega) (by omega) hL ?_
  refine aw_crV (rest := [_]) hM kX12_put eL_law_1204 lL_law_1204 rfl rfl rfl rfl (Nat.le_of_ble_eq_true rfl) ⟨Nat.le_of_ble_eq_true rfl, Nat.le_of_ble_eq_true rfl⟩ hcs ?_
  intro r μ2 ν2 hp2
  obtain ⟨rfl, hR2⟩ := hp2
  refine aw_icmp_eq (tgt := 1423) eL_law_1207 (by decide) (by exact hz) (by exact hz) (fun h3 => ?_) (fun h3 => ?_)
  · exact K μ2 ν2 hR2
  · exact absurd rfl h3
theorem lc_30 {κ : KX} {cells slots : Nat} {i : Int} {μ : MM} {ν : ML} (hcs : cells ≤ 600000 ∧ slots ≤ 7302250) (hL : κ.2.2.2.2.1 < 2147483648) (h0 : 0 ≤ i) (h6 : i + 6 ≤ (κ.2.2.2.2.1 : Int)) (hR : Rel μ ν) (K : ∀ (μ2 : MM) (ν2 : ML), Rel μ2 ν2 → AL κ cells slots 1423 [aS 5, aR 0, aR 55, aI i] [] μ2 ν2) : AL κ cells slots 1212 [aS 5, aR 0, aR 55, aI i] [] μ ν := by
  obtain ⟨P, hP, hQ⟩ := q_sum (κ := κ) (a := sc κ (i + 1)) (b := sc κ (i + 2)) hR (sc_R _) (sc_R _)
  refine aw_blk os_1212 (pc' := 1217) (ls' := [_, _, _, _]) (st' := [_, _, _]) (cs := []) rfl trivial ?_
  refine aw_sld es_1217 (by omega) (by omega) hL ?_
  refine aw_blk os_1218 (pc' := 1222) (ls' := [_, _, _, _]) (st' := [_, _, _, _]) (cs := []) rfl trivial ?_
  refine aw_sld es_1222 (by omega) (by omega) hL ?_
  refine aw_crV (rest := []) hP kX11_sum eL_law_1223 lL_law_1223 rfl rfl rfl rfl (Nat.le_of_ble_eq_true rfl) ⟨Nat.le_of_ble_eq_true rfl, Nat.le_of_ble_eq_true rfl⟩ hcs ?_
  intro r μ1 ν1 hp
  obtain ⟨z, rfl, hz, hM⟩ := hQ r μ1 ν1 hp
  refine aw_blk os_1226 (pc' := 1231) (ls' := [_, _, _, _]) (st' := [_, _, _, _]) (cs := []) rfl trivial ?_
  refine aw_sld es_1231 (by omega) (by omega) hL ?_
  refine aw_blk os_1232 (pc' := 1236) (ls' := [_, _, _, _]) (st' := [_, _, _, _, _]) (cs := []) rfl trivial ?_
  refine aw_sld es_1236 (by omega) (by omega) hL ?_
  refine aw_crV (rest := [_]) hM kX12_sum eL_law_1237 lL_law_1237 rfl rfl rfl rfl (Nat.le_of_ble_eq_true rfl) ⟨Nat.le_of_ble_eq_true rfl, Nat.le_of_ble_eq_true rfl⟩ hcs ?_
  intro r μ2 ν2 hp2
  obtain ⟨rfl, hR2⟩ := hp2
  refine aw_icmp_eq (tgt := 1423) eL_law_1240 (by decide) (by exact hz) (by exact hz) (fun h3 => ?_) (fun h3 => ?_)
  · exact K μ2 ν2 hR2
  · exact absurd rfl h3
theorem lc_31 {κ : KX} {cells slots : Nat} {i : Int} {μ : MM} {ν : ML} (hcs : cells ≤ 600000 ∧ slots ≤ 7302250) (hL : κ.2.2.2.2.1 < 2147483648) (h0 : 0 ≤ i) (h6 : i + 6 ≤ (κ.2.2.2.2.1 : Int)) (hR : Rel μ ν) (K : ∀ (μ2 : MM) (ν2 : ML), Rel μ2 ν2 → AL κ cells slots 1423 [aS 5, aR 0, aR 55, aI i] [] μ2 ν2) : AL κ cells slots 1245 [aS 5, aR 0, aR 55, aI i] [] μ ν := by
  obtain ⟨P, hP, hQ⟩ := q_restore (κ := κ) (a := sc κ (i + 1)) (b := sc κ (i + 2)) (c := sc κ (i + 3)) hR (sc_R _) (sc_R _) (sc_R _)
  refine aw_blk os_1245 (pc' := 1250) (ls' := [_, _, _, _]) (st' := [_, _, _]) (cs := []) rfl trivial ?_
  refine aw_sld es_1250 (by omega) (by omega) hL ?_
  refine aw_blk os_1251 (pc' := 1255) (ls' := [_, _, _, _]) (st' := [_, _, _, _]) (cs := []) rfl trivial ?_
  refine aw_sld es_1255 (by omega) (by omega) hL ?_
  refine aw_blk os_1256 (pc' := 1260) (ls' := [_, _, _, _]) (st' := [_, _, _, _, _]) (cs := []) rfl trivial ?_
  refine aw_sld es_1260 (by omega) (by omega) hL ?_
  refine aw_crV (rest := []) hP kX11_restore eL_law_1261 lL_law_1261 rfl rfl rfl rfl (Nat.le_of_ble_eq_true rfl) ⟨Nat.le_of_ble_eq_true rfl, Nat.le_of_ble_eq_true rfl⟩ hcs ?_
  intro r μ1 ν1 hp
  obtain ⟨z, rfl, hz, hM⟩ := hQ r μ1 ν1 hp
  refine aw_blk os_1264 (pc' := 1269) (ls' := [_, _, _, _]) (st' := [_, _, _, _]) (cs := []) rfl trivial ?_
  refine aw_sld es_1269 (by omega) (by omega) hL ?_
  refine aw_blk os_1270 (pc' := 1274) (ls' := [_, _, _, _]) (st' := [_, _, _, _, _]) (cs := []) rfl trivial ?_
  refine aw_sld es_1274 (by omega) (by omega) hL ?_
  refine aw_blk os_1275 (pc' := 1279) (ls' := [_, _, _, _]) (st' := [_, _, _, _, _, _]) (cs := []) rfl trivial ?_
  refine aw_sld es_1279 (by omega) (by omega) hL ?_
  refine aw_crV (rest := [_]) hM kX12_restore eL_law_1280 lL_law_1280 rfl rfl rfl rfl (Nat.le_of_ble_eq_true rfl) ⟨Nat.le_of_ble_eq_true rfl, Nat.le_of_ble_eq_true rfl⟩ hcs ?_
  intro r μ2 ν2 hp2
  obtain ⟨rfl, hR2⟩ := hp2
  refine aw_icmp_eq (tgt := 1423) eL_law_1283 (by decide) (by exact hz) (by exact hz) (fun h3 => ?_) (fun h3 => ?_)
  · exact K μ2 ν2 hR2
  · exact absurd rfl h3
theorem lc_32 {κ : KX} {cells slots : Nat} {i : Int} {μ : MM} {ν : ML} (hcs : cells ≤ 600000 ∧ slots ≤ 7302250) (hL : κ.2.2.2.2.1 < 2147483648) (h0 : 0 ≤ i) (h6 : i + 6 ≤ (κ.2.2.2.2.1 : Int)) (hR : Rel μ ν) (K : ∀ (μ2 : MM) (ν2 : ML), Rel μ2 ν2 → AL κ cells slots 1423 [aS 5, aR 0, aR 55, aI i] [] μ2 ν2) : AL κ cells slots 1288 [aS 5, aR 0, aR 55, aI i] [] μ ν := by
  obtain ⟨P, hP, hQ⟩ := q_hang (κ := κ) (a := sc κ (i + 1)) (b := sc κ (i + 2)) (c := sc κ (i + 3)) hR (sc_R _) (sc_R _) (sc_R _)
  refine aw_blk os_1288 (pc' := 1293) (ls' := [_, _, _, _]) (st' := [_, _, _]) (cs := []) rfl trivial ?_
  refine aw_sld es_1293 (by omega) (by omega) hL ?_
  refine aw_blk os_1294 (pc' := 1298) (ls' := [_, _, _, _]) (st' := [_, _, _, _]) (cs := []) rfl trivial ?_
  refine aw_sld es_1298 (by omega) (by omega) hL ?_
  refine aw_blk os_1299 (pc' := 1303) (ls' := [_, _, _, _]) (st' := [_, _, _, _, _]) (cs := []) rfl trivial ?_
  refine aw_sld es_1303 (by omega) (by omega) hL ?_
  refine aw_crV (rest := []) hP kX11_hang eL_law_1304 lL_law_1304 rfl rfl rfl rfl (Nat.le_of_ble_eq_true rfl) ⟨Nat.le_of_ble_eq_true rfl, Nat.le_of_ble_eq_true rfl⟩ hcs ?_
  intro r μ1 ν1 hp
  obtain ⟨z, rfl, hz, hM⟩ := hQ r μ1 ν1 hp
  refine aw_blk os_1307 (pc' := 1312) (ls' := [_, _, _, _]) (st' := [_, _, _, _]) (cs := []) rfl trivial ?_
  refine aw_sld es_1312 (by omega) (by omega) hL ?_
  refine aw_blk os_1313 (pc' := 1317) (ls' := [_, _, _, _]) (st' := [_, _, _, _, _]) (cs := []) rfl trivial ?_
  refine aw_sld es_1317 (by omega) (by omega) hL ?_
  refine aw_blk os_1318 (pc' := 1322) (ls' := [_, _, _, _]) (st' := [_, _, _, _, _, _]) (cs := []) rfl trivial ?_
  refine aw_sld es_1322 (by omega) (by omega) hL ?_
  refine aw_crV (rest := [_]) hM kX12_hang eL_law_1323 lL_law_1323 rfl rfl rfl rfl (Nat.le_of_ble_eq_true rfl) ⟨Nat.le_of_ble_eq_true rfl, Nat.le_of_ble_eq_true rfl⟩ hcs ?_
  intro r μ2 ν2 hp2
  obtain ⟨rfl, hR2⟩ := hp2
  refine aw_icmp_eq (tgt := 1423) eL_law_1326 (by decide) (by exact hz) (by exact hz) (fun h3 => ?_) (fun h3 => ?_)
  · exact K μ2 ν2 hR2
  · exact absurd rfl h3
theorem lc_33 {κ : KX} {cells slots : Nat} {i : Int} {μ : MM} {ν : ML} (hcs : cells ≤ 600000 ∧ slots ≤ 7302250) (hL : κ.2.2.2.2.1 < 2147483648) (h0 : 0 ≤ i) (h6 : i + 6 ≤ (κ.2.2.2.2.1 : Int)) (hR : Rel μ ν) (K : ∀ (μ2 : MM) (ν2 : ML), Rel μ2 ν2 → AL κ cells slots 1423 [aS 5, aR 0, aR 55, aI i] [] μ2 ν2) : AL κ cells slots 1331 [aS 5, aR 0, aR 55, aI i] [] μ ν := by
  obtain ⟨P, hP, hQ⟩ := q_behind (κ := κ) (a := sc κ (i + 1)) hR (sc_R _)
  refine aw_blk os_1331 (pc' := 1336) (ls' := [_, _, _, _]) (st' := [_, _, _]) (cs := []) rfl trivial ?_
  refine aw_sld es_1336 (by omega) (by omega) hL ?_
  refine aw_crV (rest := []) hP kX11_behind eL_law_1337 lL_law_1337 rfl rfl rfl rfl (Nat.le_of_ble_eq_true rfl) ⟨Nat.le_of_ble_eq_true rfl, Nat.le_of_ble_eq_true rfl⟩ hcs ?_
  intro r μ1 ν1 hp
  obtain ⟨z, rfl, hz, hM⟩ := hQ r μ1 ν1 hp
  refine aw_blk os_1340 (pc' := 1345) (ls' := [_, _, _, _]) (st' := [_, _, _, _]) (cs := []) rfl trivial ?_
  refine aw_sld es_1345 (by omega) (by omega) hL ?_
  refine aw_crV (rest := [_]) hM kX12_behind eL_law_1346 lL_law_1346 rfl rfl rfl rfl (Nat.le_of_ble_eq_true rfl) ⟨Nat.le_of_ble_eq_true rfl, Nat.le_of_ble_eq_true rfl⟩ hcs ?_
  intro r μ2 ν2 hp2
  obtain ⟨rfl, hR2⟩ := hp2
  refine aw_icmp_eq (tgt := 1423) eL_law_1349 (by decide) (by exact hz) (by exact hz) (fun h3 => ?_) (fun h3 => ?_)
  · exact K μ2 ν2 hR2
  · exact absurd rfl h3
theorem lc_34 {κ : KX} {cells slots : Nat} {i : Int} {μ : MM} {ν : ML} (hcs : cells ≤ 600000 ∧ slots ≤ 7302250) (hL : κ.2.2.2.2.1 < 2147483648) (h0 : 0 ≤ i) (h6 : i + 6 ≤ (κ.2.2.2.2.1 : Int)) (hR : Rel μ ν) (K : ∀ (μ2 : MM) (ν2 : ML), Rel μ2 ν2 → AL κ cells slots 1423 [aS 5, aR 0, aR 55, aI i] [] μ2 ν2) : AL κ cells slots 1354 [aS 5, aR 0, aR 55, aI i] [] μ ν := by
  obtain ⟨P, hP, hQ⟩ := q_fall (κ := κ) (a := sc κ (i + 1)) hR (sc_R _)
  refine aw_blk os_1354 (pc' := 1359) (ls' := [_, _, _, _]) (st' := [_, _, _]) (cs := []) rfl trivial ?_
  refine aw_sld es_1359 (by omega) (by omega) hL ?_
  refine aw_crV (rest := []) hP kX11_fall eL_law_1360 lL_law_1360 rfl rfl rfl rfl (Nat.le_of_ble_eq_true rfl) ⟨Nat.le_of_ble_eq_true rfl, Nat.le_of_ble_eq_true rfl⟩ hcs ?_
  intro r μ1 ν1 hp
  obtain ⟨z, rfl, hz, hM⟩ := hQ r μ1 ν1 hp
  refine aw_blk os_1363 (pc' := 1368) (ls' := [_, _, _, _]) (st' := [_, _, _, _]) (cs := []) rfl trivial ?_
  refine aw_sld es_1368 (by omega) (by omega) hL ?_
  refine aw_crV (rest := [_]) hM kX12_fall eL_law_1369 lL_law_1369 rfl rfl rfl rfl (Nat.le_of_ble_eq_true rfl) ⟨Nat.le_of_ble_eq_true rfl, Nat.le_of_ble_eq_true rfl⟩ hcs ?_
  intro r μ2 ν2 hp2
  obtain ⟨rfl, hR2⟩ := hp2
  refine aw_icmp_eq (tgt := 1423) eL_law_1372 (by decide) (by exact hz) (by exact hz) (fun h3 => ?_) (fun h3 => ?_)
  · exact K μ2 ν2 hR2
  · exact absurd rfl h3
theorem lc_35 {κ : KX} {cells slots : Nat} {i : Int} {μ : MM} {ν : ML} (hcs : cells ≤ 600000 ∧ slots ≤ 7302250) (hL : κ.2.2.2.2.1 < 2147483648) (h0 : 0 ≤ i) (h6 : i + 6 ≤ (κ.2.2.2.2.1 : Int)) (hR : Rel μ ν) (K : ∀ (μ2 : MM) (ν2 : ML), Rel μ2 ν2 → AL κ cells slots 1423 [aS 5, aR 0, aR 55, aI i] [] μ2 ν2) : AL κ cells slots 1377 [aS 5, aR 0, aR 55, aI i] [] μ ν := by
  obtain ⟨P, hP, hQ⟩ := q_tree (κ := κ) (a := sc κ (i + 1)) hR (sc_R _)
  refine aw_blk os_1377 (pc' := 1382) (ls' := [_, _, _, _]) (st' := [_, _, _]) (cs := []) rfl trivial ?_
  refine aw_sld es_1382 (by omega) (by omega) hL ?_
  refine aw_crV (rest := []) hP kX11_tree eL_law_1383 lL_law_1383 rfl rfl rfl rfl (Nat.le_of_ble_eq_true rfl) ⟨Nat.le_of_ble_eq_true rfl, Nat.le_of_ble_eq_true rfl⟩ hcs ?_
  intro r μ1 ν1 hp
  obtain ⟨z, rfl, hz, hM⟩ := hQ r μ1 ν1 hp
  refine aw_blk os_1386 (pc' := 1391) (ls' := [_, _, _, _]) (st' := [_, _, _, _]) (cs := []) rfl trivial ?_
  refine aw_sld es_1391 (by omega) (by omega) hL ?_
  refine aw_crV (rest := [_]) hM kX12_tree eL_law_1392 lL_law_1392 rfl rfl rfl rfl (Nat.le_of_ble_eq_true rfl) ⟨Nat.le_of_ble_eq_true rfl, Nat.le_of_ble_eq_true rfl⟩ hcs ?_
  intro r μ2 ν2 hp2
  obtain ⟨rfl, hR2⟩ := hp2
  refine aw_icmp_eq (tgt := 1423) eL_law_1395 (by decide) (by exact hz) (by exact hz) (fun h3 => ?_) (fun h3 => ?_)
  · exact K μ2 ν2 hR2
  · exact absurd rfl h3
theorem lc_36 {κ : KX} {cells slots : Nat} {i : Int} {μ : MM} {ν : ML} (hcs : cells ≤ 600000 ∧ slots ≤ 7302250) (hL : κ.2.2.2.2.1 < 2147483648) (h0 : 0 ≤ i) (h6 : i + 6 ≤ (κ.2.2.2.2.1 : Int)) (hR : Rel μ ν) (K : ∀ (μ2 : MM) (ν2 : ML), Rel μ2 ν2 → AL κ cells slots 1423 [aS 5, aR 0, aR 55, aI i] [] μ2 ν2) : AL κ cells slots 1400 [aS 5, aR 0, aR 55, aI i] [] μ ν := by
  obtain ⟨P, hP, hQ⟩ := q_told (κ := κ) (a := sc κ (i + 1)) hR (sc_R _)
  refine aw_blk os_1400 (pc' := 1405) (ls' := [_, _, _, _]) (st' := [_, _, _]) (cs := []) rfl trivial ?_
  refine aw_sld es_1405 (by omega) (by omega) hL ?_
  refine aw_crV (rest := []) hP kX11_told eL_law_1406 lL_law_1406 rfl rfl rfl rfl (Nat.le_of_ble_eq_true rfl) ⟨Nat.le_of_ble_eq_true rfl, Nat.le_of_ble_eq_true rfl⟩ hcs ?_
  intro r μ1 ν1 hp
  obtain ⟨z, rfl, hz, hM⟩ := hQ r μ1 ν1 hp
  refine aw_blk os_1409 (pc' := 1414) (ls' := [_, _, _, _]) (st' := [_, _, _, _]) (cs := []) rfl trivial ?_
  refine aw_sld es_1414 (by omega) (by omega) hL ?_
  refine aw_crV (rest := [_]) hM kX12_told eL_law_1415 lL_law_1415 rfl rfl rfl rfl (Nat.le_of_ble_eq_true rfl) ⟨Nat.le_of_ble_eq_true rfl, Nat.le_of_ble_eq_true rfl⟩ hcs ?_
  intro r μ2 ν2 hp2
  obtain ⟨rfl, hR2⟩ := hp2
  refine aw_icmp_eq (tgt := 1423) eL_law_1418 (by decide) (by exact hz) (by exact hz) (fun h3 => ?_) (fun h3 => ?_)
  · exact K μ2 ν2 hR2
  · exact absurd rfl h3
theorem l_law {κ : KX} {cells slots : Nat} (hcs : cells ≤ 600000 ∧ slots ≤ 7302250) (hL : κ.2.2.2.2.1 < 2147483648) (hL3 : κ.2.2.2.2.1 ≤ 3072) (n : Nat) : ∀ (i : Int) (μ : MM) (ν : ML), 0 ≤ i → i < 4000 → (κ.2.2.2.2.1 : Int) ≤ i + 6 * n → Rel μ ν → AL κ cells slots 18 [aS 5, aR 0, aR 55, aI i] [] μ ν := by
  have fin : ∀ (i : Int) (μ : MM) (ν : ML), AL κ cells slots 1429 [aS 5, aR 0, aR 55, aI i] [] μ ν := fun i μ ν => by
    refine aw_blk oL_law_1429 (pc' := 1430) (ls' := [_, _, _, _]) (st' := [_]) (cs := []) rfl trivial ?_
    exact aw_lret eL_law_1430 hcs
  induction n with
  | zero =>
    intro i μ ν i0 i1 hn hR
    refine aw_blk oL_law_18 (pc' := 20) (ls' := [_, _, _, _]) (st' := [_, _]) (cs := []) rfl trivial ?_
    refine aw_slen eL_law_20 ?_
    refine aw_blk oL_law_21 (pc' := 24) (ls' := [_, _, _, _]) (st' := [_, _]) (cs := []) rfl trivial ?_
    refine aw_icmp_gt (tgt := 1429) eL_law_24 (by decide) (by omega) (by omega) (fun h1 => ?_) (fun h1 => ?_)
    · exact fin i μ ν
    · exfalso; omega
  | succ n ih =>
    intro i μ ν i0 i1 hn hR
    refine aw_blk oL_law_18 (pc' := 20) (ls' := [_, _, _, _]) (st' := [_, _]) (cs := []) rfl trivial ?_
    refine aw_slen eL_law_20 ?_
    refine aw_blk oL_law_21 (pc' := 24) (ls' := [_, _, _, _]) (st' := [_, _]) (cs := []) rfl trivial ?_
    refine aw_icmp_gt (tgt := 1429) eL_law_24 (by decide) (by omega) (by omega) (fun h1 => ?_) (fun h1 => ?_)
    · exact fin i μ ν
    · have h6 : i + 6 ≤ (κ.2.2.2.2.1 : Int) := by omega
      have K : ∀ (μ2 : MM) (ν2 : ML), Rel μ2 ν2 → AL κ cells slots 1423 [aS 5, aR 0, aR 55, aI i] [] μ2 ν2 := fun μ2 ν2 h => by
        refine aw_blk oL_law_1423 (pc' := 18) (ls' := [_, _, _, _]) (st' := []) (cs := []) rfl trivial ?_
        exact ih (i + 6) μ2 ν2 (by omega) (by omega) (by omega) h
      refine aw_blk os_27 (pc' := 29) (ls' := [_, _, _, _]) (st' := [_, _]) (cs := []) rfl trivial ?_
      refine aw_sld es_29 (by omega) (by omega) hL ?_
      refine aw_blk os_30 (pc' := 33) (ls' := [_, _, _, _]) (st' := [_]) (cs := []) rfl trivial ?_
      have hw : R32 (bAnd (sc κ i) 63) := bAnd_R
      generalize bAnd (sc κ i) 63 = w at hw ⊢
      rcases (show w < 0 ∨ 36 < w ∨ w = 0 ∨ w = 1 ∨ w = 2 ∨ w = 3 ∨ w = 4 ∨ w = 5 ∨ w = 6 ∨ w = 7 ∨ w = 8 ∨ w = 9 ∨ w = 10 ∨ w = 11 ∨ w = 12 ∨ w = 13 ∨ w = 14 ∨ w = 15 ∨ w = 16 ∨ w = 17 ∨ w = 18 ∨ w = 19 ∨ w = 20 ∨ w = 21 ∨ w = 22 ∨ w = 23 ∨ w = 24 ∨ w = 25 ∨ w = 26 ∨ w = 27 ∨ w = 28 ∨ w = 29 ∨ w = 30 ∨ w = 31 ∨ w = 32 ∨ w = 33 ∨ w = 34 ∨ w = 35 ∨ w = 36 by omega) with hk | hk | rfl | rfl | rfl | rfl | rfl | rfl | rfl | rfl | rfl | rfl | rfl | rfl | rfl | rfl | rfl | rfl | rfl | rfl | rfl | rfl | rfl | rfl | rfl | rfl | rfl | rfl | rfl | rfl | rfl | rfl | rfl | rfl | rfl | rfl | rfl | rfl | rfl
      · refine aw_tswOut (tgt := 1423) eL_law_33 hw (Or.inl hk) (by decide) ?_
        exact K μ ν hR
      · refine aw_tswOut (tgt := 1423) eL_law_33 hw (Or.inr hk) (by decide) ?_
        exact K μ ν hR
      · refine aw_tswIn (tgt := 196) eL_law_33 (by decide) (by decide) (by decide) rfl (by decide) ?_
        exact lc_0 hcs hL i0 h6 hR K
      · refine aw_tswIn (tgt := 209) eL_law_33 (by decide) (by decide) (by decide) rfl (by decide) ?_
        exact lc_1 hcs hL i0 h6 hR K
      · refine aw_tswIn (tgt := 252) eL_law_33 (by decide) (by decide) (by decide) rfl (by decide) ?_
        exact lc_2 hcs hL i0 h6 hR K
      · refine aw_tswIn (tgt := 301) eL_law_33 (by decide) (by decide) (by decide) rfl (by decide) ?_
        exact lc_3 hcs hL i0 h6 hR K
      · refine aw_tswIn (tgt := 334) eL_law_33 (by decide) (by decide) (by decide) rfl (by decide) ?_
        exact lc_4 hcs hL i0 h6 hR K
      · refine aw_tswIn (tgt := 367) eL_law_33 (by decide) (by decide) (by decide) rfl (by decide) ?_
        exact lc_5 hcs hL i0 h6 hR K
      · refine aw_tswIn (tgt := 400) eL_law_33 (by decide) (by decide) (by decide) rfl (by decide) ?_
        exact lc_6 hcs hL i0 h6 hR K
      · refine aw_tswIn (tgt := 433) eL_law_33 (by decide) (by decide) (by decide) rfl (by decide) ?_
        exact lc_7 hcs hL i0 h6 hR K
      · refine aw_tswIn (tgt := 456) eL_law_33 (by decide) (by decide) (by decide) rfl (by decide) ?_
        exact lc_8 hcs hL i0 h6 hR K
      · refine aw_tswIn (tgt := 499) eL_law_33 (by decide) (by decide) (by decide) rfl (by decide) ?_
        exact lc_9 hcs hL i0 h6 hR K
      · refine aw_tswIn (tgt := 522) eL_law_33 (by decide) (by decide) (by decide) rfl (by decide) ?_
        exact lc_10 hcs hL i0 h6 hR K
      · refine aw_tswIn (tgt := 565) eL_law_33 (by decide) (by decide) (by decide) rfl (by decide) ?_
        exact lc_11 hcs hL i0 h6 hR K
      · refine aw_tswIn (tgt := 588) eL_law_33 (by decide) (by decide) (by decide) rfl (by decide) ?_
        exact lc_12 hcs hL i0 h6 hR K
      · refine aw_tswIn (tgt := 601) eL_law_33 (by decide) (by decide) (by decide) rfl (by decide) ?_
        exact lc_13 hcs hL i0 h6 hR K
      · refine aw_tswIn (tgt := 614) eL_law_33 (by decide) (by decide) (by decide) rfl (by decide) ?_
        exact lc_14 hcs hL i0 h6 hR K
      · refine aw_tswIn (tgt := 627) eL_law_33 (by decide) (by decide) (by decide) rfl (by decide) ?_
        exact lc_15 hcs hL i0 h6 hR K
      · refine aw_tswIn (tgt := 650) eL_law_33 (by decide) (by decide) (by decide) rfl (by decide) ?_
        exact lc_16 hcs hL i0 h6 hR K
      · refine aw_tswIn (tgt := 673) eL_law_33 (by decide) (by decide) (by decide) rfl (by decide) ?_
        exact lc_17 hcs hL i0 h6 hR K
      · refine aw_tswIn (tgt := 716) eL_law_33 (by decide) (by decide) (by decide) rfl (by decide) ?_
        exact lc_18 hcs hL i0 h6 hR K
      · refine aw_tswIn (tgt := 749) eL_law_33 (by decide) (by decide) (by decide) rfl (by decide) ?_
        exact lc_19 hcs hL i0 h6 hR K
      · refine aw_tswIn (tgt := 792) eL_law_33 (by decide) (by decide) (by decide) rfl (by decide) ?_
        exact lc_20 hcs hL i0 h6 hR K
      · refine aw_tswIn (tgt := 825) eL_law_33 (by decide) (by decide) (by decide) rfl (by decide) ?_
        exact lc_21 hcs hL i0 h6 hR K
      · refine aw_tswIn (tgt := 888) eL_law_33 (by decide) (by decide) (by decide) rfl (by decide) ?_
        exact lc_22 hcs hL i0 h6 hR K
      · refine aw_tswIn (tgt := 921) eL_law_33 (by decide) (by decide) (by decide) rfl (by decide) ?_
        exact lc_23 hcs hL i0 h6 hR K
      · refine aw_tswIn (tgt := 964) eL_law_33 (by decide) (by decide) (by decide) rfl (by decide) ?_
        exact lc_24 hcs hL i0 h6 hR K
      · refine aw_tswIn (tgt := 1027) eL_law_33 (by decide) (by decide) (by decide) rfl (by decide) ?_
        exact lc_25 hcs hL i0 h6 hR K
      · refine aw_tswIn (tgt := 1070) eL_law_33 (by decide) (by decide) (by decide) rfl (by decide) ?_
        exact lc_26 hcs hL i0 h6 hR K
      · refine aw_tswIn (tgt := 1093) eL_law_33 (by decide) (by decide) (by decide) rfl (by decide) ?_
        exact lc_27 hcs hL i0 h6 hR K
      · refine aw_tswIn (tgt := 1126) eL_law_33 (by decide) (by decide) (by decide) rfl (by decide) ?_
        exact lc_28 hcs hL i0 h6 hR K
      · refine aw_tswIn (tgt := 1169) eL_law_33 (by decide) (by decide) (by decide) rfl (by decide) ?_
        exact lc_29 hcs hL i0 h6 hR K
      · refine aw_tswIn (tgt := 1212) eL_law_33 (by decide) (by decide) (by decide) rfl (by decide) ?_
        exact lc_30 hcs hL i0 h6 hR K
      · refine aw_tswIn (tgt := 1245) eL_law_33 (by decide) (by decide) (by decide) rfl (by decide) ?_
        exact lc_31 hcs hL i0 h6 hR K
      · refine aw_tswIn (tgt := 1288) eL_law_33 (by decide) (by decide) (by decide) rfl (by decide) ?_
        exact lc_32 hcs hL i0 h6 hR K
      · refine aw_tswIn (tgt := 1331) eL_law_33 (by decide) (by decide) (by decide) rfl (by decide) ?_
        exact lc_33 hcs hL i0 h6 hR K
      · refine aw_tswIn (tgt := 1354) eL_law_33 (by decide) (by decide) (by decide) rfl (by decide) ?_
        exact lc_34 hcs hL i0 h6 hR K
      · refine aw_tswIn (tgt := 1377) eL_law_33 (by decide) (by decide) (by decide) rfl (by decide) ?_
        exact lc_35 hcs hL i0 h6 hR K
      · refine aw_tswIn (tgt := 1400) eL_law_33 (by decide) (by decide) (by decide) rfl (by decide) ?_
        exact lc_36 hcs hL i0 h6 hR K

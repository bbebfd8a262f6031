/-! ===== the abstract machine's instructions are the machine's: one row each ===== -/
def MW (κ : KX) (cx : MX) (p : Program) (l : Launch) (e : Env) (R : Room) (s : State) (m : MethodId) (args : Array Value) (below : List Frame) (meth : Method) (c : Code) (cells slots : Nat) (Q : State → Prop) (S : List SH) (pc : Nat) (ls st : List AV) (μ : MM) (ν : ML) : Prop :=
  ∀ (H : Heap) (locs : List Loc) (lsA : Array Slot), va_S (lwA κ) s.heap H locs → Wl κ S μ ν H → LH κ cx.2.2.1 lsA ls → W p l e R s m args below meth c H locs cells slots Q (F0 m pc lsA (st.map (cvA κ)))
theorem wsA_at {κ : KX} {S : List SH} {μ : MM} {ν : ML} (k : Nat) : (wsA κ S μ ν)[k]? = (S[k]?).map (fun sh => (κ.1 + k, rdC κ μ ν k sh)) := by
  simp [wsA, List.getElem?_mapIdx]
theorem wsA_in {κ : KX} {S : List SH} {μ : MM} {ν : ML} {k : Nat} {sh : SH} (h : S[k]? = some sh) : (wsA κ S μ ν)[k]? = some (κ.1 + k, rdC κ μ ν k sh) := by
  rw [wsA_at, h]; rfl
theorem wsA_D {κ : KX} {S : List SH} {μ : MM} {ν : ML} : va_D (lwA κ) (wsA κ S μ ν) := by
  refine ⟨fun i j p q hp hq he => ?_, fun k q hq => ?_⟩
  · rw [wsA_at] at hp hq
    cases h1 : S[i]? with
    | none => rw [h1] at hp; cases hp
    | some x =>
      cases h2 : S[j]? with
      | none => rw [h2] at hq; cases hq
      | some y =>
        rw [h1] at hp; rw [h2] at hq
        cases hp; cases hq
        dsimp only at he
        omega
  · rw [wsA_at] at hq
    cases h1 : S[k]? with
    | none => rw [h1] at hq; cases hq
    | some x =>
      rw [h1] at hq
      cases hq
      exact Nat.le_add_right _ _
theorem Wl.put {κ : KX} {S : List SH} {μ μ' : MM} {ν ν' : ML} {H H1 : Heap} {k : Nat} {sh : SH} (hW : Wl κ S μ ν H) (hk : S[k]? = some sh) (z : H1.size = H.size) (oq : ∀ q : Nat, q ≠ κ.1 + k → H1[q]? = H[q]?) (he : va_at κ.2.2.1 classes (κ.1 + k, rdC κ μ' ν' k sh) H1)
    (ho : ∀ (k' : Nat) (sh' : SH), k' ≠ k → rdC κ μ' ν' k' sh' = rdC κ μ ν k' sh') : Wl κ S μ' ν' H1 := by
  refine ⟨z.trans hW.1, fun k' q hq => ?_⟩
  rw [wsA_at] at hq
  cases h1 : S[k']? with
  | none => rw [h1] at hq; cases hq
  | some x =>
    rw [h1] at hq
    cases hq
    by_cases hkk : k' = k
    · subst hkk
      cases hk.symm.trans h1
      exact he
    · dsimp only
      rw [ho k' x hkk]
      exact (hW.2 k' _ (wsA_in h1)).kept (oq _ (fun h => hkk (by omega)))
theorem up_cell {μ : MM} {c : Nat} {i v : Int} {c' : Nat} (h : c' ≠ c) : up μ c i v c' = μ c' := by
  funext j
  simp [up, h]
theorem upL_cell {ν : ML} {c : Nat} {i : Int} {v : Int64} {c' : Nat} (h : c' ≠ c) : upL ν c i v c' = ν c' := by
  funext j
  simp [upL, h]
theorem rdC_up {κ : KX} {μ : MM} {ν : ML} {c : Nat} {i v : Int} (k' : Nat) (sh : SH) (h : k' ≠ c) : rdC κ (up μ c i v) ν k' sh = rdC κ μ ν k' sh := by
  rcases sh with ⟨t, n⟩ | ⟨ci, fs⟩
  · simp only [rdC, rdA, up_cell h]
  · have e : rdF κ (up μ c i v) k' = rdF κ μ k' := by
      funext j f
      cases f <;> simp only [rdF, up_cell h]
    simp only [rdC, e]
theorem rdC_upL {κ : KX} {μ : MM} {ν : ML} {c : Nat} {i : Int} {v : Int64} (k' : Nat) (sh : SH) (h : k' ≠ c) : rdC κ μ (upL ν c i v) k' sh = rdC κ μ ν k' sh := by
  rcases sh with ⟨t, n⟩ | ⟨ci, fs⟩
  · simp only [rdC, rdA, upL_cell h]
  · rfl
theorem ix_in {i : Int} {n : Nat} (h0 : 0 ≤ i) (h1 : i < (n : Int)) (hn : n < 2147483648) : vp_in (Int32.ofInt i) n ∧ (Int32.ofInt i).toNatClampNeg = i.toNat := by
  have e : (Int32.ofInt i).toNatClampNeg = i.toNat := Int32.toNatClampNeg_ofInt_of_le (by omega) (by omega)
  refine ⟨fun h => ?_, e⟩
  rcases h with h | h
  · rw [Int32.lt_iff_toInt_lt, Int32.toInt_ofInt_of_le (by omega) (by omega)] at h
    simp at h
    omega
  · rw [e] at h
    omega
theorem in_g {C : String} {T : u_T} {N : Nat} (h : ∀ w ∈ u_ws C T N, w ∈ lw_tbl) : ∀ w ∈ u_ws C T N, w ∈ lwg := by
  intro w hw
  refine List.mem_filter.mpr ⟨h w hw, ?_⟩
  obtain ⟨k, -, rfl⟩ := List.mem_map.mp hw
  unfold u_lay
  split <;> rfl
theorem ty_all : ∀ (ci : Nat) (C : String) (T : u_T) (N : Nat), classes[ci]? = some (C, T, N) → (∀ w ∈ u_ws C T N, w ∈ lwg) ∧ (∃ ty0 : Nat → FieldType, ∀ k, k < N → parseFieldDescriptor (T k).2.2.1 = some (ty0 k)) ∧ ∀ a, a < N → ∀ b, b < N → a ≠ b → (T a).2.1 ≠ (T b).2.1 := by
  intro ci C T N h
  match ci, h with
  | 0, h => cases h; exact ⟨in_g inX0, ⟨tyX0, tyX0_ok⟩, nmX0⟩
  | 1, h => cases h; exact ⟨in_g inX1, ⟨tyX1, tyX1_ok⟩, nmX1⟩
  | 2, h => cases h; exact ⟨in_g inX2, ⟨tyX2, tyX2_ok⟩, nmX2⟩
  | 3, h => cases h; exact ⟨in_g inX3, ⟨tyX3, tyX3_ok⟩, nmX3⟩
  | 4, h => cases h; exact ⟨in_g inX4, ⟨tyX4, tyX4_ok⟩, nmX4⟩
  | 5, h => cases h; exact ⟨in_g inX5, ⟨tyX5, tyX5_ok⟩, nmX5⟩
  | 6, h => cases h; exact ⟨in_g inX6, ⟨tyX6, tyX6_ok⟩, nmX6⟩
  | 7, h => cases h; exact ⟨in_g inX7, ⟨tyX7, tyX7_ok⟩, nmX7⟩
  | 8, h => cases h; exact ⟨in_g inX8, ⟨tyX8, tyX8_ok⟩, nmX8⟩
  | 9, h => cases h; exact ⟨in_g inX9, ⟨tyX9, tyX9_ok⟩, nmX9⟩
  | 10, h => cases h; exact ⟨in_g inX10, ⟨tyX10, tyX10_ok⟩, nmX10⟩
  | 11, h => cases h; exact ⟨in_g inX11, ⟨tyX11, tyX11_ok⟩, nmX11⟩
  | 12, h => cases h; exact ⟨in_g inX12, ⟨tyX12, tyX12_ok⟩, nmX12⟩
  | n + 13, h => simp [classes] at h
/-! locals -/
def prs (κ : KX) (ls : List AV) : List (Nat × Value) := (List.range ls.length).filterMap (fun i => match ls[i]? with
  | some v => if v = aU then none else some (i, cvA κ v)
  | none => none)
theorem prs_mem {κ : KX} {ls : List AV} {i : Nat} {v : AV} (h : ls[i]? = some v) (hv : v ≠ aU) : (i, cvA κ v) ∈ prs κ ls := by
  refine List.mem_filterMap.mpr ⟨i, List.mem_range.mpr (List.getElem?_eq_some_iff.mp h).1, ?_⟩
  simp [h, hv]
theorem prs_of {κ : KX} {ls : List AV} {q : Nat × Value} (h : q ∈ prs κ ls) : ∃ v : AV, ls[q.1]? = some v ∧ v ≠ aU ∧ q.2 = cvA κ v := by
  obtain ⟨i, -, hi⟩ := List.mem_filterMap.mp h
  cases hl : ls[i]? with
  | none => simp [hl] at hi
  | some v =>
    simp only [hl] at hi
    by_cases hv : v = aU
    · simp [hv] at hi
    · rw [if_neg hv] at hi
      cases hi
      exact ⟨v, hl, hv, rfl⟩
theorem LH.has {κ : KX} {n : Nat} {lsA : Array Slot} {ls : List AV} (h : LH κ n lsA ls) : lv_has lsA n (prs κ ls) := by
  refine ⟨h.1, h.2.1, fun q hq => ?_⟩
  obtain ⟨v, h1, h2, h3⟩ := prs_of hq
  rw [h3]
  exact h.2.2.2 _ _ h1 h2
theorem LH.at {κ : KX} {n : Nat} {lsA : Array Slot} {ls : List AV} (h : LH κ n lsA ls) {i : Nat} {v : AV} (hv : gt ls i = some v) (hu : v ≠ aU) : lsA[i]? = some (.val (cvA κ v)) := h.2.2.2 i v (by rw [← gt_eq]; exact hv) hu
theorem lg_cat {κ : KX} {v : AV} (h : (cvA κ v).category = 2) : isLg (some v) = true := by
  rcases v with z | x | k | j | b <;> first | rfl | (exfalso; revert h; simp [cvA, Value.category])
theorem lset_spec {ls ls' : List AV} {i : Nat} {v : AV} (h : lset ls i v = some ls') : i < ls.length ∧ ls' = ls.set i v ∧ (0 < i → isLg ls[i - 1]? = false) := by
  unfold lset at h
  split at h
  · rename_i hb
    cases h
    simp only [Bool.and_eq_true, Bool.not_eq_true', Nat.blt_eq] at hb
    refine ⟨hb.1, rfl, fun h0 => ?_⟩
    have := hb.2
    rw [gt_eq] at this
    simpa [Nat.blt_eq, h0] using this
  · cases h
theorem lset2_spec {ls ls' : List AV} {i : Nat} {v : AV} (h : lset2 ls i v = some ls') : i + 1 < ls.length ∧ ls' = (ls.set i v).set (i + 1) aU ∧ (0 < i → isLg ls[i - 1]? = false) := by
  unfold lset2 at h
  split at h
  · rename_i hb
    cases h
    simp only [Bool.and_eq_true, Bool.not_eq_true', Nat.blt_eq] at hb
    refine ⟨hb.1, rfl, fun h0 => ?_⟩
    have := hb.2
    rw [gt_eq] at this
    simpa [Nat.blt_eq, h0] using this
  · cases h
theorem LH.set1 {κ : KX} {n : Nat} {lsA lsB : Array Slot} {ls ls' : List AV} {i : Nat} {v : AV} (h : LH κ n lsA ls) (hs : lset ls i v = some ls')
    (hB : lv_has lsB n ((i, cvA κ v) :: (prs κ ls).filter (fun q => !(q.1 == i) && !(q.1 + 1 == i && q.2.category == 2)))) : LH κ n lsB ls' := by
  obtain ⟨hi, rfl, hL⟩ := lset_spec hs
  refine ⟨hB.1, hB.2.1, by rw [List.length_set]; exact h.2.2.1, fun j u hj hu => ?_⟩
  by_cases hji : j = i
  · subst hji
    rw [List.getElem?_set_self hi] at hj
    cases hj
    exact hB.2.2 (j, cvA κ v) List.mem_cons_self
  · rw [List.getElem?_set_ne (Ne.symm hji)] at hj
    refine hB.2.2 (j, cvA κ u) (List.mem_cons_of_mem _ (List.mem_filter.mpr ⟨prs_mem hj hu, ?_⟩))
    simp only [Bool.and_eq_true, Bool.not_eq_true', beq_eq_false_iff_ne, ne_eq, hji, not_false_eq_true, true_and]
    rw [Bool.and_eq_false_iff]
    by_cases h1 : j + 1 = i
    · right
      have h2 := hL (by omega)
      rw [show i - 1 = j by omega, hj] at h2
      by_cases h3 : (cvA κ u).category = 2
      · rw [lg_cat h3] at h2
        cases h2
      · simpa using h3
    · left
      simpa using h1
theorem LH.set2 {κ : KX} {n : Nat} {lsA lsB : Array Slot} {ls ls' : List AV} {i : Nat} {v : AV} (h : LH κ n lsA ls) (hs : lset2 ls i v = some ls')
    (hB : lv_has lsB n ((i, cvA κ v) :: (prs κ ls).filter (fun q => !(q.1 == i) && (!(q.1 == i + 1) && !(q.1 + 1 == i && q.2.category == 2))))) : LH κ n lsB ls' := by
  obtain ⟨hi, rfl, hL⟩ := lset2_spec hs
  refine ⟨hB.1, hB.2.1, by rw [List.length_set, List.length_set]; exact h.2.2.1, fun j u hj hu => ?_⟩
  by_cases hj1 : j = i + 1
  · subst hj1
    rw [List.getElem?_set_self (by rw [List.length_set]; exact hi)] at hj
    cases hj
    exact absurd rfl hu
  · rw [List.getElem?_set_ne (Ne.symm hj1)] at hj
    by_cases hji : j = i
    · subst hji
      rw [List.getElem?_set_self (by omega)] at hj
      cases hj
      exact hB.2.2 (j, cvA κ v) List.mem_cons_self
    · rw [List.getElem?_set_ne (Ne.symm hji)] at hj
      refine hB.2.2 (j, cvA κ u) (List.mem_cons_of_mem _ (List.mem_filter.mpr ⟨prs_mem hj hu, ?_⟩))
      simp only [Bool.and_eq_true, Bool.not_eq_true', beq_eq_false_iff_ne, ne_eq, hji, hj1, not_false_eq_true, true_and]
      rw [Bool.and_eq_false_iff]
      by_cases h1 : j + 1 = i
      · right
        have h2 := hL (by omega)
        rw [show i - 1 = j by omega, hj] at h2
        by_cases h3 : (cvA κ u).category = 2
        · rw [lg_cat h3] at h2
          cases h2
        · simpa using h3
      · left
        simpa using h1
theorem nz_of {y : Int} (hy : 0 ≤ y - 1 ∧ y - 1 < 2147483647) : ¬ Int32.ofInt y = 0 := by
  intro h
  have h1 := congrArg Int32.toInt h
  rw [Int32.toInt_ofInt_of_le (by omega) (by omega)] at h1
  simp at h1
  omega
/-! instructions -/
section SND
variable {κ : KX} {cx : MX} {p : Program} {l : Launch} {e : Env} {R : Room} {s : State} {m : MethodId} {args : Array Value} {below : List Frame} {meth : Method} {c : Code} {cells slots : Nat} {Q : State → Prop} {S : List SH} {pc : Nat} {ls r : List AV} {μ : MM} {ν : ML}
theorem ss_iconst {n : Int} (F : Fx κ cx p s m args meth c) (hd : decode cx.2.1 pc = .ok (.iconst n, 1)) (k : MW κ cx p l e R s m args below meth c cells slots Q S (pc + 1) ls (aI n :: r) μ ν) : MW κ cx p l e R s m args below meth c cells slots Q S pc ls r μ ν := by
  intro H locs lsA hS hW hl
  exact lv_iconst F.1 F.2.1 hd rfl (k H locs lsA hS hW hl)
theorem ss_bipush {n : Int} (hn : (Int8.ofInt n).toInt32 = Int32.ofInt n) (F : Fx κ cx p s m args meth c) (hd : decode cx.2.1 pc = .ok (.bipush n, 2)) (k : MW κ cx p l e R s m args below meth c cells slots Q S (pc + 2) ls (aI n :: r) μ ν) : MW κ cx p l e R s m args below meth c cells slots Q S pc ls r μ ν := by
  intro H locs lsA hS hW hl
  exact lv_bipush F.1 F.2.1 hd hn (k H locs lsA hS hW hl)
theorem ss_sipush {n : Int} (hn : (Int16.ofInt n).toInt32 = Int32.ofInt n) (F : Fx κ cx p s m args meth c) (hd : decode cx.2.1 pc = .ok (.sipush n, 3)) (k : MW κ cx p l e R s m args below meth c cells slots Q S (pc + 3) ls (aI n :: r) μ ν) : MW κ cx p l e R s m args below meth c cells slots Q S pc ls r μ ν := by
  intro H locs lsA hS hW hl
  exact lv_sipush F.1 F.2.1 hd hn (k H locs lsA hS hW hl)
theorem ss_ldc {n : Int} {i : Nat} (hn : Cond.constant cx.1.cls i (Int32.ofInt n) ∈ lwg) (F : Fx κ cx p s m args meth c) (hd : decode cx.2.1 pc = .ok (.ldc i, 2)) (k : MW κ cx p l e R s m args below meth c cells slots Q S (pc + 2) ls (aI n :: r) μ ν) : MW κ cx p l e R s m args below meth c cells slots Q S pc ls r μ ν := by
  intro H locs lsA hS hW hl
  exact lv_ldc F.1 F.2.1 F.2.2.2.2.1 (F.2.2.2.2.2.1 _ hn) hd (k H locs lsA hS hW hl)
theorem ss_ldcw {n : Int} {i : Nat} (hn : Cond.constant cx.1.cls i (Int32.ofInt n) ∈ lwg) (F : Fx κ cx p s m args meth c) (hd : decode cx.2.1 pc = .ok (.ldc_w i, 3)) (k : MW κ cx p l e R s m args below meth c cells slots Q S (pc + 3) ls (aI n :: r) μ ν) : MW κ cx p l e R s m args below meth c cells slots Q S pc ls r μ ν := by
  intro H locs lsA hS hW hl
  exact lv_ldcw F.1 F.2.1 F.2.2.2.2.1 (F.2.2.2.2.2.1 _ hn) hd (k H locs lsA hS hW hl)
theorem ss_ldc2 {n : Int64} {i : Nat} (hn : Cond.constantLong cx.1.cls i n ∈ lwg) (F : Fx κ cx p s m args meth c) (hd : decode cx.2.1 pc = .ok (.ldc2_w i, 3)) (k : MW κ cx p l e R s m args below meth c cells slots Q S (pc + 3) ls (aL n :: r) μ ν) : MW κ cx p l e R s m args below meth c cells slots Q S pc ls r μ ν := by
  intro H locs lsA hS hW hl
  exact lv_ldc2 F.1 F.2.1 F.2.2.2.2.1 (F.2.2.2.2.2.1 _ hn) hd (k H locs lsA hS hW hl)
theorem ss_iload_n {i : Fin 4} {x : Int} (hg : gt ls i = some (aI x)) (F : Fx κ cx p s m args meth c) (hd : decode cx.2.1 pc = .ok (.iload_n i, 1)) (k : MW κ cx p l e R s m args below meth c cells slots Q S (pc + 1) ls (aI x :: r) μ ν) : MW κ cx p l e R s m args below meth c cells slots Q S pc ls r μ ν := by
  intro H locs lsA hS hW hl
  exact lv_iload_n F.1 F.2.1 hd rfl (hl.at hg (by simp)) (k H locs lsA hS hW hl)
theorem ss_iload {i : Nat} {x : Int} (hg : gt ls i = some (aI x)) (F : Fx κ cx p s m args meth c) (hd : decode cx.2.1 pc = .ok (.iload i, 2)) (k : MW κ cx p l e R s m args below meth c cells slots Q S (pc + 2) ls (aI x :: r) μ ν) : MW κ cx p l e R s m args below meth c cells slots Q S pc ls r μ ν := by
  intro H locs lsA hS hW hl
  exact lv_iload F.1 F.2.1 hd (hl.at hg (by simp)) (k H locs lsA hS hW hl)
theorem ss_lload_n {i : Fin 4} {x : Int64} (hg : gt ls i = some (aL x)) (F : Fx κ cx p s m args meth c) (hd : decode cx.2.1 pc = .ok (.lload_n i, 1)) (k : MW κ cx p l e R s m args below meth c cells slots Q S (pc + 1) ls (aL x :: r) μ ν) : MW κ cx p l e R s m args below meth c cells slots Q S pc ls r μ ν := by
  intro H locs lsA hS hW hl
  exact lv_lload_n F.1 F.2.1 hd rfl (hl.at hg (by simp)) (k H locs lsA hS hW hl)
theorem ss_lload {i : Nat} {x : Int64} (hg : gt ls i = some (aL x)) (F : Fx κ cx p s m args meth c) (hd : decode cx.2.1 pc = .ok (.lload i, 2)) (k : MW κ cx p l e R s m args below meth c cells slots Q S (pc + 2) ls (aL x :: r) μ ν) : MW κ cx p l e R s m args below meth c cells slots Q S pc ls r μ ν := by
  intro H locs lsA hS hW hl
  exact lv_lload F.1 F.2.1 hd (hl.at hg (by simp)) (k H locs lsA hS hW hl)
theorem ss_aload_n {i : Fin 4} {x : Nat} (hg : gt ls i = some (aR x)) (F : Fx κ cx p s m args meth c) (hd : decode cx.2.1 pc = .ok (.aload_n i, 1)) (k : MW κ cx p l e R s m args below meth c cells slots Q S (pc + 1) ls (aR x :: r) μ ν) : MW κ cx p l e R s m args below meth c cells slots Q S pc ls r μ ν := by
  intro H locs lsA hS hW hl
  exact lv_aload_n F.1 F.2.1 hd rfl (hl.at hg (by simp)) (k H locs lsA hS hW hl)
theorem ss_aload {i : Nat} {x : Nat} (hg : gt ls i = some (aR x)) (F : Fx κ cx p s m args meth c) (hd : decode cx.2.1 pc = .ok (.aload i, 2)) (k : MW κ cx p l e R s m args below meth c cells slots Q S (pc + 2) ls (aR x :: r) μ ν) : MW κ cx p l e R s m args below meth c cells slots Q S pc ls r μ ν := by
  intro H locs lsA hS hW hl
  exact lv_aload F.1 F.2.1 hd (hl.at hg (by simp)) (k H locs lsA hS hW hl)
theorem ss_aloadS_n {i : Fin 4} {x : Nat} (hg : gt ls i = some (aS x)) (F : Fx κ cx p s m args meth c) (hd : decode cx.2.1 pc = .ok (.aload_n i, 1)) (k : MW κ cx p l e R s m args below meth c cells slots Q S (pc + 1) ls (aS x :: r) μ ν) : MW κ cx p l e R s m args below meth c cells slots Q S pc ls r μ ν := by
  intro H locs lsA hS hW hl
  exact lv_aload_n F.1 F.2.1 hd rfl (hl.at hg (by simp)) (k H locs lsA hS hW hl)
theorem ss_aloadS {i : Nat} {x : Nat} (hg : gt ls i = some (aS x)) (F : Fx κ cx p s m args meth c) (hd : decode cx.2.1 pc = .ok (.aload i, 2)) (k : MW κ cx p l e R s m args below meth c cells slots Q S (pc + 2) ls (aS x :: r) μ ν) : MW κ cx p l e R s m args below meth c cells slots Q S pc ls r μ ν := by
  intro H locs lsA hS hW hl
  exact lv_aload F.1 F.2.1 hd (hl.at hg (by simp)) (k H locs lsA hS hW hl)
theorem ss_istore_n {i : Fin 4} {x : Int} {ls' : List AV} (hg : lset ls i (aI x) = some ls') (F : Fx κ cx p s m args meth c) (hd : decode cx.2.1 pc = .ok (.istore_n i, 1)) (k : MW κ cx p l e R s m args below meth c cells slots Q S (pc + 1) ls' r μ ν) : MW κ cx p l e R s m args below meth c cells slots Q S pc ls (aI x :: r) μ ν := by
  intro H locs lsA hS hW hl
  exact lv_istore_n F.1 F.2.1 hd rfl hl.has (by rw [← hl.2.2.1]; exact (lset_spec hg).1) rfl (fun lsB hB => k H locs lsB hS hW (hl.set1 hg hB))
theorem ss_istore {i : Nat} {x : Int} {ls' : List AV} (hg : lset ls i (aI x) = some ls') (F : Fx κ cx p s m args meth c) (hd : decode cx.2.1 pc = .ok (.istore i, 2)) (k : MW κ cx p l e R s m args below meth c cells slots Q S (pc + 2) ls' r μ ν) : MW κ cx p l e R s m args below meth c cells slots Q S pc ls (aI x :: r) μ ν := by
  intro H locs lsA hS hW hl
  exact lv_istore F.1 F.2.1 hd hl.has (by rw [← hl.2.2.1]; exact (lset_spec hg).1) rfl (fun lsB hB => k H locs lsB hS hW (hl.set1 hg hB))
theorem ss_astore_n {i : Fin 4} {x : Nat} {ls' : List AV} (hg : lset ls i (aR x) = some ls') (F : Fx κ cx p s m args meth c) (hd : decode cx.2.1 pc = .ok (.astore_n i, 1)) (k : MW κ cx p l e R s m args below meth c cells slots Q S (pc + 1) ls' r μ ν) : MW κ cx p l e R s m args below meth c cells slots Q S pc ls (aR x :: r) μ ν := by
  intro H locs lsA hS hW hl
  exact lv_astore_n F.1 F.2.1 hd rfl hl.has (by rw [← hl.2.2.1]; exact (lset_spec hg).1) rfl (fun lsB hB => k H locs lsB hS hW (hl.set1 hg hB))
theorem ss_astore {i : Nat} {x : Nat} {ls' : List AV} (hg : lset ls i (aR x) = some ls') (F : Fx κ cx p s m args meth c) (hd : decode cx.2.1 pc = .ok (.astore i, 2)) (k : MW κ cx p l e R s m args below meth c cells slots Q S (pc + 2) ls' r μ ν) : MW κ cx p l e R s m args below meth c cells slots Q S pc ls (aR x :: r) μ ν := by
  intro H locs lsA hS hW hl
  exact lv_astore F.1 F.2.1 hd hl.has (by rw [← hl.2.2.1]; exact (lset_spec hg).1) rfl (fun lsB hB => k H locs lsB hS hW (hl.set1 hg hB))
theorem ss_lstore_n {i : Fin 4} {x : Int64} {ls' : List AV} (hg : lset2 ls i (aL x) = some ls') (F : Fx κ cx p s m args meth c) (hd : decode cx.2.1 pc = .ok (.lstore_n i, 1)) (k : MW κ cx p l e R s m args below meth c cells slots Q S (pc + 1) ls' r μ ν) : MW κ cx p l e R s m args below meth c cells slots Q S pc ls (aL x :: r) μ ν := by
  intro H locs lsA hS hW hl
  exact lv_lstore_n F.1 F.2.1 hd rfl hl.has (by rw [← hl.2.2.1]; exact (lset2_spec hg).1) rfl (fun lsB hB => k H locs lsB hS hW (hl.set2 hg hB))
theorem ss_lstore {i : Nat} {x : Int64} {ls' : List AV} (hg : lset2 ls i (aL x) = some ls') (F : Fx κ cx p s m args meth c) (hd : decode cx.2.1 pc = .ok (.lstore i, 2)) (k : MW κ cx p l e R s m args below meth c cells slots Q S (pc + 2) ls' r μ ν) : MW κ cx p l e R s m args below meth c cells slots Q S pc ls (aL x :: r) μ ν := by
  intro H locs lsA hS hW hl
  exact lv_lstore F.1 F.2.1 hd hl.has (by rw [← hl.2.2.1]; exact (lset2_spec hg).1) rfl (fun lsB hB => k H locs lsB hS hW (hl.set2 hg hB))
theorem ss_iinc {i : Nat} {n x : Int} {ls' : List AV} (hx : gt ls i = some (aI x)) (hg : lset ls i (aI (x + n)) = some ls') (F : Fx κ cx p s m args meth c) (hd : decode cx.2.1 pc = .ok (.iinc i n, 3)) (k : MW κ cx p l e R s m args below meth c cells slots Q S (pc + 3) ls' r μ ν) : MW κ cx p l e R s m args below meth c cells slots Q S pc ls r μ ν := by
  intro H locs lsA hS hW hl
  obtain ⟨j, hj⟩ := List.getElem?_of_mem (prs_mem (κ := κ) (by rw [← gt_eq]; exact hx) (show aI x ≠ aU by simp))
  exact lv_iinc (k := j) (v := Int32.ofInt (x + n)) F.1 F.2.1 hd hl.has hj (Int32.ofInt_add x n).symm (by rw [← hl.2.2.1]; exact (lset_spec hg).1) rfl (fun lsB hB => k H locs lsB hS hW (hl.set1 hg hB))
theorem ss_iadd {x y : Int} (F : Fx κ cx p s m args meth c) (hd : decode cx.2.1 pc = .ok (.iadd, 1)) (k : MW κ cx p l e R s m args below meth c cells slots Q S (pc + 1) ls (aI (x + y) :: r) μ ν) : MW κ cx p l e R s m args below meth c cells slots Q S pc ls (aI y :: aI x :: r) μ ν := by
  intro H locs lsA hS hW hl
  refine lv_iadd F.1 F.2.1 hd ?_
  rw [← Int32.ofInt_add]
  exact k H locs lsA hS hW hl
theorem ss_isub {x y : Int} (F : Fx κ cx p s m args meth c) (hd : decode cx.2.1 pc = .ok (.isub, 1)) (k : MW κ cx p l e R s m args below meth c cells slots Q S (pc + 1) ls (aI (x - y) :: r) μ ν) : MW κ cx p l e R s m args below meth c cells slots Q S pc ls (aI y :: aI x :: r) μ ν := by
  intro H locs lsA hS hW hl
  refine lv_isub F.1 F.2.1 hd ?_
  rw [← Int32.ofInt_sub]
  exact k H locs lsA hS hW hl
theorem ss_imul {x y : Int} (F : Fx κ cx p s m args meth c) (hd : decode cx.2.1 pc = .ok (.imul, 1)) (k : MW κ cx p l e R s m args below meth c cells slots Q S (pc + 1) ls (aI (x * y) :: r) μ ν) : MW κ cx p l e R s m args below meth c cells slots Q S pc ls (aI y :: aI x :: r) μ ν := by
  intro H locs lsA hS hW hl
  refine lv_imul F.1 F.2.1 hd ?_
  rw [← Int32.ofInt_mul]
  exact k H locs lsA hS hW hl
theorem ss_ineg {x : Int} (F : Fx κ cx p s m args meth c) (hd : decode cx.2.1 pc = .ok (.ineg, 1)) (k : MW κ cx p l e R s m args below meth c cells slots Q S (pc + 1) ls (aI (-x) :: r) μ ν) : MW κ cx p l e R s m args below meth c cells slots Q S pc ls (aI x :: r) μ ν := by
  intro H locs lsA hS hW hl
  refine lv_ineg F.1 F.2.1 hd ?_
  rw [← Int32.ofInt_neg]
  exact k H locs lsA hS hW hl
theorem ss_iand {x y : Int} (F : Fx κ cx p s m args meth c) (hd : decode cx.2.1 pc = .ok (.iand, 1)) (k : MW κ cx p l e R s m args below meth c cells slots Q S (pc + 1) ls (aI (bAnd x y) :: r) μ ν) : MW κ cx p l e R s m args below meth c cells slots Q S pc ls (aI y :: aI x :: r) μ ν := by
  intro H locs lsA hS hW hl
  refine lv_iand F.1 F.2.1 hd ?_
  have k1 := k H locs lsA hS hW hl
  simp only [List.map, cvA, bAnd, Int32.ofInt_toInt] at k1
  exact k1
theorem ss_ior {x y : Int} (F : Fx κ cx p s m args meth c) (hd : decode cx.2.1 pc = .ok (.ior, 1)) (k : MW κ cx p l e R s m args below meth c cells slots Q S (pc + 1) ls (aI (bOr x y) :: r) μ ν) : MW κ cx p l e R s m args below meth c cells slots Q S pc ls (aI y :: aI x :: r) μ ν := by
  intro H locs lsA hS hW hl
  refine lv_ior F.1 F.2.1 hd ?_
  have k1 := k H locs lsA hS hW hl
  simp only [List.map, cvA, bOr, Int32.ofInt_toInt] at k1
  exact k1
theorem ss_ixor {x y : Int} (F : Fx κ cx p s m args meth c) (hd : decode cx.2.1 pc = .ok (.ixor, 1)) (k : MW κ cx p l e R s m args below meth c cells slots Q S (pc + 1) ls (aI (bXor x y) :: r) μ ν) : MW κ cx p l e R s m args below meth c cells slots Q S pc ls (aI y :: aI x :: r) μ ν := by
  intro H locs lsA hS hW hl
  refine lv_ixor F.1 F.2.1 hd ?_
  have k1 := k H locs lsA hS hW hl
  simp only [List.map, cvA, bXor, Int32.ofInt_toInt] at k1
  exact k1
theorem ss_ishl {x y : Int} (F : Fx κ cx p s m args meth c) (hd : decode cx.2.1 pc = .ok (.ishl, 1)) (k : MW κ cx p l e R s m args below meth c cells slots Q S (pc + 1) ls (aI (bShl x y) :: r) μ ν) : MW κ cx p l e R s m args below meth c cells slots Q S pc ls (aI y :: aI x :: r) μ ν := by
  intro H locs lsA hS hW hl
  refine lv_ishl F.1 F.2.1 hd ?_
  have k1 := k H locs lsA hS hW hl
  simp only [List.map, cvA, bShl, Int32.ofInt_toInt] at k1
  exact k1
theorem ss_ishr {x y : Int} (F : Fx κ cx p s m args meth c) (hd : decode cx.2.1 pc = .ok (.ishr, 1)) (k : MW κ cx p l e R s m args below meth c cells slots Q S (pc + 1) ls (aI (bShr x y) :: r) μ ν) : MW κ cx p l e R s m args below meth c cells slots Q S pc ls (aI y :: aI x :: r) μ ν := by
  intro H locs lsA hS hW hl
  refine lv_ishr F.1 F.2.1 hd ?_
  have k1 := k H locs lsA hS hW hl
  simp only [List.map, cvA, bShr, Int32.ofInt_toInt] at k1
  exact k1
theorem ss_iushr {x y : Int} (F : Fx κ cx p s m args meth c) (hd : decode cx.2.1 pc = .ok (.iushr, 1)) (k : MW κ cx p l e R s m args below meth c cells slots Q S (pc + 1) ls (aI (bUshr x y) :: r) μ ν) : MW κ cx p l e R s m args below meth c cells slots Q S pc ls (aI y :: aI x :: r) μ ν := by
  intro H locs lsA hS hW hl
  refine lv_iushr F.1 F.2.1 hd rfl ?_
  have k1 := k H locs lsA hS hW hl
  simp only [List.map, cvA, bUshr, Int32.ofInt_toInt] at k1
  exact k1
theorem ss_idiv {x y : Int} (hy : 0 ≤ y - 1 ∧ y - 1 < 2147483647) (F : Fx κ cx p s m args meth c) (hd : decode cx.2.1 pc = .ok (.idiv, 1)) (k : MW κ cx p l e R s m args below meth c cells slots Q S (pc + 1) ls (aI (bDiv x y) :: r) μ ν) : MW κ cx p l e R s m args below meth c cells slots Q S pc ls (aI y :: aI x :: r) μ ν := by
  intro H locs lsA hS hW hl
  refine lv_idiv F.1 F.2.1 hd (nz_of hy) ?_
  have k1 := k H locs lsA hS hW hl
  simp only [List.map, cvA, bDiv, Int32.ofInt_toInt] at k1
  exact k1
theorem ss_irem {x y : Int} (hy : 0 ≤ y - 1 ∧ y - 1 < 2147483647) (F : Fx κ cx p s m args meth c) (hd : decode cx.2.1 pc = .ok (.irem, 1)) (k : MW κ cx p l e R s m args below meth c cells slots Q S (pc + 1) ls (aI (bRem x y) :: r) μ ν) : MW κ cx p l e R s m args below meth c cells slots Q S pc ls (aI y :: aI x :: r) μ ν := by
  intro H locs lsA hS hW hl
  refine lv_irem F.1 F.2.1 hd (nz_of hy) ?_
  have k1 := k H locs lsA hS hW hl
  simp only [List.map, cvA, bRem, Int32.ofInt_toInt] at k1
  exact k1
theorem ss_ladd {x y : Int64} (F : Fx κ cx p s m args meth c) (hd : decode cx.2.1 pc = .ok (.ladd, 1)) (k : MW κ cx p l e R s m args below meth c cells slots Q S (pc + 1) ls (aL (x + y) :: r) μ ν) : MW κ cx p l e R s m args below meth c cells slots Q S pc ls (aL y :: aL x :: r) μ ν := by
  intro H locs lsA hS hW hl
  exact lv_ladd F.1 F.2.1 hd (k H locs lsA hS hW hl)
theorem ss_lsub {x y : Int64} (F : Fx κ cx p s m args meth c) (hd : decode cx.2.1 pc = .ok (.lsub, 1)) (k : MW κ cx p l e R s m args below meth c cells slots Q S (pc + 1) ls (aL (x - y) :: r) μ ν) : MW κ cx p l e R s m args below meth c cells slots Q S pc ls (aL y :: aL x :: r) μ ν := by
  intro H locs lsA hS hW hl
  exact lv_lsub F.1 F.2.1 hd (k H locs lsA hS hW hl)
theorem ss_land {x y : Int64} (F : Fx κ cx p s m args meth c) (hd : decode cx.2.1 pc = .ok (.land, 1)) (k : MW κ cx p l e R s m args below meth c cells slots Q S (pc + 1) ls (aL (x &&& y) :: r) μ ν) : MW κ cx p l e R s m args below meth c cells slots Q S pc ls (aL y :: aL x :: r) μ ν := by
  intro H locs lsA hS hW hl
  exact lv_land F.1 F.2.1 hd (k H locs lsA hS hW hl)
theorem ss_lor {x y : Int64} (F : Fx κ cx p s m args meth c) (hd : decode cx.2.1 pc = .ok (.lor, 1)) (k : MW κ cx p l e R s m args below meth c cells slots Q S (pc + 1) ls (aL (x ||| y) :: r) μ ν) : MW κ cx p l e R s m args below meth c cells slots Q S pc ls (aL y :: aL x :: r) μ ν := by
  intro H locs lsA hS hW hl
  exact lv_lor F.1 F.2.1 hd (k H locs lsA hS hW hl)
theorem ss_lxor {x y : Int64} (F : Fx κ cx p s m args meth c) (hd : decode cx.2.1 pc = .ok (.lxor, 1)) (k : MW κ cx p l e R s m args below meth c cells slots Q S (pc + 1) ls (aL (x ^^^ y) :: r) μ ν) : MW κ cx p l e R s m args below meth c cells slots Q S pc ls (aL y :: aL x :: r) μ ν := by
  intro H locs lsA hS hW hl
  exact lv_lxor F.1 F.2.1 hd (k H locs lsA hS hW hl)
theorem ss_lushr {x : Int64} {y : Int} (F : Fx κ cx p s m args meth c) (hd : decode cx.2.1 pc = .ok (.lushr, 1)) (k : MW κ cx p l e R s m args below meth c cells slots Q S (pc + 1) ls (aL (lUshr x y) :: r) μ ν) : MW κ cx p l e R s m args below meth c cells slots Q S pc ls (aI y :: aL x :: r) μ ν := by
  intro H locs lsA hS hW hl
  exact lv_lushr F.1 F.2.1 hd rfl (k H locs lsA hS hW hl)
theorem ss_lshl {x : Int64} {y : Int} (F : Fx κ cx p s m args meth c) (hd : decode cx.2.1 pc = .ok (.lshl, 1)) (k : MW κ cx p l e R s m args below meth c cells slots Q S (pc + 1) ls (aL (lShl x y) :: r) μ ν) : MW κ cx p l e R s m args below meth c cells slots Q S pc ls (aI y :: aL x :: r) μ ν := by
  intro H locs lsA hS hW hl
  exact lv_lshl F.1 F.2.1 hd rfl (k H locs lsA hS hW hl)
theorem ss_l2i {x : Int64} (F : Fx κ cx p s m args meth c) (hd : decode cx.2.1 pc = .ok (.l2i, 1)) (k : MW κ cx p l e R s m args below meth c cells slots Q S (pc + 1) ls (aI x.toInt32.toInt :: r) μ ν) : MW κ cx p l e R s m args below meth c cells slots Q S pc ls (aL x :: r) μ ν := by
  intro H locs lsA hS hW hl
  refine lv_l2i F.1 F.2.1 hd rfl ?_
  have k1 := k H locs lsA hS hW hl
  simp only [List.map, cvA, Int32.ofInt_toInt] at k1
  exact k1
theorem ss_dupI {x : Int} (F : Fx κ cx p s m args meth c) (hd : decode cx.2.1 pc = .ok (.dup, 1)) (k : MW κ cx p l e R s m args below meth c cells slots Q S (pc + 1) ls (aI x :: aI x :: r) μ ν) : MW κ cx p l e R s m args below meth c cells slots Q S pc ls (aI x :: r) μ ν := by
  intro H locs lsA hS hW hl
  exact lv_dup F.1 F.2.1 hd rfl (k H locs lsA hS hW hl)
theorem ss_dupR {x : Nat} (F : Fx κ cx p s m args meth c) (hd : decode cx.2.1 pc = .ok (.dup, 1)) (k : MW κ cx p l e R s m args below meth c cells slots Q S (pc + 1) ls (aR x :: aR x :: r) μ ν) : MW κ cx p l e R s m args below meth c cells slots Q S pc ls (aR x :: r) μ ν := by
  intro H locs lsA hS hW hl
  exact lv_dup F.1 F.2.1 hd rfl (k H locs lsA hS hW hl)
theorem ss_dup2 {x : Nat} {y : Int} (F : Fx κ cx p s m args meth c) (hd : decode cx.2.1 pc = .ok (.dup2, 1)) (k : MW κ cx p l e R s m args below meth c cells slots Q S (pc + 1) ls (aI y :: aR x :: aI y :: aR x :: r) μ ν) : MW κ cx p l e R s m args below meth c cells slots Q S pc ls (aI y :: aR x :: r) μ ν := by
  intro H locs lsA hS hW hl
  exact lv_dup2_11 F.1 F.2.1 hd rfl rfl (k H locs lsA hS hW hl)
theorem ss_goto {off : Int} {tgt : Nat} (ht : (pc : Int) + off = (tgt : Int)) (F : Fx κ cx p s m args meth c) (hd : decode cx.2.1 pc = .ok (.goto off, 3)) (k : MW κ cx p l e R s m args below meth c cells slots Q S tgt ls r μ ν) : MW κ cx p l e R s m args below meth c cells slots Q S pc ls r μ ν := by
  intro H locs lsA hS hW hl
  exact lv_goto F.1 F.2.1 hd ht (k H locs lsA hS hW hl)
theorem ss_getstatic {i a : Nat} (ha : a < 5) (hn : Cond.fieldLink cx.1.cls i (stN a).1 (stN a).2 "[I" ∈ lwg) (F : Fx κ cx p s m args meth c) (hd : decode cx.2.1 pc = .ok (.getstatic i, 3)) (k : MW κ cx p l e R s m args below meth c cells slots Q S (pc + 3) ls (aS a :: r) μ ν) : MW κ cx p l e R s m args below meth c cells slots Q S pc ls r μ ν := by
  intro H locs lsA hS hW hl
  obtain ⟨hx, hb, -, -, hown, hts, -, -, -, hst⟩ := F
  exact va_gets hx hb (hst.2.1 a ha).1 hS hown (hts _ hn) (fun _ h => h) hd (k H locs lsA hS hW hl)
theorem ss_getI {i a b x : Nat} {C : String} {T : u_T} {N : Nat} {fs : List (Option AV)} (hc : classes[a]? = some (C, T, N)) (hbN : b < N) (hn : Cond.fieldLink cx.1.cls i (T b).1 (T b).2.1 (T b).2.2.1 ∈ lwg) (hx : S[x]? = some (.inr (a, fs))) (hf : fs[b]? = some none) (F : Fx κ cx p s m args meth c) (hd : decode cx.2.1 pc = .ok (.getfield i, 3)) (k : MW κ cx p l e R s m args below meth c cells slots Q S (pc + 3) ls (aI (μ x (b : Int)) :: r) μ ν) : MW κ cx p l e R s m args below meth c cells slots Q S pc ls (aR x :: r) μ ν := by
  intro H locs lsA hS hW hl
  obtain ⟨hx0, hb, -, -, hown, hts, -, -, hK, -⟩ := F
  exact va_get hx0 hb hts (ty_all a C T N hc).1 hown hK hW.2 x (wsA_in hx) hc b hbN (hts _ hn) (fun _ h => h) (by rw [List.getElem?_mapIdx, hf]; rfl) hd (k H locs lsA hS hW hl)
theorem ss_getR {i a b x : Nat} {C : String} {T : u_T} {N : Nat} {fs : List (Option AV)} (hc : classes[a]? = some (C, T, N)) (hbN : b < N) (hn : Cond.fieldLink cx.1.cls i (T b).1 (T b).2.1 (T b).2.2.1 ∈ lwg) (hx : S[x]? = some (.inr (a, fs))) {v : AV} (hf : fs[b]? = some (some v)) (F : Fx κ cx p s m args meth c) (hd : decode cx.2.1 pc = .ok (.getfield i, 3)) (k : MW κ cx p l e R s m args below meth c cells slots Q S (pc + 3) ls (v :: r) μ ν) : MW κ cx p l e R s m args below meth c cells slots Q S pc ls (aR x :: r) μ ν := by
  intro H locs lsA hS hW hl
  obtain ⟨hx0, hb, -, -, hown, hts, -, -, hK, -⟩ := F
  exact va_get hx0 hb hts (ty_all a C T N hc).1 hown hK hW.2 x (wsA_in hx) hc b hbN (hts _ hn) (fun _ h => h) (by rw [List.getElem?_mapIdx, hf]; rfl) hd (k H locs lsA hS hW hl)
end SND

/-! ===== the law: its entry ===== -/
theorem inst_ok : ∀ (c : Nat) (C : String) (T : u_T) (N : Nat), classes[c]? = some (C, T, N) → Cond.instantiable C N ∈ lwg := by
  intro c C T N h
  match c, h with
  | 0, h => cases h; exact okL_mem (pos := 235) (by decide +kernel)
  | 1, h => cases h; exact okL_mem (pos := 73) (by decide +kernel)
  | 2, h => cases h; exact okL_mem (pos := 145) (by decide +kernel)
  | 3, h => cases h; exact okL_mem (pos := 67) (by decide +kernel)
  | 4, h => cases h; exact okL_mem (pos := 343) (by decide +kernel)
  | 5, h => cases h; exact okL_mem (pos := 333) (by decide +kernel)
  | 6, h => cases h; exact okL_mem (pos := 353) (by decide +kernel)
  | 7, h => cases h; exact okL_mem (pos := 297) (by decide +kernel)
  | 8, h => cases h; exact okL_mem (pos := 170) (by decide +kernel)
  | 9, h => cases h; exact okL_mem (pos := 202) (by decide +kernel)
  | 10, h => cases h; exact okL_mem (pos := 278) (by decide +kernel)
  | 11, h => cases h; exact okL_mem (pos := 59) (by decide +kernel)
  | 12, h => cases h; exact okL_mem (pos := 962) (by decide +kernel)
  | n + 13, h => simp [classes] at h
theorem arr_ok {args : Array Value} {s : State} {ty : FieldType} (hn : ∀ C, ty ≠ .object C) (h : (Cond.arrayClass ty).before args s = true) : ∃ cA : ClassId, ArrOfT s cA ty ∧ va_RA s cA ty := by
  obtain ⟨cA, kA, comp, h1, h2, h3⟩ := Cond.arrayClass_spec h
  refine ⟨cA, fun n z => ⟨fun k h => (by cases h), kA, h2, comp, h3⟩, ?_⟩
  cases ty with
  | object C => exact absurd rfl (hn C)
  | _ => exact h1
theorem kn_all {args : Array Value} {s : State} (hts : ∀ w ∈ lwg, w.before args s = true) : ∃ (D : va_G) (dA : Nat → ClassId), va_K D classes [(dA 0, .int), (dA 1, .boolean), (dA 2, .long)] s := by
  have A : ∀ c : Nat, ∃ x : ClassId × (Nat → Nat), ∀ q, classes[c]? = some q → u_Kn s q.1 q.2.1 q.2.2 x.1 x.2 := by
    intro c
    cases h : classes[c]? with
    | none => exact ⟨((0 : Nat), fun _ => 0), fun q hq => by cases hq⟩
    | some q =>
      obtain ⟨C, T, N⟩ := q
      obtain ⟨cC, iS, hk⟩ := u_known hts (ty_all c C T N h).1 (hts _ (inst_ok c C T N h))
      exact ⟨(cC, iS), fun q hq => by cases hq; exact hk⟩
  obtain ⟨f, hf⟩ := Classical.axiomOfChoice A
  obtain ⟨a0, h0⟩ := arr_ok (ty := .int) (fun _ h => by cases h) (hts _ (okL_mem (pos := 103) (by decide +kernel)))
  obtain ⟨a1, h1⟩ := arr_ok (ty := .boolean) (fun _ h => by cases h) (hts _ (okL_mem (pos := 104) (by decide +kernel)))
  obtain ⟨a2, h2⟩ := arr_ok (ty := .long) (fun _ h => by cases h) (hts _ (okL_mem (pos := 331) (by decide +kernel)))
  refine ⟨(fun c => (f c).1, fun c => (f c).2), fun t => if t = 0 then a0 else if t = 1 then a1 else a2, fun c q hq => hf c q hq, fun k q hk => ?_⟩
  match k, hk with
  | 0, hk => cases hk; exact h0
  | 1, hk => cases hk; exact h1
  | 2, hk => cases hk; exact h2
  | n + 3, hk => cases hk
set_option maxRecDepth 100000 in
theorem st_chk : ∀ j, j < 5 → Cond.arrayOf (.static (stN j).1 (stN j).2 "[I") .int ∈ flatC (Jvm.Cond.and given_1 narrow_1) ∧ Cond.eq (.length (.static (stN j).1 (stN j).2 "[I")) (.int (Int32.ofNat (stA j).length)) ∈ flatC (Jvm.Cond.and given_1 narrow_1) ∧ (∀ k, k < (stA j).length → Cond.eq (.elem (.static (stN j).1 (stN j).2 "[I") (.int (Int32.ofNat k))) (.int (Int32.ofInt ((stA j).getD k 0))) ∈ flatC (Jvm.Cond.and given_1 narrow_1)) ∧ Cond.laysStatic (stN j).1 (stN j).2 "[I" ∈ lw_tbl ∧ Cond.initialized (stN j).1 ∈ lw_tbl ∧ (stA j).length < 2 ^ 31 := by decide +kernel
theorem st_ok {args : Array Value} {s : State} (hgv : (Jvm.Cond.and given_1 narrow_1).before args s = true) (hts : ∀ w ∈ lw_tbl, w.before args s = true) {A : Nat → Prop} (hA : ∀ a : Nat, a < s.heap.size → ¬ A a) : ∀ j, ∃ t : Nat, j < 5 → va_Z (stN j).1 (stN j).2 "[I" (.ref t) A s s.heap ∧ va_T .int t (stA j).length (fun n => .int (Int32.ofInt ((stA j).getD n 0))) A s s.heap := by
  intro j
  by_cases hj : j < 5
  · have hs := flat_of_before _ hgv
    obtain ⟨c1, c2, c3, c4, c5, c6⟩ := st_chk j hj
    obtain ⟨t, h1, h2⟩ := va_Tof (f := fun n => .int (Int32.ofInt ((stA j).getD n 0))) c6 (hs _ c1) (va_eqt (hs _ c2)) (fun k hk => va_eqt (hs _ (c3 k hk))) hA
    exact ⟨t, fun _ => ⟨va_Zof (hts _ c4) (hts _ c5) h1 hA, h2⟩⟩
  · exact ⟨0, fun q => absurd q hj⟩
theorem m_init1 {κ : KX} : AMet κ 5 (cxC 11) [aR 0] [.inr (11, dflT TX11 13)] (clr muZ 0) (clrL nuZ 0) (PostEq SX mu1 nu1) (SX.length - 1) (szS SX - 13) := by
  refine AMet.of (mkI_ok 11 (by decide)).1 (Nat.le_of_ble_eq_true rfl) rfl ?_
  exact (crun_ok κ 3000 5 11 0 [aR 0] [] [.inr (11, dflT TX11 13)] SX _ _ _ _ (by decide) run1_eq).2.2 0 0 _ _ (by rw [Nat.zero_add]; rfl) (by rw [Nat.zero_add]; rfl)
def SX2 : List SH := SX ++ [.inr (12, dflT TX12 37)]
theorem run2_q : crun 5000 5 12 0 [aR 55, aU] [] SX2 (clr mu1 55) (clrL nu1 55) = some (S0, mu0, nu0) := run2_eq
set_option maxRecDepth 100000 in
theorem m_init2 {κ : KX} : AMet κ 5 (cxC 12) [aR 55] SX2 (clr mu1 55) (clrL nu1 55) (PostEq S0 mu0 nu0) (S0.length - SX2.length) (szS S0 - szS SX2) := by
  refine AMet.of (mkI_ok 12 (by decide)).1 (Nat.le_of_ble_eq_true rfl) rfl ?_
  exact (crun_ok κ 5000 5 12 0 [aR 55, aU] [] SX2 S0 _ _ _ _ (by decide) run2_q).2.2 0 0 _ _ (Nat.zero_add _) (Nat.zero_add _)
set_option maxRecDepth 100000 in
theorem al_start {κ : KX} (hL : κ.2.2.2.2.1 < 2147483648) (hL3 : κ.2.2.2.2.1 ≤ 3072) : AW κ mL_law room_1 (lz κ) 0 0 [] 0 [aS 5, aU, aU, aU] [] muZ nuZ := by
  refine aw_new (ci := 11) (p1 := 58) (p2 := 59) (p3 := 41) eL_law_0 rfl (by decide +kernel) (by decide +kernel) (by decide +kernel) (Nat.le_of_ble_eq_true rfl) (Nat.le_of_ble_eq_true rfl) ?_
  refine aw_blk oL_law_3 (pc' := 4) (ls' := [_, _, _, _]) (st' := [_, _]) (cs := []) rfl trivial ?_
  refine aw_callI (b := 0) (rest := [aR 0]) (p1 := 60) m_init1 (mkI_ok 11 (by decide)).1 (mkI_ok 11 (by decide)).2.1 (mkI_ok 11 (by decide)).2.2.1 (mkI_ok 11 (by decide)).2.2.2.1 eL_law_4 lL_law_4 (Nat.le_of_ble_eq_true rfl) ⟨Nat.le_of_ble_eq_true rfl, Nat.le_of_ble_eq_true rfl⟩ ⟨by decide +kernel, by decide +kernel⟩ (fun r S' μ' ν' hp => ?_)
  obtain ⟨rfl, rfl, rfl, rfl⟩ := hp
  refine aw_blk oL_law_7 (pc' := 8) (ls' := [_, _, _, _]) (st' := []) (cs := []) rfl trivial ?_
  refine aw_new (ci := 12) (p1 := 961) (p2 := 962) (p3 := 53) eL_law_8 rfl (by decide +kernel) (by decide +kernel) (by decide +kernel) (by decide +kernel) (by decide +kernel) ?_
  have e55 : SX.length = 55 := rfl
  rw [e55]
  refine aw_blk oL_law_11 (pc' := 12) (ls' := [_, _, _, _]) (st' := [_, _]) (cs := []) rfl trivial ?_
  refine aw_callI (b := 55) (rest := [aR 55]) (p1 := 963) m_init2 (mkI_ok 12 (by decide)).1 (mkI_ok 12 (by decide)).2.1 (mkI_ok 12 (by decide)).2.2.1 (mkI_ok 12 (by decide)).2.2.2.1 eL_law_12 lL_law_12 (Nat.le_of_ble_eq_true rfl) ⟨Nat.le_of_ble_eq_true rfl, Nat.le_of_ble_eq_true rfl⟩ ⟨by decide +kernel, by decide +kernel⟩ (fun r S' μ' ν' hp => ?_)
  obtain ⟨rfl, rfl, rfl, rfl⟩ := hp
  refine aw_blk oL_law_15 (pc' := 18) (ls' := [_, _, _, _]) (st' := []) (cs := []) rfl trivial ?_
  exact l_law ⟨by decide +kernel, by decide +kernel⟩ hL hL3 κ.2.2.2.2.1 0 mu0 nu0 (by omega) (by omega) (by omega) rel0
/-- what holds at the law's entry -/
def lw_At (p : Program) (s : State) (m : MethodId) (meth : Method) (c : Code) (b L : Nat) (xs : Nat → Int32) : Prop :=
  p.tables.exec = Jvm.exec ∧ c.code = code ∧ meth.sig.returnType = ret ∧ c.maxLocals = 4 ∧ s.vm.findClass R_law = some m.cls ∧ (∀ w ∈ lw_tbl, w.before #[Value.ref b] s = true) ∧ va_X b L xs s s.heap ∧ b < s.heap.size ∧ meth.locks = false ∧ (Jvm.Cond.and given_1 narrow_1).before #[Value.ref b] s = true ∧ meth.name = x.name
theorem whole_start {p : Program} {e : Env} {s : State} {m : MethodId} {below : List Frame} {meth : Method} {c : Code} (l : Launch) {b L : Nat} {xs : Nat → Int32} (hL : L ≤ 3072) (C0 : lw_At p s m meth c b L xs) : W p l e room_1 s m #[Value.ref b] below meth c s.heap [] 0 0 (lw_Z below #[Value.ref b] s) (entryFrame m ([Value.ref b] : List Value).toArray 4) := by
  obtain ⟨hx, hb, hr, hml, hown, hts, hX, hbl, hlocks, hgv, hnm⟩ := C0
  have htg : ∀ w ∈ lwg, w.before #[Value.ref b] s = true := fun w hw => hts w (List.mem_filter.mp hw).1
  obtain ⟨D, dA, hK⟩ := kn_all htg
  have hA : ∀ a : Nat, a < s.heap.size → ¬ (fun q : Nat => s.heap.size ≤ q) a := fun a h => Nat.not_le.mpr h
  obtain ⟨g, hg⟩ := Classical.axiomOfChoice (st_ok hgv hts hA)
  obtain ⟨κ, hκ⟩ : ∃ κ : KX, κ = (s.heap.size, fun j => if j = 5 then b else g j, D, dA, L, xs) := ⟨_, rfl⟩
  have k1 : κ.1 = s.heap.size := by rw [hκ]
  have k5 : κ.2.1 5 = b := by rw [hκ]; rfl
  have kL : κ.2.2.2.2.1 = L := by rw [hκ]
  have hKK : KK κ s := by rw [hκ]; exact hK
  have hSt : Stt κ s := by
    subst hκ
    refine ⟨Nat.le_refl _, fun j hj => ?_, hX, hbl⟩
    have := hg j hj
    show va_Z (stN j).1 (stN j).2 "[I" (.ref (if j = 5 then b else g j)) _ s s.heap ∧ va_T .int (if j = 5 then b else g j) _ _ _ s s.heap
    rw [if_neg (by omega)]
    exact this
  have F : Fx κ mL_law p s m #[Value.ref b] meth c := ⟨hx, hb, hr, hml, hown, htg, hlocks, hnm, hKK, hSt⟩
  have K := al_start (κ := κ) (by omega) (by omega) (fun x t n h => by cases h) p l e s m #[Value.ref b] below meth c F s.heap [] _ va_S.rf ⟨by rw [k1]; rfl, fun k q hq => by cases hq⟩ (LH.entry (As := [aS 5]) (n := 4) (Nat.le_of_ble_eq_true rfl))
  have ev : ([aS 5] : List AV).map (cvA κ) = [Value.ref b] := by
    show [Value.ref (κ.2.1 5)] = _
    rw [k5]
  rw [ev] at K
  rw [lg_entry_eq]
  intro T hT X
  obtain ⟨t, a1, a2⟩ := K T hT X
  exact ⟨t, a1, a2 (by rw [k1]; exact Nat.le_refl _)⟩

/-! ===== memory: arrays, fields, blocks ===== -/
theorem upd_up {μ : MM} {x : Nat} {i v : Int} (hi : 0 ≤ i) : upd (fun j : Nat => Int32.ofInt (μ x (j : Int))) i.toNat (Int32.ofInt v) = fun j : Nat => Int32.ofInt (up μ x i v x (j : Int)) := by
  funext j
  by_cases hj : j = i.toNat
  · subst hj
    have e : ((i.toNat : Nat) : Int) = i := Int.toNat_of_nonneg hi
    simp [upd, up, e]
  · have e : ¬ (j : Int) = i := fun h => hj (by omega)
    simp [upd, up, hj, e]
theorem updL_up {ν : ML} {x : Nat} {i : Int} {v : Int64} (hi : 0 ≤ i) : vp_updL (fun j : Nat => ν x (j : Int)) i.toNat v = fun j : Nat => upL ν x i v x (j : Int) := by
  funext j
  by_cases hj : j = i.toNat
  · subst hj
    have e : ((i.toNat : Nat) : Int) = i := Int.toNat_of_nonneg hi
    simp [vp_updL, upL, e]
  · have e : ¬ (j : Int) = i := fun h => hj (by omega)
    simp [vp_updL, upL, hj, e]
theorem upF_set {κ : KX} {μ : MM} {x b : Nat} {v : Int} {fs : List (Option AV)} (hf : fs[b]? = some none) : (fs.mapIdx (rdF κ μ x)).set b (.int (Int32.ofInt v)) = fs.mapIdx (rdF κ (up μ x (b : Int) v) x) := by
  apply List.ext_getElem?
  intro j
  by_cases hj : j = b
  · subst hj
    have hlt : j < (fs.mapIdx (rdF κ μ x)).length := by rw [List.length_mapIdx]; exact (List.getElem?_eq_some_iff.mp hf).1
    rw [List.getElem?_set_self hlt, List.getElem?_mapIdx, hf]
    simp [rdF, up]
  · rw [List.getElem?_set_ne (Ne.symm hj), List.getElem?_mapIdx, List.getElem?_mapIdx]
    cases fs[j]? with
    | none => rfl
    | some f =>
      have e : ¬ (j : Int) = (b : Int) := fun h => hj (by omega)
      cases f <;> simp [rdF, up, e]
section MEM
variable {κ : KX} {cx : MX} {p : Program} {l : Launch} {e : Env} {R : Room} {s : State} {m : MethodId} {args : Array Value} {below : List Frame} {meth : Method} {c : Code} {cells slots : Nat} {Q : State → Prop} {S : List SH} {pc : Nat} {ls r : List AV} {μ : MM} {ν : ML}
theorem ss_iald (F : Fx κ cx p s m args meth c) (hd : decode cx.2.1 pc = .ok (.iaload, 1)) {x n : Nat} {i : Int} (hx : S[x]? = some (.inl (0, n))) (h0 : 0 ≤ i) (h1 : i < (n : Int)) (hn : n < 2147483648) (k : MW κ cx p l e R s m args below meth c cells slots Q S (pc + 1) ls (aI (μ x i) :: r) μ ν) : MW κ cx p l e R s m args below meth c cells slots Q S pc ls (aI i :: aR x :: r) μ ν := by
  intro H locs lsA hS hW hl
  obtain ⟨hx0, hb, -, -, hown, hts, -, -, hK, -⟩ := F
  obtain ⟨hin, he⟩ := ix_in h0 h1 hn
  refine va_iald hx0 hb hK hW.2 x 0 (n := n) (f := fun j => Int32.ofInt (μ x (j : Int))) (wsA_in hx) rfl hin hd ?_
  rw [he, Int.toNat_of_nonneg h0]
  exact k H locs lsA hS hW hl
theorem ss_zald (F : Fx κ cx p s m args meth c) (hd : decode cx.2.1 pc = .ok (.baload, 1)) {x n : Nat} {i : Int} (hx : S[x]? = some (.inl (1, n))) (h0 : 0 ≤ i) (h1 : i < (n : Int)) (hn : n < 2147483648) (k : MW κ cx p l e R s m args below meth c cells slots Q S (pc + 1) ls (aI (μ x i) :: r) μ ν) : MW κ cx p l e R s m args below meth c cells slots Q S pc ls (aI i :: aR x :: r) μ ν := by
  intro H locs lsA hS hW hl
  obtain ⟨hx0, hb, -, -, hown, hts, -, -, hK, -⟩ := F
  obtain ⟨hin, he⟩ := ix_in h0 h1 hn
  refine va_zald hx0 hb hK hW.2 x 1 (n := n) (f := fun j => Int32.ofInt (μ x (j : Int))) (wsA_in hx) rfl hin hd ?_
  rw [he, Int.toNat_of_nonneg h0]
  exact k H locs lsA hS hW hl
theorem ss_lald (F : Fx κ cx p s m args meth c) (hd : decode cx.2.1 pc = .ok (.laload, 1)) {x n : Nat} {i : Int} (hx : S[x]? = some (.inl (2, n))) (h0 : 0 ≤ i) (h1 : i < (n : Int)) (hn : n < 2147483648) (k : MW κ cx p l e R s m args below meth c cells slots Q S (pc + 1) ls (aL (ν x i) :: r) μ ν) : MW κ cx p l e R s m args below meth c cells slots Q S pc ls (aI i :: aR x :: r) μ ν := by
  intro H locs lsA hS hW hl
  obtain ⟨hx0, hb, -, -, hown, hts, -, -, hK, -⟩ := F
  obtain ⟨hin, he⟩ := ix_in h0 h1 hn
  refine va_lald hx0 hb hK hW.2 x 2 (n := n) (f := fun j => ν x (j : Int)) (wsA_in hx) rfl hin hd ?_
  rw [he, Int.toNat_of_nonneg h0]
  exact k H locs lsA hS hW hl
theorem ss_sald (F : Fx κ cx p s m args meth c) (hd : decode cx.2.1 pc = .ok (.iaload, 1)) {j : Nat} {i : Int} (hj : j < 5) (h0 : 0 ≤ i) (h1 : i < ((stA j).length : Int)) (k : MW κ cx p l e R s m args below meth c cells slots Q S (pc + 1) ls (aI (stv j i) :: r) μ ν) : MW κ cx p l e R s m args below meth c cells slots Q S pc ls (aI i :: aS j :: r) μ ν := by
  intro H locs lsA hS hW hl
  obtain ⟨hx0, hb, -, -, hown, hts, -, -, hK, hst⟩ := F
  obtain ⟨cell, t1, t2, t3, t4, t5, t6, t7⟩ := (hst.2.1 j hj).2
  have hlen : (stA j).length < 2147483648 := by
    rcases (show j = 0 ∨ j = 1 ∨ j = 2 ∨ j = 3 ∨ j = 4 by omega) with rfl | rfl | rfl | rfl | rfl <;> decide
  obtain ⟨hin, he⟩ := ix_in h0 h1 hlen
  have hlt : i.toNat < (stA j).length := by omega
  refine W.iald (v := .int (Int32.ofInt (stv j i))) hx0 hb (cell := cell) (by rw [hS.2.1 _ (Array.getElem?_eq_some_iff.mp t1).1 t7]; exact t1) t2 t3 (fun h => hin (h.imp id (fun q => Nat.le_trans t4 q))) ?_ rfl rfl hd (k H locs lsA hS hW hl)
  rw [he, t6 _ hlt]
  rfl
theorem ss_iast (F : Fx κ cx p s m args meth c) (hd : decode cx.2.1 pc = .ok (.iastore, 1)) {x n : Nat} {i v : Int} (hx : S[x]? = some (.inl (0, n))) (h0 : 0 ≤ i) (h1 : i < (n : Int)) (hn : n < 2147483648) (k : MW κ cx p l e R s m args below meth c cells slots Q S (pc + 1) ls r (up μ x i v) ν) : MW κ cx p l e R s m args below meth c cells slots Q S pc ls (aI v :: aI i :: aR x :: r) μ ν := by
  intro H locs lsA hS hW hl
  obtain ⟨hx0, hb, -, -, hown, hts, -, -, hK, -⟩ := F
  obtain ⟨hin, he⟩ := ix_in h0 h1 hn
  refine W.iast hx0 hb (hW.2 x _ (wsA_in hx)) ((hK.2 0 _ rfl).1 n (fun j => .int (Int32.ofInt (μ x (j : Int))))) (fun q => by cases q) (by show ¬ (_ ∨ (arrV _ _ _).slots.size ≤ _); rw [arrV_size]; exact hin) rfl rfl hd fun H1 e1 z oq => ?_
  refine k H1 _ lsA (hS.put z oq (Nat.le_add_right _ _)) (hW.put hx z oq ?_ (fun k' sh' h => rdC_up k' sh' h)) hl
  show H1[κ.1 + x]? = some (vp_cell _ (n, rdA ν (up μ x i v) x 0))
  rw [e1, he]
  show some ((vp_cell _ (n, Sum.inl _)).setSlot _ _) = some (vp_cell _ (n, Sum.inl _))
  rw [vp_cell_i, vp_cell_i, arrV_store]
  have hq := upd_up (μ := μ) (x := x) (v := v) h0
  congr 2
  funext q
  have hq1 := congrFun hq q
  rw [← hq1]
  by_cases hqq : q = i.toNat
  · subst hqq; simp [updV, upd]
  · simp [updV, upd, hqq]
theorem nar_z {v : Int} (h0 : 0 ≤ v) (h1 : v < 2) : narrow .boolean (.int (Int32.ofInt v)) = .int (Int32.ofInt v) ∧ vp_nar .boolean (Int32.ofInt v) = Int32.ofInt v := by
  rcases (show v = 0 ∨ v = 1 by omega) with rfl | rfl <;> exact ⟨by decide, by decide⟩
theorem ss_zast (F : Fx κ cx p s m args meth c) (hd : decode cx.2.1 pc = .ok (.bastore, 1)) {x n : Nat} {i v : Int} (hx : S[x]? = some (.inl (1, n))) (h0 : 0 ≤ i) (h1 : i < (n : Int)) (hn : n < 2147483648) (hv0 : 0 ≤ v) (hv1 : v < 2) (k : MW κ cx p l e R s m args below meth c cells slots Q S (pc + 1) ls r (up μ x i v) ν) : MW κ cx p l e R s m args below meth c cells slots Q S pc ls (aI v :: aI i :: aR x :: r) μ ν := by
  intro H locs lsA hS hW hl
  obtain ⟨hx0, hb, -, -, hown, hts, -, -, hK, -⟩ := F
  obtain ⟨hin, he⟩ := ix_in h0 h1 hn
  have hnz := (nar_z hv0 hv1).1
  refine W.zast hx0 hb (hW.2 x _ (wsA_in hx)) ((hK.2 1 _ rfl).1 n (fun j => .int (Int32.ofInt (μ x (j : Int))))) (fun q => by cases q) (by show ¬ (_ ∨ (arrV _ _ _).slots.size ≤ _); rw [arrV_size]; exact hin) rfl rfl hd fun H1 e1 z oq => ?_
  refine k H1 _ lsA (hS.put z oq (Nat.le_add_right _ _)) (hW.put hx z oq ?_ (fun k' sh' h => rdC_up k' sh' h)) hl
  show H1[κ.1 + x]? = some (vp_cell _ (n, rdA ν (up μ x i v) x 1))
  rw [e1, he]
  show some ((vp_cell _ (n, Sum.inl _)).setSlot _ _) = some (vp_cell _ (n, Sum.inl _))
  rw [vp_cell_i, vp_cell_i, arrV_store]
  have hq := upd_up (μ := μ) (x := x) (v := v) h0
  congr 2
  funext q
  have hq1 := congrFun hq q
  rw [← hq1]
  by_cases hqq : q = i.toNat
  · subst hqq; simp [updV, upd, hnz]
  · simp [updV, upd, hqq]
theorem ss_last (F : Fx κ cx p s m args meth c) (hd : decode cx.2.1 pc = .ok (.lastore, 1)) {x n : Nat} {i : Int} {v : Int64} (hx : S[x]? = some (.inl (2, n))) (h0 : 0 ≤ i) (h1 : i < (n : Int)) (hn : n < 2147483648) (k : MW κ cx p l e R s m args below meth c cells slots Q S (pc + 1) ls r μ (upL ν x i v)) : MW κ cx p l e R s m args below meth c cells slots Q S pc ls (aL v :: aI i :: aR x :: r) μ ν := by
  intro H locs lsA hS hW hl
  obtain ⟨hx0, hb, -, -, hown, hts, -, -, hK, -⟩ := F
  obtain ⟨hin, he⟩ := ix_in h0 h1 hn
  refine W.last hx0 hb (hW.2 x _ (wsA_in hx)) ((hK.2 2 _ rfl).1 n (fun j => .long (ν x (j : Int)))) (fun q => by cases q) (by show ¬ (_ ∨ (arrV _ _ _).slots.size ≤ _); rw [arrV_size]; exact hin) rfl rfl hd fun H1 e1 z oq => ?_
  refine k H1 _ lsA (hS.put z oq (Nat.le_add_right _ _)) (hW.put hx z oq ?_ (fun k' sh' h => rdC_upL k' sh' h)) hl
  show H1[κ.1 + x]? = some (vp_cell _ (n, rdA (upL ν x i v) μ x 2))
  rw [e1, he]
  show some ((vp_cell _ (n, Sum.inr (Sum.inl _))).setSlot _ _) = some (vp_cell _ (n, Sum.inr (Sum.inl _)))
  rw [vp_cell_l, vp_cell_l, arrV_store]
  have hq := updL_up (ν := ν) (x := x) (v := v) h0
  congr 2
  funext q
  have hq1 := congrFun hq q
  rw [← hq1]
  by_cases hqq : q = i.toNat
  · subst hqq; simp [updV, vp_updL]
  · simp [updV, vp_updL, hqq]
theorem ss_putI (F : Fx κ cx p s m args meth c) {i a b x : Nat} {C : String} {T : u_T} {N : Nat} {fs : List (Option AV)} {v : Int} {ty : FieldType} (hd : decode cx.2.1 pc = .ok (.putfield i, 3)) (hc : classes[a]? = some (C, T, N)) (hbN : b < N) (hn : Cond.fieldLink cx.1.cls i (T b).1 (T b).2.1 (T b).2.2.1 ∈ lwg) (hfin : (T b).2.2.2 = false) (hty : parseFieldDescriptor (T b).2.2.1 = some ty)
    (hnar : narrow ty (.int (Int32.ofInt v)) = .int (Int32.ofInt v)) (hfit : fits ty (.int (Int32.ofInt v)) = true) (hx : S[x]? = some (.inr (a, fs))) (hf : fs[b]? = some none) (k : MW κ cx p l e R s m args below meth c cells slots Q S (pc + 3) ls r (up μ x (b : Int) v) ν) : MW κ cx p l e R s m args below meth c cells slots Q S pc ls (aI v :: aR x :: r) μ ν := by
  intro H locs lsA hS hW hl
  obtain ⟨hx0, hb, -, -, hown, hts, -, -, hK, -⟩ := F
  obtain ⟨hin, ⟨ty0, hty0⟩, hnm⟩ := ty_all a C T N hc
  have hap := va_apart (own := cx.1.cls) hts hin ty0 hty0 hnm hK hc
  obtain ⟨r1, h1, cell, q1, q2, q3, q4⟩ := hW.2 x _ (wsA_in hx)
  have hr : r1 = (C, T, N) := Option.some.inj (h1.symm.trans hc)
  subst hr
  obtain ⟨hSl, hfc, kC, hkC, hkind⟩ := hK.1 a _ hc
  obtain ⟨cf, kf, fi, f, hi, hsl⟩ := hSl b hbN
  have hlay := hts _ (hin _ (u_in_lay hbN))
  unfold u_lay at hlay
  rw [if_neg (by rw [hfin]; decide)] at hlay
  have hst := (u_facts hfc hkC (u_lays hts hin hbN) hi).1
  have h6 := u_store hfc hkC hkind hlay hi hty hnar hfit
  refine W.putK hx0 hb (f := f) ⟨hown, hts _ hn, ⟨_, _, _, hi⟩, hst⟩ (by rw [q2]; exact h6) q1 q3 (by rw [hsl]; exact k2_hasslot (q4 b hbN)) rfl rfl hd fun H' e1 e2 e3 => ?_
  rw [hsl] at e1 ⊢
  have hlen : b < (fs.mapIdx (rdF κ μ x)).length := by rw [List.length_mapIdx]; exact (List.getElem?_eq_some_iff.mp hf).1
  refine k H' _ lsA (hS.put e2 e3 (Nat.le_add_right _ _)) (hW.put hx e2 e3 ?_ (fun k' sh' h => rdC_up k' sh' h)) hl
  refine ⟨_, hc, t_OB.to (V := updV (vp_V (fs.mapIdx (rdF κ μ x))) b (.int (Int32.ofInt v))) ⟨_, e1, q2, q3, t_set q4 hap hbN (.int (Int32.ofInt v))⟩ (fun j _ => ?_)⟩
  rw [vp_updV_set hlen, upF_set hf]
end MEM

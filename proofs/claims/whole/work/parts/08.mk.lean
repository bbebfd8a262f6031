/-! ===== making: new objects and arrays, references put into final fields, constructors called ===== -/
def clr (μ : MM) (n : Nat) : MM := fun c i => if c = n then 0 else μ c i
def clrL (ν : ML) (n : Nat) : ML := fun c i => if c = n then 0 else ν c i
def dflT (T : u_T) (N : Nat) : List (Option AV) := (List.range N).map (fun j => if (T j).2.2.1 = "I" ∨ (T j).2.2.1 = "Z" then none else some aN)
def dfl (ci : Nat) : List (Option AV) := match gt classes ci with
  | some (_, T, N) => dflT T N
  | none => []
def shSz (sh : SH) : Nat := match sh with
  | .inl (_, n) => n
  | .inr (_, fs) => fs.length
def szS : List SH → Nat
  | [] => 0
  | sh :: r => shSz sh + szS r
theorem szS_app (S : List SH) (sh : SH) : szS (S ++ [sh]) = szS S + shSz sh := by
  induction S with
  | nil => simp [szS]
  | cons a t ih => simp [szS, ih]; omega
theorem szS_set : ∀ (S : List SH) (x : Nat) (sh sh' : SH), S[x]? = some sh → shSz sh' = shSz sh → szS (S.set x sh') = szS S
  | [], _, _, _, h, _ => by simp at h
  | a :: t, 0, sh, sh', h, he => by simp at h; subst h; simp [szS, he]
  | a :: t, x + 1, sh, sh', h, he => by simp at h; simp [szS, szS_set t x sh sh' h he]
theorem rdC_clr {κ : KX} {μ : MM} {ν : ML} {n : Nat} (k' : Nat) (sh : SH) (h : k' ≠ n) : rdC κ (clr μ n) (clrL ν n) k' sh = rdC κ μ ν k' sh := by
  have e1 : clr μ n k' = μ k' := by funext i; simp [clr, h]
  have e2 : clrL ν n k' = ν k' := by funext i; simp [clrL, h]
  rcases sh with ⟨t, m⟩ | ⟨ci, fs⟩
  · simp only [rdC, rdA, e1, e2]
  · have e : rdF κ (clr μ n) k' = rdF κ μ k' := by
      funext j f
      cases f <;> simp only [rdF, e1]
    simp only [rdC, e]
theorem Wl.push {κ : KX} {S : List SH} {μ : MM} {ν : ML} {H H1 : Heap} {sh : SH} (hW : Wl κ S μ ν H) (z : H1.size = H.size + 1) (oq : ∀ q : Nat, q < H.size → H1[q]? = H[q]?) (he : va_at κ.2.2.1 classes (κ.1 + S.length, rdC κ (clr μ S.length) (clrL ν S.length) S.length sh) H1) : Wl κ (S ++ [sh]) (clr μ S.length) (clrL ν S.length) H1 := by
  refine ⟨by rw [z, hW.1]; simp; omega, fun k' q hq => ?_⟩
  rw [wsA_at] at hq
  by_cases hk : k' < S.length
  · rw [List.getElem?_append_left hk] at hq
    cases h1 : S[k']? with
    | none => rw [h1] at hq; cases hq
    | some x =>
      rw [h1] at hq
      cases hq
      dsimp only
      rw [rdC_clr k' x (by omega)]
      exact (hW.2 k' _ (wsA_in h1)).kept (oq _ (by rw [hW.1]; omega))
  · rw [List.getElem?_append_right (by omega)] at hq
    have hz : k' - S.length < 1 := by
      cases h1 : [sh][k' - S.length]? with
      | none => rw [h1] at hq; cases hq
      | some x => exact (List.getElem?_eq_some_iff.mp h1).1
    have hk2 : k' = S.length := by omega
    subst hk2
    rw [Nat.sub_self] at hq
    cases hq
    exact he
theorem dfl_ok : ∀ (ci : Nat) (C : String) (T : u_T) (N : Nat), classes[ci]? = some (C, T, N) → ∀ j, j < N → (parseFieldDescriptor (T j).2.2.1).map defaultValue = some (if (T j).2.2.1 = "I" ∨ (T j).2.2.1 = "Z" then Value.int 0 else Value.null) := by
  intro ci C T N h
  match ci, h with
  | 0, h => cases h; decide +kernel
  | 1, h => cases h; decide +kernel
  | 2, h => cases h; decide +kernel
  | 3, h => cases h; decide +kernel
  | 4, h => cases h; decide +kernel
  | 5, h => cases h; decide +kernel
  | 6, h => cases h; decide +kernel
  | 7, h => cases h; decide +kernel
  | 8, h => cases h; decide +kernel
  | 9, h => cases h; decide +kernel
  | 10, h => cases h; decide +kernel
  | 11, h => cases h; decide +kernel
  | 12, h => cases h; decide +kernel
  | n + 13, h => simp [classes] at h
section MK
variable {κ : KX} {cx : MX} {p : Program} {l : Launch} {e : Env} {R : Room} {s : State} {m : MethodId} {args : Array Value} {below : List Frame} {meth : Method} {c : Code} {cells slots : Nat} {Q : State → Prop} {S : List SH} {pc : Nat} {ls r : List AV} {μ : MM} {ν : ML}
theorem ss_new (F : Fx κ cx p s m args meth c) {i ci N : Nat} {C : String} {T : u_T} (hd : decode cx.2.1 pc = .ok (.new i, 3)) (hc : classes[ci]? = some (C, T, N)) (h1 : Cond.classLink cx.1.cls i C ∈ lwg) (h2 : Cond.instantiable C N ∈ lwg) (h3 : Cond.initialized C ∈ lwg) (hcells : cells + 1 ≤ R.cells) (hslots : slots + N ≤ R.slots)
    (k : MW κ cx p l e R s m args below meth c (cells + 1) (slots + N) Q (S ++ [.inr (ci, dflT T N)]) (pc + 3) ls (aR S.length :: r) (clr μ S.length) (clrL ν S.length)) : MW κ cx p l e R s m args below meth c cells slots Q S pc ls r μ ν := by
  intro H locs lsA hS hW hl
  obtain ⟨hx0, hb, -, -, hown, hts, -, -, hK, -⟩ := F
  obtain ⟨hin, ⟨ty0, hty0⟩, hnm⟩ := ty_all ci C T N hc
  have hKn := hK.1 ci _ hc
  refine W.newcK hx0 hb hown (hts _ h1) (hts _ h2) (hts _ h3) rfl hd hcells hslots hKn.2.1 hW.1 fun H1 kC hkC e1 z1 o1 => ?_
  refine k H1 locs lsA ⟨Nat.le_trans hS.1 (by rw [z1, ← hW.1]; exact Nat.le_succ _), fun x g1 g2 => (o1 x (by rw [← hW.1]; exact Nat.lt_of_lt_of_le g1 hS.1)).trans (hS.2.1 x g1 g2), hS.2.2⟩ (hW.push (by rw [z1, hW.1]) (fun q hq => o1 q (by rw [← hW.1]; exact hq)) ?_) hl
  refine ⟨_, hc, (u_born ty0 hts hin hKn hkC e1 hty0).to (fun j hj => ?_)⟩
  have hd1 := dfl_ok ci C T N hc j hj
  rw [hty0 j hj] at hd1
  have hd2 := Option.some.inj hd1
  rw [hd2]
  have hlen : j < (dflT T N).length := by simp [dflT, hj]
  simp only [vp_V, List.getD_eq_getElem?_getD, List.getElem?_mapIdx]
  have he : (dflT T N)[j]? = some (if (T j).2.2.1 = "I" ∨ (T j).2.2.1 = "Z" then none else some aN) := by simp [dflT, hj]
  rw [he]
  by_cases hI : (T j).2.2.1 = "I" ∨ (T j).2.2.1 = "Z"
  · simp only [if_pos hI]
    simp [rdF, clr]
  · simp only [if_neg hI]
    simp [rdF, cvA]
def atyp : Nat → ArrayType
  | 0 => .int
  | 1 => .boolean
  | _ => .long
theorem ss_newa (F : Fx κ cx p s m args meth c) {t : Nat} {n : Int} (ht : t < 3) (hd : decode cx.2.1 pc = .ok (.newarray (atyp t), 2)) (h1 : Cond.arrayClass (newarray.typeOf (atyp t)) ∈ lwg) (hn0 : 0 ≤ n) (hn1 : n < 10000) (hcells : cells + 1 ≤ R.cells) (hslots : slots + n.toNat ≤ R.slots)
    (k : MW κ cx p l e R s m args below meth c (cells + 1) (slots + n.toNat) Q (S ++ [.inl (t, n.toNat)]) (pc + 2) ls (aR S.length :: r) (clr μ S.length) (clrL ν S.length)) : MW κ cx p l e R s m args below meth c cells slots Q S pc ls (aI n :: r) μ ν := by
  intro H locs lsA hS hW hl
  obtain ⟨hx0, hb, -, -, hown, hts, -, -, hK, -⟩ := F
  have e32 : (Int32.ofInt n).toInt = n := Int32.toInt_ofInt_of_le (by omega) (by omega)
  have hneg : ¬ Int32.ofInt n < 0 := by rw [Int32.lt_iff_toInt_lt, e32]; simp; omega
  have hcl : (Int32.ofInt n).toNatClampNeg = n.toNat := Int32.toNatClampNeg_ofInt_of_le (by omega) (by omega)
  refine va_newaK hx0 hb (hts _ h1) rfl hd rfl hneg hcl ?_ hcells hslots hW.1 fun H1 cA e1 z1 o1 hAr hNm => ?_
  · have : componentBytes (newarray.typeOf (atyp t)) ≤ 8 := by
      rcases (show t = 0 ∨ t = 1 ∨ t = 2 by omega) with rfl | rfl | rfl <;> decide
    have h2 : n.toNat ≤ 10000 := by omega
    calc n.toNat * componentBytes (newarray.typeOf (atyp t)) ≤ 10000 * 8 := Nat.mul_le_mul h2 this
      _ ≤ 536870912 := by decide
  · refine k H1 locs lsA ⟨Nat.le_trans hS.1 (by rw [z1, ← hW.1]; exact Nat.le_succ _), fun x g1 g2 => (o1 x (by rw [← hW.1]; exact Nat.lt_of_lt_of_le g1 hS.1)).trans (hS.2.1 x g1 g2), hS.2.2⟩ (hW.push (by rw [z1, hW.1]) (fun q hq => o1 q (by rw [← hW.1]; exact hq)) ?_) hl
    have hcA : cA = κ.2.2.2.1 t := by
      rcases (show t = 0 ∨ t = 1 ∨ t = 2 by omega) with rfl | rfl | rfl
      · exact Option.some.inj (hNm.symm.trans (hK.2 0 _ rfl).2)
      · exact Option.some.inj (hNm.symm.trans (hK.2 1 _ rfl).2)
      · exact Option.some.inj (hNm.symm.trans (hK.2 2 _ rfl).2)
    subst hcA
    show H1[κ.1 + S.length]? = some (vp_cell (κ.2.2.2.1 t) (n.toNat, rdA (clrL ν S.length) (clr μ S.length) S.length t))
    rw [e1]
    congr 1
    rcases (show t = 0 ∨ t = 1 ∨ t = 2 by omega) with rfl | rfl | rfl
    · simp [rdA, vp_cell, clr]; rfl
    · simp [rdA, vp_cell, clr]; rfl
    · simp [rdA, vp_cell, clrL]; rfl
theorem rdC_set {κ : KX} {μ : MM} {x b : Nat} {v : AV} {fs : List (Option AV)} : (fs.mapIdx (rdF κ μ x)).set b (cvA κ v) = (fs.set b (some v)).mapIdx (rdF κ μ x) := by
  apply List.ext_getElem?
  intro j
  by_cases hj : j = b
  · subst hj
    by_cases hlt : j < fs.length
    · rw [List.getElem?_set_self (by rw [List.length_mapIdx]; exact hlt), List.getElem?_mapIdx, List.getElem?_set_self hlt]
      rfl
    · rw [List.getElem?_eq_none (by simp; omega), List.getElem?_eq_none (by simp; omega)]
  · rw [List.getElem?_set_ne (Ne.symm hj), List.getElem?_mapIdx, List.getElem?_mapIdx, List.getElem?_set_ne (Ne.symm hj)]
theorem Wl.setR {κ : KX} {S : List SH} {μ : MM} {ν : ML} {H H1 : Heap} {x : Nat} {sh sh' : SH} (hW : Wl κ S μ ν H) (hx : S[x]? = some sh) (z : H1.size = H.size) (oq : ∀ q : Nat, q ≠ κ.1 + x → H1[q]? = H[q]?) (he : va_at κ.2.2.1 classes (κ.1 + x, rdC κ μ ν x sh') H1) : Wl κ (S.set x sh') μ ν H1 := by
  refine ⟨by rw [z, hW.1, List.length_set], fun k' q hq => ?_⟩
  rw [wsA_at] at hq
  by_cases hkk : k' = x
  · subst hkk
    rw [List.getElem?_set_self (List.getElem?_eq_some_iff.mp hx).1] at hq
    cases hq
    exact he
  · rw [List.getElem?_set_ne (Ne.symm hkk)] at hq
    cases h1 : S[k']? with
    | none => rw [h1] at hq; cases hq
    | some y =>
      rw [h1] at hq
      cases hq
      exact (hW.2 k' _ (wsA_in h1)).kept (oq _ (fun h => hkk (by omega)))
theorem ss_putR (F : Fx κ cx p s m args meth c) {i a b x : Nat} {C : String} {T : u_T} {N : Nat} {fs : List (Option AV)} {v : AV} {ty : FieldType} (hd : decode cx.2.1 pc = .ok (.putfield i, 3)) (hc : classes[a]? = some (C, T, N)) (hbN : b < N) (hn : Cond.fieldLink cx.1.cls i (T b).1 (T b).2.1 (T b).2.2.1 ∈ lwg) (hfin : (T b).2.2.2 = true) (hinit : cx.1.name = "<init>") (hdecl : (T b).1 = cx.1.cls) (hty : parseFieldDescriptor (T b).2.2.1 = some ty)
    (hnar : narrow ty (cvA κ v) = cvA κ v) (hfit : fits ty (cvA κ v) = true) (hx : S[x]? = some (.inr (a, fs))) (hbl : b < fs.length) (k : MW κ cx p l e R s m args below meth c cells slots Q (S.set x (.inr (a, fs.set b (some v)))) (pc + 3) ls r μ ν) : MW κ cx p l e R s m args below meth c cells slots Q S pc ls (v :: aR x :: r) μ ν := by
  intro H locs lsA hS hW hl
  obtain ⟨hx0, hb, -, -, hown, hts, -, hmn, hK, -⟩ := F
  obtain ⟨hin, ⟨ty0, hty0⟩, hnm⟩ := ty_all a C T N hc
  have hap := va_apart (own := cx.1.cls) hts hin ty0 hty0 hnm hK hc
  obtain ⟨r1, h1, cell, q1, q2, q3, q4⟩ := hW.2 x _ (wsA_in hx)
  have hr : r1 = (C, T, N) := Option.some.inj (h1.symm.trans hc)
  subst hr
  obtain ⟨hSl, hfc, kC, hkC, hkind⟩ := hK.1 a _ hc
  obtain ⟨cf, kf, fi, f, hi, hsl⟩ := hSl b hbN
  have hlay := hts _ (hin _ (u_in_lay hbN))
  unfold u_lay at hlay
  rw [if_pos hfin] at hlay
  have hst := (u_facts hfc hkC (u_lays hts hin hbN) hi).1
  have hcf : m.cls = cf := by
    obtain ⟨_, _, c', _, _, _, -, -, hf', -, -, -, hown2, -⟩ := Cond.laysFinal_spec hlay
    have e1 : c' = cf := by have := hi.symm.trans hf'; simp at this; exact this.1.symm
    rw [hdecl] at hown2
    rw [← e1]; exact Option.some.inj (hown.symm.trans hown2)
  have h6 := u_fits hfc hkC hkind (Or.inr hlay) hi hty hnar hfit
  have hlen : b < (fs.mapIdx (rdF κ μ x)).length := by rw [List.length_mapIdx]; exact hbl
  refine W.putFinK hx0 hb hown (hts _ hn) hi hst hcf (hmn.trans hinit) (by rw [q2]; exact h6) q1 q3 (by rw [hsl]; exact k2_hasslot (q4 b hbN)) rfl rfl hd fun H' e1 e2 e3 => ?_
  rw [hsl] at e1 ⊢
  refine k H' _ lsA (hS.put e2 e3 (Nat.le_add_right _ _)) (hW.setR hx e2 e3 ?_) hl
  refine ⟨_, hc, t_OB.to (V := updV (vp_V (fs.mapIdx (rdF κ μ x))) b (cvA κ v)) ⟨_, e1, q2, q3, t_set q4 hap hbN (cvA κ v)⟩ (fun j _ => ?_)⟩
  rw [vp_updV_set hlen, rdC_set]
theorem ss_objInit (F : Fx κ cx p s m args meth c) {i x : Nat} (hd : decode cx.2.1 pc = .ok (.invokespecial i, 3)) (h1 : Cond.methodLink cx.1.cls i objectInit ∈ lwg) (h2 : Cond.instanceMethod objectInit ∈ lwg) (h3 : Cond.code objectInit ⟨#[0xb1]⟩ 1 none ∈ lwg) (hrest : 2 * r.length ≤ 8) (hfr : 1 ≤ R.frames) (hlo : 20 ≤ R.locals) (k : MW κ cx p l e R s m args below meth c cells slots Q S (pc + 3) ls r μ ν) : MW κ cx p l e R s m args below meth c cells slots Q S pc ls (aR x :: r) μ ν := by
  intro H locs lsA hS hW hl
  obtain ⟨hx0, hb, -, hml, hown, hts, -, -, hK, -⟩ := F
  refine W.objInit hx0 hb hown (hts _ h1) (hts _ h2) (hts _ h3) rfl (by rw [hml]; exact hl.1) rfl hd hfr ?_ (k H locs lsA hS hW hl)
  have := rest_ok (κ := κ) (m := m) (pc := pc) (lsA := lsA) (st := []) hrest
  exact Nat.le_trans (Nat.add_le_add_right this 12) hlo
theorem ss_callI (F : Fx κ cx p s m args meth c) (hSm : SmallS S) {cy : MX} {d mc ms i b : Nat} {rest : List AV} {Post : Option AV → List SH → MM → ML → Prop} (hM : AMet κ d cy [aR b] S μ ν Post mc ms) (hm : MokB cy 0) (hin : Cond.instanceMethod cy.1 ∈ lwg) (hnm : cy.1.name = "<init>") (hret : cy.2.2.2 = none) (hd : decode cx.2.1 pc = .ok (.invokespecial i, 3)) (hl : Cond.methodLink cx.1.cls i cy.1 ∈ lwg) (hrest : 2 * rest.length ≤ 8) (hR : d + 1 ≤ R.frames ∧ 8 + (cy.2.2.1 + 11) + 64 * d ≤ R.locals) (hf : cells + mc ≤ R.cells ∧ slots + ms ≤ R.slots)
    (k : ∀ (r : Option AV) (S' : List SH) (μ' : MM) (ν' : ML), Post r S' μ' ν' → SmallS S' → MW κ cx p l e R s m args below meth c (cells + mc) (slots + ms) Q S' (pc + 3) ls (r.toList ++ rest) μ' ν') : MW κ cx p l e R s m args below meth c cells slots Q S pc ls (aR b :: rest) μ ν := by
  intro H locs lsA hs hW hl0
  obtain ⟨hx, hb, -, hml, hown, hts, -, -, hK, hst⟩ := id F
  have hG : GoodIn lwg (wsM cy) := by
    intro w hw
    rcases List.mem_cons.mp hw with rfl | hw
    · exact gAll _ hm.2.1
    · exact gAll _ hw
  refine aw_run (va_runI (As := []) (rest := rest.map (cvA κ)) (bytes := cy.2.1) (maxL := cy.2.2.1) ⟨hx, hb, hml, hown, hts⟩ (hM hSm l) (cwI 0 hts hG (by unfold wsM; rw [hret]) rfl rfl (hts _ hm.1) (hts _ hl) (hts _ hin) hnm hm.2.2.1 hR) ⟨Pc_blind, fun U hU hWm => ⟨rfl, va_K.moved hWm.alike hK, hst.moved hWm.alike hs hU, by rw [hU]; exact hW⟩⟩ rfl rfl hl0.1 rfl (rest_ok hrest) hd hf) hs (fun r S' μ' ν' H1 locs1 hp hsm hw1 hs1 => ?_)
  have := k r S' μ' ν' hp hsm H1 locs1 lsA hs1 hw1 hl0
  rw [List.map_append] at this
  cases r <;> exact this
end MK

/-! ===== the abstract goal AW, branches, returns, calls, contracts ===== -/
abbrev R32 (x : Int) : Prop := -2147483648 ≤ x ∧ x < 2147483648
theorem ti32 {x : Int} (h : R32 x) : (Int32.ofInt x).toInt = x := Int32.toInt_ofInt_of_le (by omega) (by omega)
theorem lt32 {x y : Int} (hx : R32 x) (hy : R32 y) : Int32.ofInt x < Int32.ofInt y ↔ x < y := by rw [Int32.lt_iff_toInt_lt, ti32 hx, ti32 hy]
theorem le32 {x y : Int} (hx : R32 x) (hy : R32 y) : Int32.ofInt x ≤ Int32.ofInt y ↔ x ≤ y := by rw [Int32.le_iff_toInt_le, ti32 hx, ti32 hy]
theorem eq32 {x y : Int} (hx : R32 x) (hy : R32 y) : Int32.ofInt x = Int32.ofInt y ↔ x = y := by rw [← Int32.toInt_inj, ti32 hx, ti32 hy]
theorem z32 : (0 : Int32) = Int32.ofInt 0 := rfl
theorem r0 : R32 0 := by decide
def AW (κ : KX) (cx : MX) (R : Room) (Qf : List Frame → Array Value → State → State → Prop) (cells slots : Nat) (S : List SH) (pc : Nat) (ls st : List AV) (μ : MM) (ν : ML) : Prop :=
  SmallS S → ∀ (p : Program) (l : Launch) (e : Env) (s : State) (m : MethodId) (args : Array Value) (below : List Frame) (meth : Method) (c : Code), Fx κ cx p s m args meth c → MW κ cx p l e R s m args below meth c cells slots (Qf below args s) S pc ls st μ ν
def QQ (κ : KX) (Post : Option AV → List SH → MM → ML → Prop) : Array Value → State → Outcome → State → Prop := fun _ st oc t => (∃ (r : Option AV) (S : List SH) (μ : MM) (ν : ML), oc = .returned (r.map (cvA κ)) ∧ Post r S μ ν ∧ Wl κ S μ ν t.heap ∧ SmallS S) ∧ va_F (lwA κ) st t
def mq (κ : KX) (Post : Option AV → List SH → MM → ML → Prop) (mc ms : Nat) : List Frame → Array Value → State → State → Prop := fun below args s => MQ below (QQ κ Post) args s mc ms (lwA κ)
def wsM (cy : MX) : List Cond := Cond.code cy.1 cy.2.1 cy.2.2.1 cy.2.2.2 :: lwg
def rmv (d mc ms : Nat) : Room := { frames := d, cells := mc, slots := ms, locals := 64 * d }
def AMet (κ : KX) (d : Nat) (cy : MX) (As : List AV) (S : List SH) (μ : MM) (ν : ML) (Post : Option AV → List SH → MM → ML → Prop) (mc ms : Nat) : Prop :=
  SmallS S → ∀ l : Launch, Met l cy.1 (wsM cy) (rmv d mc ms) (va_Pc (As.map (cvA κ)) (fun U => KK κ U ∧ Stt κ U ∧ Wl κ S μ ν U.heap)) (QQ κ Post) mc ms (lwA κ)
section AWS
variable {κ : KX} {cx : MX} {R : Room} {Qf : List Frame → Array Value → State → State → Prop} {cells slots : Nat} {S : List SH} {pc : Nat} {ls r : List AV} {μ : MM} {ν : ML}
theorem aw_blk {ops : List OP} {pc' : Nat} {st ls' st' : List AV} {μ' : MM} {ν' : ML} {cs : List (Int × Int)} (ho : okB cx pc ops = true) (hr : brun ops pc ls st S μ ν [] = some (pc', ls', st', μ', ν', cs)) (hc : CS cs) (k : AW κ cx R Qf cells slots S pc' ls' st' μ' ν') : AW κ cx R Qf cells slots S pc ls st μ ν :=
  fun hS p l e s m args below meth c F => (brun_ok F hS ops ho hr hc (k hS p l e s m args below meth c F)).2
theorem aw_icmp_eq {x y off : Int} {tgt : Nat} (hd : decode cx.2.1 pc = .ok (.if_icmp .eq off, 3)) (ht : (pc : Int) + off = (tgt : Int)) (hx : R32 x) (hy : R32 y) (kt : x = y → AW κ cx R Qf cells slots S tgt ls r μ ν) (kf : ¬ x = y → AW κ cx R Qf cells slots S (pc + 3) ls r μ ν) : AW κ cx R Qf cells slots S pc ls (aI y :: aI x :: r) μ ν := by
  intro hS p l e s m args below meth c F H locs lsA hs hW hl
  exact lv_icmp_eq F.1 F.2.1 hd ht (fun h => kt ((eq32 hx hy).mp h) hS p l e s m args below meth c F H locs lsA hs hW hl) (fun h => kf (fun q => h ((eq32 hx hy).mpr q)) hS p l e s m args below meth c F H locs lsA hs hW hl)
theorem aw_if_eq {x off : Int} {tgt : Nat} (hd : decode cx.2.1 pc = .ok (.ifCond .eq off, 3)) (ht : (pc : Int) + off = (tgt : Int)) (hx : R32 x) (kt : x = 0 → AW κ cx R Qf cells slots S tgt ls r μ ν) (kf : ¬ x = 0 → AW κ cx R Qf cells slots S (pc + 3) ls r μ ν) : AW κ cx R Qf cells slots S pc ls (aI x :: r) μ ν := by
  intro hS p l e s m args below meth c F H locs lsA hs hW hl
  exact lv_if_eq F.1 F.2.1 hd ht (fun h => kt ((eq32 hx r0).mp h) hS p l e s m args below meth c F H locs lsA hs hW hl) (fun h => kf (fun q => h ((eq32 hx r0).mpr q)) hS p l e s m args below meth c F H locs lsA hs hW hl)
theorem aw_icmp_ne {x y off : Int} {tgt : Nat} (hd : decode cx.2.1 pc = .ok (.if_icmp .ne off, 3)) (ht : (pc : Int) + off = (tgt : Int)) (hx : R32 x) (hy : R32 y) (kt : ¬ x = y → AW κ cx R Qf cells slots S tgt ls r μ ν) (kf : x = y → AW κ cx R Qf cells slots S (pc + 3) ls r μ ν) : AW κ cx R Qf cells slots S pc ls (aI y :: aI x :: r) μ ν := by
  intro hS p l e s m args below meth c F H locs lsA hs hW hl
  exact lv_icmp_ne F.1 F.2.1 hd ht (fun h => kt (fun q => h ((eq32 hx hy).mpr q)) hS p l e s m args below meth c F H locs lsA hs hW hl) (fun h => kf ((eq32 hx hy).mp h) hS p l e s m args below meth c F H locs lsA hs hW hl)
theorem aw_if_ne {x off : Int} {tgt : Nat} (hd : decode cx.2.1 pc = .ok (.ifCond .ne off, 3)) (ht : (pc : Int) + off = (tgt : Int)) (hx : R32 x) (kt : ¬ x = 0 → AW κ cx R Qf cells slots S tgt ls r μ ν) (kf : x = 0 → AW κ cx R Qf cells slots S (pc + 3) ls r μ ν) : AW κ cx R Qf cells slots S pc ls (aI x :: r) μ ν := by
  intro hS p l e s m args below meth c F H locs lsA hs hW hl
  exact lv_if_ne F.1 F.2.1 hd ht (fun h => kt (fun q => h ((eq32 hx r0).mpr q)) hS p l e s m args below meth c F H locs lsA hs hW hl) (fun h => kf ((eq32 hx r0).mp h) hS p l e s m args below meth c F H locs lsA hs hW hl)
theorem aw_icmp_lt {x y off : Int} {tgt : Nat} (hd : decode cx.2.1 pc = .ok (.if_icmp .lt off, 3)) (ht : (pc : Int) + off = (tgt : Int)) (hx : R32 x) (hy : R32 y) (kt : x < y → AW κ cx R Qf cells slots S tgt ls r μ ν) (kf : ¬ x < y → AW κ cx R Qf cells slots S (pc + 3) ls r μ ν) : AW κ cx R Qf cells slots S pc ls (aI y :: aI x :: r) μ ν := by
  intro hS p l e s m args below meth c F H locs lsA hs hW hl
  exact lv_icmp_lt F.1 F.2.1 hd ht (fun h => kt ((lt32 hx hy).mp h) hS p l e s m args below meth c F H locs lsA hs hW hl) (fun h => kf (fun q => h ((lt32 hx hy).mpr q)) hS p l e s m args below meth c F H locs lsA hs hW hl)
theorem aw_if_lt {x off : Int} {tgt : Nat} (hd : decode cx.2.1 pc = .ok (.ifCond .lt off, 3)) (ht : (pc : Int) + off = (tgt : Int)) (hx : R32 x) (kt : x < 0 → AW κ cx R Qf cells slots S tgt ls r μ ν) (kf : ¬ x < 0 → AW κ cx R Qf cells slots S (pc + 3) ls r μ ν) : AW κ cx R Qf cells slots S pc ls (aI x :: r) μ ν := by
  intro hS p l e s m args below meth c F H locs lsA hs hW hl
  exact lv_if_lt F.1 F.2.1 hd ht (fun h => kt ((lt32 hx r0).mp h) hS p l e s m args below meth c F H locs lsA hs hW hl) (fun h => kf (fun q => h ((lt32 hx r0).mpr q)) hS p l e s m args below meth c F H locs lsA hs hW hl)
theorem aw_icmp_ge {x y off : Int} {tgt : Nat} (hd : decode cx.2.1 pc = .ok (.if_icmp .ge off, 3)) (ht : (pc : Int) + off = (tgt : Int)) (hx : R32 x) (hy : R32 y) (kt : y ≤ x → AW κ cx R Qf cells slots S tgt ls r μ ν) (kf : ¬ y ≤ x → AW κ cx R Qf cells slots S (pc + 3) ls r μ ν) : AW κ cx R Qf cells slots S pc ls (aI y :: aI x :: r) μ ν := by
  intro hS p l e s m args below meth c F H locs lsA hs hW hl
  exact lv_icmp_ge F.1 F.2.1 hd ht (fun h => kt ((le32 hy hx).mp h) hS p l e s m args below meth c F H locs lsA hs hW hl) (fun h => kf (fun q => h ((le32 hy hx).mpr q)) hS p l e s m args below meth c F H locs lsA hs hW hl)
theorem aw_if_ge {x off : Int} {tgt : Nat} (hd : decode cx.2.1 pc = .ok (.ifCond .ge off, 3)) (ht : (pc : Int) + off = (tgt : Int)) (hx : R32 x) (kt : 0 ≤ x → AW κ cx R Qf cells slots S tgt ls r μ ν) (kf : ¬ 0 ≤ x → AW κ cx R Qf cells slots S (pc + 3) ls r μ ν) : AW κ cx R Qf cells slots S pc ls (aI x :: r) μ ν := by
  intro hS p l e s m args below meth c F H locs lsA hs hW hl
  exact lv_if_ge F.1 F.2.1 hd ht (fun h => kt ((le32 r0 hx).mp h) hS p l e s m args below meth c F H locs lsA hs hW hl) (fun h => kf (fun q => h ((le32 r0 hx).mpr q)) hS p l e s m args below meth c F H locs lsA hs hW hl)
theorem aw_icmp_gt {x y off : Int} {tgt : Nat} (hd : decode cx.2.1 pc = .ok (.if_icmp .gt off, 3)) (ht : (pc : Int) + off = (tgt : Int)) (hx : R32 x) (hy : R32 y) (kt : y < x → AW κ cx R Qf cells slots S tgt ls r μ ν) (kf : ¬ y < x → AW κ cx R Qf cells slots S (pc + 3) ls r μ ν) : AW κ cx R Qf cells slots S pc ls (aI y :: aI x :: r) μ ν := by
  intro hS p l e s m args below meth c F H locs lsA hs hW hl
  exact lv_icmp_gt F.1 F.2.1 hd ht (fun h => kt ((lt32 hy hx).mp h) hS p l e s m args below meth c F H locs lsA hs hW hl) (fun h => kf (fun q => h ((lt32 hy hx).mpr q)) hS p l e s m args below meth c F H locs lsA hs hW hl)
theorem aw_if_gt {x off : Int} {tgt : Nat} (hd : decode cx.2.1 pc = .ok (.ifCond .gt off, 3)) (ht : (pc : Int) + off = (tgt : Int)) (hx : R32 x) (kt : 0 < x → AW κ cx R Qf cells slots S tgt ls r μ ν) (kf : ¬ 0 < x → AW κ cx R Qf cells slots S (pc + 3) ls r μ ν) : AW κ cx R Qf cells slots S pc ls (aI x :: r) μ ν := by
  intro hS p l e s m args below meth c F H locs lsA hs hW hl
  exact lv_if_gt F.1 F.2.1 hd ht (fun h => kt ((lt32 r0 hx).mp h) hS p l e s m args below meth c F H locs lsA hs hW hl) (fun h => kf (fun q => h ((lt32 r0 hx).mpr q)) hS p l e s m args below meth c F H locs lsA hs hW hl)
theorem aw_icmp_le {x y off : Int} {tgt : Nat} (hd : decode cx.2.1 pc = .ok (.if_icmp .le off, 3)) (ht : (pc : Int) + off = (tgt : Int)) (hx : R32 x) (hy : R32 y) (kt : x ≤ y → AW κ cx R Qf cells slots S tgt ls r μ ν) (kf : ¬ x ≤ y → AW κ cx R Qf cells slots S (pc + 3) ls r μ ν) : AW κ cx R Qf cells slots S pc ls (aI y :: aI x :: r) μ ν := by
  intro hS p l e s m args below meth c F H locs lsA hs hW hl
  exact lv_icmp_le F.1 F.2.1 hd ht (fun h => kt ((le32 hx hy).mp h) hS p l e s m args below meth c F H locs lsA hs hW hl) (fun h => kf (fun q => h ((le32 hx hy).mpr q)) hS p l e s m args below meth c F H locs lsA hs hW hl)
theorem aw_if_le {x off : Int} {tgt : Nat} (hd : decode cx.2.1 pc = .ok (.ifCond .le off, 3)) (ht : (pc : Int) + off = (tgt : Int)) (hx : R32 x) (kt : x ≤ 0 → AW κ cx R Qf cells slots S tgt ls r μ ν) (kf : ¬ x ≤ 0 → AW κ cx R Qf cells slots S (pc + 3) ls r μ ν) : AW κ cx R Qf cells slots S pc ls (aI x :: r) μ ν := by
  intro hS p l e s m args below meth c F H locs lsA hs hW hl
  exact lv_if_le F.1 F.2.1 hd ht (fun h => kt ((le32 hx r0).mp h) hS p l e s m args below meth c F H locs lsA hs hW hl) (fun h => kf (fun q => h ((le32 hx r0).mpr q)) hS p l e s m args below meth c F H locs lsA hs hW hl)
theorem aw_tswIn {x dflt lo hi off : Int} {offs : Array Int} {len tgt : Nat} (hd : decode cx.2.1 pc = .ok (.tableswitch dflt lo hi offs, len)) (hx : R32 x) (h1 : lo ≤ x) (h2 : x ≤ hi) (ho : offs[(x - lo).toNat]? = some off) (ht : (pc : Int) + off = (tgt : Int)) (k : AW κ cx R Qf cells slots S tgt ls r μ ν) : AW κ cx R Qf cells slots S pc ls (aI x :: r) μ ν := by
  intro hS p l e s m args below meth c F H locs lsA hs hW hl
  exact lv_tableIn F.1 F.2.1 hd (by rw [ti32 hx]; omega) (by rw [ti32 hx]; omega) (by rw [ti32 hx]; exact ho) ht (k hS p l e s m args below meth c F H locs lsA hs hW hl)
theorem aw_tswOut {x dflt lo hi : Int} {offs : Array Int} {len tgt : Nat} (hd : decode cx.2.1 pc = .ok (.tableswitch dflt lo hi offs, len)) (hx : R32 x) (h : x < lo ∨ hi < x) (ht : (pc : Int) + dflt = (tgt : Int)) (k : AW κ cx R Qf cells slots S tgt ls r μ ν) : AW κ cx R Qf cells slots S pc ls (aI x :: r) μ ν := by
  intro hS p l e s m args below meth c F H locs lsA hs hW hl
  exact lv_tableOut F.1 F.2.1 hd (by rw [ti32 hx]; exact h) ht (k hS p l e s m args below meth c F H locs lsA hs hW hl)
theorem aw_iret {Post : Option AV → List SH → MM → ML → Prop} {mc ms : Nat} {z : Int} (hd : decode cx.2.1 pc = .ok (.ireturn, 1)) (hret : cx.2.2.2 = some .int) (hc : cells ≤ mc) (hs : slots ≤ ms) (hp : Post (some (aI z)) S μ ν) : AW κ cx R (mq κ Post mc ms) cells slots S pc ls [aI z] μ ν := by
  intro hS p l e s m args below meth c F H locs lsA hs1 hW hl
  refine W.widen hc hs ?_
  exact W.iret F.1 F.2.1 (F.2.2.1.trans hret) (fun t ht _ => ⟨⟨some (aI z), S, μ, ν, rfl, hp, by rw [ht]; exact hW, hS⟩, hs1.F ht⟩) hs1.2.2 hd F.2.2.2.2.2.2.1
theorem aw_zret {Post : Option AV → List SH → MM → ML → Prop} {mc ms : Nat} {z : Int} (hd : decode cx.2.1 pc = .ok (.ireturn, 1)) (hret : cx.2.2.2 = some .boolean) (hz : 0 ≤ z ∧ z < 2) (hc : cells ≤ mc) (hs : slots ≤ ms) (hp : Post (some (aI z)) S μ ν) : AW κ cx R (mq κ Post mc ms) cells slots S pc ls [aI z] μ ν := by
  intro hS p l e s m args below meth c F H locs lsA hs1 hW hl
  refine W.widen hc hs ?_
  exact W.zret F.1 F.2.1 (F.2.2.1.trans hret) (nar_z hz.1 hz.2).1 (fun t ht _ => ⟨⟨some (aI z), S, μ, ν, rfl, hp, by rw [ht]; exact hW, hS⟩, hs1.F ht⟩) hs1.2.2 hd F.2.2.2.2.2.2.1
theorem aw_vret {Post : Option AV → List SH → MM → ML → Prop} {mc ms : Nat} (hd : decode cx.2.1 pc = .ok (.return_, 1)) (hret : cx.2.2.2 = none) (hc : cells ≤ mc) (hs : slots ≤ ms) (hp : Post none S μ ν) : AW κ cx R (mq κ Post mc ms) cells slots S pc ls [] μ ν := by
  intro hS p l e s m args below meth c F H locs lsA hs1 hW hl
  refine W.widen hc hs ?_
  exact W.vret F.1 F.2.1 (F.2.2.1.trans hret) (fun t ht _ => ⟨⟨none, S, μ, ν, rfl, hp, by rw [ht]; exact hW, hS⟩, hs1.F ht⟩) hs1.2.2 hd F.2.2.2.2.2.2.1
end AWS
theorem gAll : GoodIn lwg lwg := by
  exact fun w hw => ⟨hw, good_of_word (List.mem_filter.mp hw).2⟩
theorem Stt.moved {κ : KX} {s U : State} {H : Heap} {locs : List Loc} (h : Stt κ s) (hvm : s.vm.Alike U.vm) (hS : va_S (lwA κ) s.heap H locs) (hU : U.heap = H) : Stt κ U := by
  subst hU
  refine ⟨Nat.le_trans h.1 hS.1, fun j hj => ⟨((h.2.1 j hj).1.moved hvm).kept (fun a h1 h2 => hS.2.1 a h1 h2), ((h.2.1 j hj).2.moved hvm).kept (fun a h1 h2 => hS.2.1 a h1 h2)⟩, (h.2.2.1.moved hvm).kept (hS.2.1 _ (Nat.lt_of_lt_of_le h.2.2.2 h.1) (Nat.not_le.mpr h.2.2.2)), h.2.2.2⟩
theorem Pc_blind {κ : KX} {As : List AV} {S : List SH} {μ : MM} {ν : ML} : FrameBlind (va_Pc (As.map (cvA κ)) (fun U => KK κ U ∧ Stt κ U ∧ Wl κ S μ ν U.heap)) := by
  intro a U g mk h
  obtain ⟨h1, h2, h3, h4⟩ := h
  exact ⟨h1, va_K.moved (u := U) (U := U.calling g mk a) (Vm.Alike.refl U.vm) h2, Stt.moved (s := U) (U := U.calling g mk a) h3 (Vm.Alike.refl U.vm) (va_S.rf) rfl, h4⟩
theorem aw_run {κ : KX} {Post : Option AV → List SH → MM → ML → Prop} {p : Program} {l : Launch} {e : Env} {R : Room} {s : State} {m : MethodId} {args : Array Value} {below : List Frame} {meth : Method} {c : Code} {H : Heap} {locs : List Loc} {cells slots mc ms : Nat} {Q : State → Prop} {pc : Nat} {lsA : Array Slot} {st0 rest : List Value} {a : Array Value}
    (hr : va_Run p l e R s m args below meth c H locs cells slots mc ms (F0 m pc lsA st0) rest (QQ κ Post a) (lwA κ)) (hS : va_S (lwA κ) s.heap H locs)
    (kk : ∀ (r : Option AV) (S : List SH) (μ : MM) (ν : ML) (H1 : Heap) (locs1 : List Loc), Post r S μ ν → SmallS S → Wl κ S μ ν H1 → va_S (lwA κ) s.heap H1 locs1 → W p l e R s m args below meth c H1 locs1 (cells + mc) (slots + ms) Q (F0 m (pc + 3) lsA ((r.map (cvA κ)).toList ++ rest))) : W p l e R s m args below meth c H locs cells slots Q (F0 m pc lsA st0) := by
  intro T hT X
  obtain ⟨v, st₀, t, T', L, h0, X', hL, e1, e2, ⟨⟨r, S, μ, ν, hv, hp, hw, hsm⟩, hz, hk⟩, st⟩ := hr T hT X
  cases hv
  rw [h0] at hz hk
  obtain ⟨t2, a1, b1⟩ := kk r S μ ν T'.heap (locs ++ L) hp hsm (by rw [e1]; exact hw)
    ⟨Nat.le_trans hS.1 (by rw [e1]; exact hz), fun q h1 h2 => by rw [e1, hk q (Nat.lt_of_lt_of_le h1 hS.1) h2]; exact hS.2.1 q h1 h2, fun q hq => by
      rcases List.mem_append.mp hq with h | h
      · exact hS.2.2 q h
      · exact hL q h⟩ T' rfl X'
  exact ⟨t2, st t2 a1, b1⟩
/-- what the tables say of a method: n its parameters -/
def MokB (cy : MX) (n : Nat) : Prop := Cond.initialized cy.1.cls ∈ lwg ∧ Cond.code cy.1 cy.2.1 cy.2.2.1 cy.2.2.2 ∈ lwg ∧ (cy.1.cls ≠ "java/lang/invoke/MethodHandle" ∧ cy.1.cls ≠ "java/lang/invoke/VarHandle" ∧ (parseMethodDescriptor cy.1.desc).map (fun d => d.parameters.length) = some n) ∧ plainName cy.1.cls = true
def mokB (cy : MX) (n p1 : Nat) : Bool := okL p1 (.initialized cy.1.cls) && decide (cy.1.cls ≠ "java/lang/invoke/MethodHandle" ∧ cy.1.cls ≠ "java/lang/invoke/VarHandle" ∧ (parseMethodDescriptor cy.1.desc).map (fun d => d.parameters.length) = some n) && plainName cy.1.cls
theorem mokB_of {cy : MX} {n p1 p2 : Nat} (hc : lw_tbl[p2]? = some (.code cy.1 cy.2.1 cy.2.2.1 cy.2.2.2)) (h : mokB cy n p1 = true) : MokB cy n := by
  simp only [mokB, Bool.and_eq_true] at h
  exact ⟨okL_mem h.1.1, List.mem_filter.mpr ⟨List.mem_of_getElem? hc, rfl⟩, of_decide_eq_true h.1.2, h.2⟩
def MokV (cy : MX) (n : Nat) : Prop := MokB cy n ∧ Cond.instanceMethod cy.1 ∈ lwg ∧ Cond.selects cy.1.cls cy.1 cy.1 ∈ lwg
def MokS (cy : MX) (n : Nat) : Prop := MokB cy n ∧ Cond.static cy.1 ∈ lwg
theorem mokV_of {cy : MX} {n p1 p2 p3 p4 : Nat} (hc : lw_tbl[p2]? = some (.code cy.1 cy.2.1 cy.2.2.1 cy.2.2.2)) (h : mokB cy n p1 = true) (h3 : okL p3 (.instanceMethod cy.1) = true) (h4 : okL p4 (.selects cy.1.cls cy.1 cy.1) = true) : MokV cy n := ⟨mokB_of hc h, okL_mem h3, okL_mem h4⟩
theorem mokS_of {cy : MX} {n p1 p2 p3 : Nat} (hc : lw_tbl[p2]? = some (.code cy.1 cy.2.1 cy.2.2.1 cy.2.2.2)) (h : mokB cy n p1 = true) (h3 : okL p3 (.static cy.1) = true) : MokS cy n := ⟨mokB_of hc h, okL_mem h3⟩
theorem gV {own : String} {idx n : Nat} {cy : MX} (h : MokV cy n) (hl : Cond.methodLink own idx cy.1 ∈ lwg) : GoodIn lwg (wsV own idx cy.1.cls cy.1 (wsM cy)) := by
  intro w hw
  refine gAll w ?_
  unfold wsV wsM at hw
  simp only [List.mem_append, List.mem_cons, List.not_mem_nil, or_false] at hw
  rcases hw with (rfl | rfl | rfl | rfl) | rfl | hw
  · exact hl
  · exact h.2.1
  · exact h.2.2
  · exact h.1.1
  · exact h.1.2.1
  · exact hw
theorem gS {own : String} {idx n : Nat} {cy : MX} (h : MokS cy n) (hl : Cond.methodLink own idx cy.1 ∈ lwg) : GoodIn lwg (va_wsS own idx cy.1 (wsM cy)) := by
  intro w hw
  refine gAll w ?_
  unfold va_wsS wsM at hw
  simp only [List.mem_append, List.mem_cons, List.not_mem_nil, or_false] at hw
  rcases hw with (rfl | rfl | rfl) | rfl | hw
  · exact hl
  · exact h.2
  · exact h.1.1
  · exact h.1.2.1
  · exact hw
section AWC
variable {κ : KX} {cx : MX} {R : Room} {Qf : List Frame → Array Value → State → State → Prop} {cells slots : Nat} {S : List SH} {pc : Nat} {ls r : List AV} {μ : MM} {ν : ML}
theorem rest_ok {κ : KX} {rest : List AV} {m : MethodId} {pc : Nat} {lsA : Array Slot} {st : List Value} (h : 2 * rest.length ≤ 8) : 2 * (F0 m pc lsA st).monitorRoom + ((rest.map (cvA κ)).map fun v => v.category).sum ≤ 8 := by
  refine lv_room ?_
  have : ∀ l : List AV, ((l.map (cvA κ)).map fun v => v.category).sum ≤ 2 * l.length := by
    intro l
    induction l with
    | nil => simp
    | cons a t ih =>
      simp only [List.map_cons, List.sum_cons, List.length_cons]
      have : (cvA κ a).category ≤ 2 := by rcases lv_cat (cvA κ a) with h | h <;> omega
      omega
  exact Nat.le_trans (this rest) h
theorem aw_callV {cy : MX} {d mc ms n idx b a p1 : Nat} {As rest : List AV} {fs : List (Option AV)} {Post : Option AV → List SH → MM → ML → Prop} (hM : AMet κ d cy (aR b :: As) S μ ν Post mc ms) (hm : MokV cy n) (hd : decode cx.2.1 pc = .ok (.invokevirtual idx, 3)) (hl : okL p1 (.methodLink cx.1.cls idx cy.1) = true) (hob : gt S b = some (.inr (a, fs))) (hcl : (gt classes a).map (fun q => q.1) = some cy.1.cls) (hn : As.length = n) (hrest : 2 * rest.length ≤ 8) (hR : d + 1 ≤ R.frames ∧ 8 + (cy.2.2.1 + 11) + 64 * d ≤ R.locals) (hf : cells + mc ≤ R.cells ∧ slots + ms ≤ R.slots)
    (k : ∀ (r : Option AV) (S' : List SH) (μ' : MM) (ν' : ML), Post r S' μ' ν' → AW κ cx R Qf (cells + mc) (slots + ms) S' (pc + 3) ls (r.toList ++ rest) μ' ν') : AW κ cx R Qf cells slots S pc ls (As.reverse ++ aR b :: rest) μ ν := by
  intro hS p l e s m args below meth c F H locs lsA hs hW hl0
  obtain ⟨hx, hb, -, hml, hown, hts, -, -, hK, hst⟩ := id F
  have hlink := okL_mem hl
  rw [gt_eq] at hob
  rw [gt_eq] at hcl
  cases hcc : classes[a]? with
  | none => rw [hcc] at hcl; cases hcl
  | some q =>
    rw [hcc] at hcl
    have hcl : q.1 = cy.1.cls := Option.some.inj hcl
    have hrecv := va_recv hK hW.2 hcc (wsA_in hob)
    rw [hcl] at hrecv
    refine aw_run (va_runV (As := As.map (cvA κ)) (rest := rest.map (cvA κ)) ⟨hx, hb, hml, hown, hts⟩ (hM hS l) (cwV n hts (gV hm hlink) rfl rfl rfl ⟨rfl, hm.1.2.2.1⟩ hR) ⟨Pc_blind, hrecv, fun U hU hWm => ⟨rfl, va_K.moved hWm.alike hK, hst.moved hWm.alike hs hU, by rw [hU]; exact hW⟩⟩ rfl (by rw [List.length_map]; exact hn) hl0.1 (by simp [List.map_append, List.map_reverse]; rfl) (rest_ok hrest) hd hf) hs (fun r S' μ' ν' H1 locs1 hp hsm hw1 hs1 => ?_)
    have := k r S' μ' ν' hp hsm p l e s m args below meth c F H1 locs1 lsA hs1 hw1 hl0
    rw [List.map_append] at this
    cases r <;> exact this
theorem aw_callS {cy : MX} {d mc ms n idx p1 : Nat} {As rest : List AV} {Post : Option AV → List SH → MM → ML → Prop} (hM : AMet κ d cy As S μ ν Post mc ms) (hm : MokS cy n) (hd : decode cx.2.1 pc = .ok (.invokestatic idx, 3)) (hl : okL p1 (.methodLink cx.1.cls idx cy.1) = true) (hn : As.length = n) (hrest : 2 * rest.length ≤ 8) (hR : d + 1 ≤ R.frames ∧ 8 + (cy.2.2.1 + 11) + 64 * d ≤ R.locals) (hf : cells + mc ≤ R.cells ∧ slots + ms ≤ R.slots)
    (k : ∀ (r : Option AV) (S' : List SH) (μ' : MM) (ν' : ML), Post r S' μ' ν' → AW κ cx R Qf (cells + mc) (slots + ms) S' (pc + 3) ls (r.toList ++ rest) μ' ν') : AW κ cx R Qf cells slots S pc ls (As.reverse ++ rest) μ ν := by
  intro hS p l e s m args below meth c F H locs lsA hs hW hl0
  obtain ⟨hx, hb, -, hml, hown, hts, -, -, hK, hst⟩ := id F
  have hlink := okL_mem hl
  refine aw_run (va_runS (As := As.map (cvA κ)) (rest := rest.map (cvA κ)) ⟨hx, hb, hml, hown, hts⟩ (hM hS l) (va_cwS n hts (gS hm hlink) rfl rfl rfl hm.1.2.2.1 hR) ⟨Pc_blind, fun U hU hWm => ⟨rfl, va_K.moved hWm.alike hK, hst.moved hWm.alike hs hU, by rw [hU]; exact hW⟩⟩ rfl (by rw [List.length_map]; exact hn) hl0.1 (by simp [List.map_append, List.map_reverse]) (rest_ok hrest) hd hf) hs (fun r S' μ' ν' H1 locs1 hp hsm hw1 hs1 => ?_)
  have := k r S' μ' ν' hp hsm p l e s m args below meth c F H1 locs1 lsA hs1 hw1 hl0
  rw [List.map_append] at this
  cases r <;> exact this
end AWC
/-! a contract out of a walk from the entry -/
def flatA : List AV → List AV
  | [] => []
  | .inr (.inl x) :: r => aL x :: aU :: flatA r
  | v :: r => v :: flatA r
def entL (As : List AV) (n : Nat) : List AV := flatA As ++ List.replicate (n - (flatA As).length) aU
theorem flat_len (κ : KX) : ∀ As : List AV, (lg_sl (As.map (cvA κ))).length = (flatA As).length
  | [] => rfl
  | .inl z :: r => by have := flat_len κ r; simp [lg_sl, flatA, cvA, Value.category] at this ⊢; exact this
  | .inr (.inl x) :: r => by have := flat_len κ r; simp [lg_sl, flatA, cvA, Value.category] at this ⊢; omega
  | .inr (.inr (.inl x)) :: r => by have := flat_len κ r; simp [lg_sl, flatA, cvA, Value.category] at this ⊢; exact this
  | .inr (.inr (.inr (.inl x))) :: r => by have := flat_len κ r; simp [lg_sl, flatA, cvA, Value.category] at this ⊢; exact this
  | .inr (.inr (.inr (.inr x))) :: r => by have := flat_len κ r; simp [lg_sl, flatA, cvA, Value.category] at this ⊢; exact this
theorem flat_at (κ : KX) : ∀ (As : List AV) (o i : Nat) (v : AV), (flatA As)[i]? = some v → v ≠ aU → (o + i, cvA κ v) ∈ lv_args o (As.map (cvA κ))
  | [], o, i, v, h, _ => by simp [flatA] at h
  | .inl z :: r, o, i, v, h, hv => by
    cases i with
    | zero => simp [flatA] at h; subst h; exact List.mem_cons_self
    | succ i =>
      simp [flatA] at h
      have := flat_at κ r (o + 1) i v h hv
      refine List.mem_cons_of_mem _ ?_
      rw [show o + (i + 1) = o + 1 + i by omega]
      simpa [cvA, Value.category] using this
  | .inr (.inl x) :: r, o, i, v, h, hv => by
    cases i with
    | zero => simp [flatA] at h; subst h; exact List.mem_cons_self
    | succ i =>
      cases i with
      | zero => simp [flatA] at h; exact absurd h.symm hv
      | succ i =>
        simp [flatA] at h
        have := flat_at κ r (o + 2) i v h hv
        refine List.mem_cons_of_mem _ ?_
        rw [show o + (i + 1 + 1) = o + 2 + i by omega]
        simpa [cvA, Value.category] using this
  | .inr (.inr w) :: r, o, i, v, h, hv => by
    cases i with
    | zero => simp [flatA] at h; subst h; exact List.mem_cons_self
    | succ i =>
      simp [flatA] at h
      have := flat_at κ r (o + 1) i v h hv
      refine List.mem_cons_of_mem _ ?_
      rw [show o + (i + 1) = o + 1 + i by omega]
      have hc : (cvA κ (.inr (.inr w))).category = 1 := by rcases w with w | w | w <;> rfl
      rw [if_neg (by rw [hc]; decide)]
      exact this
theorem LH.entry {κ : KX} {As : List AV} {n : Nat} (h : (flatA As).length ≤ n) : LH κ n ((lg_sl (As.map (cvA κ)) ++ List.replicate (n - (lg_sl (As.map (cvA κ))).length) Slot.unset).toArray) (entL As n) := by
  have hh := lv_entry (As.map (cvA κ)) (n := n) (by rw [flat_len]; exact h)
  refine ⟨hh.1, hh.2.1, by simp [entL]; omega, fun i v hi hv => ?_⟩
  unfold entL at hi
  by_cases hlt : i < (flatA As).length
  · rw [List.getElem?_append_left hlt] at hi
    have := flat_at κ As 0 i v hi hv
    rw [Nat.zero_add] at this
    exact hh.2.2 _ this
  · rw [List.getElem?_append_right (by omega), List.getElem?_replicate] at hi
    split at hi
    · exact absurd (Option.some.inj hi).symm hv
    · cases hi
theorem AMet.of {κ : KX} {d : Nat} {cy : MX} {As ls : List AV} {S : List SH} {μ : MM} {ν : ML} {Post : Option AV → List SH → MM → ML → Prop} {mc ms n : Nat} (hm : MokB cy n) (hle : (flatA As).length ≤ cy.2.2.1) (hls : entL As cy.2.2.1 = ls) (k : AW κ cy (rmv d mc ms) (mq κ Post mc ms) 0 0 S 0 ls [] μ ν) : AMet κ d cy As S μ ν Post mc ms := by
  intro hS l
  refine Met.ofW (cc := cy.2.1) (maxL := cy.2.2.1) (ret := cy.2.2.2) hm.2.2.2 rfl ?_
  intro p e s m args below meth c s₁ B hml hv
  obtain ⟨rfl, hK, hSt, hW⟩ := hv
  have hts := atoms_spec (ws := wsM cy) B.pre
  rw [lg_entry_eq]
  subst hls
  exact k hS p l e s m _ below meth c ⟨B.exec, B.bytes, B.returns, hml, findClass_of_methodNamed B.named, fun w hw => hts w (List.mem_cons_of_mem _ hw), B.notSynchronized, (name_of_methodNamed B.named B.method).1, hK, hSt⟩ s.heap [] _ va_S.rf hW (LH.entry hle)

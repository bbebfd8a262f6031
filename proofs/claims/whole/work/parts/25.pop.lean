/-! ===== Long.bitCount counts the bits ===== -/
theorem and_split {a c : Nat} (b d : Nat) (ha : a < 256) (hc : c < 256) : (a + 256 * b) &&& (c + 256 * d) = (a &&& c) + 256 * (b &&& d) := by
  have h1 : ((a + 256 * b) &&& (c + 256 * d)) % 2 ^ 8 = a &&& c := by
    rw [Nat.and_mod_two_pow, show (a + 256 * b) % 2 ^ 8 = a by omega, show (c + 256 * d) % 2 ^ 8 = c by omega]
  have h2 : ((a + 256 * b) &&& (c + 256 * d)) / 2 ^ 8 = b &&& d := by
    rw [Nat.and_div_two_pow, show (a + 256 * b) / 2 ^ 8 = b by omega, show (c + 256 * d) / 2 ^ 8 = d by omega]
  have := Nat.div_add_mod ((a + 256 * b) &&& (c + 256 * d)) (2 ^ 8)
  rw [h1, h2] at this
  omega
def vl : List Nat → Nat
  | [] => 0
  | b :: r => b + 256 * vl r
def mk8 (m : Nat) : Nat → Nat
  | 0 => 0
  | n + 1 => m + 256 * mk8 m n
def g1b (b : Nat) : Nat := b - ((b / 2) &&& 85)
def g2b (b : Nat) : Nat := (b &&& 51) + ((b / 4) &&& 51)
def g3b (b : Nat) : Nat := (b + b / 16) &&& 15
theorem f1_fin : ∀ b : Nat, b < 256 → ∀ y : Nat, y < 2 → ((b / 2 + 128 * y) &&& 85) = ((b / 2) &&& 85) ∧ ((b / 2) &&& 85) ≤ b := by decide +kernel
theorem f2_fin : ∀ b : Nat, b < 256 → ∀ y : Nat, y < 4 → ((b / 4 + 64 * y) &&& 51) = ((b / 4) &&& 51) := by decide +kernel
theorem f3_fin : ∀ b : Nat, b < 256 → b % 16 ≤ 4 → b / 16 ≤ 4 → ∀ y : Nat, y < 5 → b + b / 16 + 16 * y < 256 ∧ ((b + b / 16 + 16 * y) &&& 15) = g3b b := by decide +kernel
theorem g12_fin : ∀ b : Nat, b < 256 → g1b b < 256 ∧ g2b (g1b b) < 256 ∧ g2b (g1b b) % 16 ≤ 4 ∧ g2b (g1b b) / 16 ≤ 4 := by decide +kernel
theorem p_fin : ∀ b : Nat, b < 256 → g3b (g2b (g1b b)) = b % 2 + b / 2 % 2 + b / 4 % 2 + b / 8 % 2 + b / 16 % 2 + b / 32 % 2 + b / 64 % 2 + b / 128 % 2 := by decide +kernel
theorem f1_ok : ∀ ds : List Nat, (∀ b ∈ ds, b < 256) → vl ds - ((vl ds / 2) &&& mk8 85 ds.length) = vl (ds.map g1b) ∧ ((vl ds / 2) &&& mk8 85 ds.length) ≤ vl ds
  | [], _ => by simp [vl]
  | b :: r, h => by
    have ih := f1_ok r (fun c hc => h c (List.mem_cons_of_mem _ hc))
    have hb := h b List.mem_cons_self
    have e : (b + 256 * vl r) / 2 = (b / 2 + 128 * (vl r % 2)) + 256 * (vl r / 2) := by omega
    have f := f1_fin b hb (vl r % 2) (by omega)
    simp only [vl, List.length_cons, mk8, List.map_cons, e]
    rw [and_split _ _ (by omega) (by omega), f.1]
    rw [show g1b b = b - ((b / 2) &&& 85) from rfl]
    generalize ((b / 2) &&& 85) = u at f
    generalize ((vl r / 2) &&& mk8 85 r.length) = v at ih
    omega
theorem f2_ok : ∀ ds : List Nat, (∀ b ∈ ds, b < 256) → (vl ds &&& mk8 51 ds.length) + ((vl ds / 4) &&& mk8 51 ds.length) = vl (ds.map g2b)
  | [], _ => by simp [vl, mk8]
  | b :: r, h => by
    have ih := f2_ok r (fun c hc => h c (List.mem_cons_of_mem _ hc))
    have hb := h b List.mem_cons_self
    have e : (b + 256 * vl r) / 4 = (b / 4 + 64 * (vl r % 4)) + 256 * (vl r / 4) := by omega
    have f := f2_fin b hb (vl r % 4) (by omega)
    simp only [vl, List.length_cons, mk8, List.map_cons, e]
    rw [and_split _ _ hb (by omega), and_split _ _ (by omega) (by omega), f]
    rw [show g2b b = (b &&& 51) + ((b / 4) &&& 51) from rfl]
    omega
theorem vl_mod : ∀ ds : List Nat, (∀ b ∈ ds, b % 16 ≤ 4) → vl ds % 16 ≤ 4
  | [], _ => by simp [vl]
  | b :: r, h => by
    have := h b List.mem_cons_self
    simp only [vl]
    omega
theorem f3_ok : ∀ ds : List Nat, (∀ b ∈ ds, b < 256 ∧ b % 16 ≤ 4 ∧ b / 16 ≤ 4) → ((vl ds + vl ds / 16) &&& mk8 15 ds.length) = vl (ds.map g3b)
  | [], _ => by simp [vl]
  | b :: r, h => by
    have ih := f3_ok r (fun c hc => h c (List.mem_cons_of_mem _ hc))
    have hb := h b List.mem_cons_self
    have hm := vl_mod r (fun c hc => (h c (List.mem_cons_of_mem _ hc)).2.1)
    have e : b + 256 * vl r + (b + 256 * vl r) / 16 = (b + b / 16 + 16 * (vl r % 16)) + 256 * (vl r + vl r / 16) := by omega
    have f := f3_fin b hb.1 hb.2.1 hb.2.2 (vl r % 16) (by omega)
    simp only [vl, List.length_cons, mk8, List.map_cons, e]
    rw [and_split _ _ f.1 (by omega), f.2, ih]
def cntL : Nat → Nat → Nat
  | 0, _ => 0
  | n + 1, X => X % 2 + cntL n (X / 2)
theorem cntL8 (n X : Nat) : cntL (n + 8) X = g3b (g2b (g1b (X % 256))) + cntL n (X / 256) := by
  rw [p_fin _ (by omega)]
  simp only [cntL, Nat.div_div_eq_div_mul, Nat.reduceMul]
  omega
theorem cntL_up : ∀ n X : Nat, cntL (n + 1) X = cntL n X + X / 2 ^ n % 2
  | 0, X => by simp [cntL]
  | n + 1, X => by
    have := cntL_up n (X / 2)
    rw [show cntL (n + 1 + 1) X = X % 2 + cntL (n + 1) (X / 2) from rfl, this, show cntL (n + 1) X = X % 2 + cntL n (X / 2) from rfl, Nat.div_div_eq_div_mul, Nat.pow_succ, Nat.mul_comm 2 (2 ^ n)]
    omega
def popN (X : Nat) : Nat :=
  let a := X - ((X / 2) &&& 6148914691236517205)
  let b := (a &&& 3689348814741910323) + ((a / 4) &&& 3689348814741910323)
  let c := (b + b / 16) &&& 1085102592571150095
  let d := c + c / 256
  let e := d + d / 65536
  (e + e / 4294967296) % 128
theorem popN_eq (X : Nat) (hX : X < 2 ^ 64) : popN X = cntL 64 X ∧ (X / 2 &&& 6148914691236517205) ≤ X ∧ (let a := X - ((X / 2) &&& 6148914691236517205); let b := (a &&& 3689348814741910323) + ((a / 4) &&& 3689348814741910323); let c := (b + b / 16) &&& 1085102592571150095; a < 2 ^ 64 ∧ (a &&& 3689348814741910323) + ((a / 4) &&& 3689348814741910323) < 2 ^ 63 ∧ b + b / 16 < 2 ^ 64 ∧ c + c / 256 < 2 ^ 63 ∧ c + c / 256 + (c + c / 256) / 65536 < 2 ^ 63 ∧ c + c / 256 + (c + c / 256) / 65536 + (c + c / 256 + (c + c / 256) / 65536) / 4294967296 < 2 ^ 63) := by
  have hv : X = vl [X % 256, X / 256 % 256, X / 65536 % 256, X / 16777216 % 256, X / 4294967296 % 256, X / 1099511627776 % 256, X / 281474976710656 % 256, X / 72057594037927936 % 256] := by simp only [vl]; omega
  have hc : cntL 64 X = g3b (g2b (g1b (X % 256))) + (g3b (g2b (g1b (X / 256 % 256))) + (g3b (g2b (g1b (X / 65536 % 256))) + (g3b (g2b (g1b (X / 16777216 % 256))) + (g3b (g2b (g1b (X / 4294967296 % 256))) + (g3b (g2b (g1b (X / 1099511627776 % 256))) + (g3b (g2b (g1b (X / 281474976710656 % 256))) + g3b (g2b (g1b (X / 72057594037927936 % 256))))))))) := by
    rw [show 64 = 56 + 8 from rfl, cntL8, show 56 = 48 + 8 from rfl, cntL8, show 48 = 40 + 8 from rfl, cntL8, show 40 = 32 + 8 from rfl, cntL8, show 32 = 24 + 8 from rfl, cntL8, show 24 = 16 + 8 from rfl, cntL8, show 16 = 8 + 8 from rfl, cntL8, show 8 = 0 + 8 from rfl, cntL8]
    simp only [cntL, Nat.div_div_eq_div_mul, Nat.reduceMul, Nat.add_zero]
  generalize hb0 : X % 256 = b0 at hv hc
  generalize hb1 : X / 256 % 256 = b1 at hv hc
  generalize hb2 : X / 65536 % 256 = b2 at hv hc
  generalize hb3 : X / 16777216 % 256 = b3 at hv hc
  generalize hb4 : X / 4294967296 % 256 = b4 at hv hc
  generalize hb5 : X / 1099511627776 % 256 = b5 at hv hc
  generalize hb6 : X / 281474976710656 % 256 = b6 at hv hc
  generalize hb7 : X / 72057594037927936 % 256 = b7 at hv hc
  have hlt : ∀ b ∈ [b0, b1, b2, b3, b4, b5, b6, b7], b < 256 := by
    intro b hb
    simp only [List.mem_cons, List.not_mem_nil, or_false] at hb
    omega
  have F1 := f1_ok _ hlt
  rw [← hv] at F1
  have hlt1 : ∀ b ∈ [b0, b1, b2, b3, b4, b5, b6, b7].map g1b, b < 256 := by
    intro b hb
    obtain ⟨c, hc, rfl⟩ := List.mem_map.mp hb
    exact (g12_fin c (hlt c hc)).1
  have F2 := f2_ok _ hlt1
  have hlt2 : ∀ b ∈ ([b0, b1, b2, b3, b4, b5, b6, b7].map g1b).map g2b, b < 256 ∧ b % 16 ≤ 4 ∧ b / 16 ≤ 4 := by
    intro b hb
    obtain ⟨c, hc, rfl⟩ := List.mem_map.mp hb
    obtain ⟨d, hd, rfl⟩ := List.mem_map.mp hc
    exact (g12_fin d (hlt d hd)).2
  have F3 := f3_ok _ hlt2
  have m1 : mk8 85 8 = 6148914691236517205 := by decide
  have m2 : mk8 51 8 = 3689348814741910323 := by decide
  have m3 : mk8 15 8 = 1085102592571150095 := by decide
  have p8 : ∀ b : Nat, b < 256 → g3b (g2b (g1b b)) ≤ 8 := fun b hb => by rw [p_fin b hb]; omega
  simp only [List.length_map, List.length_cons, List.length_nil, Nat.zero_add, Nat.reduceAdd, m1, m2, m3] at F1 F2 F3
  unfold popN
  simp only [F1.1, F2, F3]
  have q0 := p8 b0 (by omega)
  have q1 := p8 b1 (by omega)
  have q2 := p8 b2 (by omega)
  have q3 := p8 b3 (by omega)
  have q4 := p8 b4 (by omega)
  have q5 := p8 b5 (by omega)
  have q6 := p8 b6 (by omega)
  have q7 := p8 b7 (by omega)
  have k0 := g12_fin b0 (by omega)
  have k1 := g12_fin b1 (by omega)
  have k2 := g12_fin b2 (by omega)
  have k3 := g12_fin b3 (by omega)
  have k4 := g12_fin b4 (by omega)
  have k5 := g12_fin b5 (by omega)
  have k6 := g12_fin b6 (by omega)
  have k7 := g12_fin b7 (by omega)
  rw [hc]
  simp only [List.map_cons, List.map_nil, vl]
  generalize g3b (g2b (g1b b0)) = p0 at *
  generalize g3b (g2b (g1b b1)) = p1 at *
  generalize g3b (g2b (g1b b2)) = p2 at *
  generalize g3b (g2b (g1b b3)) = p3 at *
  generalize g3b (g2b (g1b b4)) = p4 at *
  generalize g3b (g2b (g1b b5)) = p5 at *
  generalize g3b (g2b (g1b b6)) = p6 at *
  generalize g3b (g2b (g1b b7)) = p7 at *
  have e1 : (p0 + 256 * (p1 + 256 * (p2 + 256 * (p3 + 256 * (p4 + 256 * (p5 + 256 * (p6 + 256 * (p7 + 256 * 0)))))))) / 256 = p1 + 256 * (p2 + 256 * (p3 + 256 * (p4 + 256 * (p5 + 256 * (p6 + 256 * p7))))) := by omega
  rw [e1]
  have e2 : p0 + 256 * (p1 + 256 * (p2 + 256 * (p3 + 256 * (p4 + 256 * (p5 + 256 * (p6 + 256 * (p7 + 256 * 0))))))) + (p1 + 256 * (p2 + 256 * (p3 + 256 * (p4 + 256 * (p5 + 256 * (p6 + 256 * p7)))))) = (p0 + p1) + 256 * ((p1 + p2) + 256 * ((p2 + p3) + 256 * ((p3 + p4) + 256 * ((p4 + p5) + 256 * ((p5 + p6) + 256 * ((p6 + p7) + 256 * p7)))))) := by omega
  rw [e2]
  have e3 : ((p0 + p1) + 256 * ((p1 + p2) + 256 * ((p2 + p3) + 256 * ((p3 + p4) + 256 * ((p4 + p5) + 256 * ((p5 + p6) + 256 * ((p6 + p7) + 256 * p7))))))) / 65536 = (p2 + p3) + 256 * ((p3 + p4) + 256 * ((p4 + p5) + 256 * ((p5 + p6) + 256 * ((p6 + p7) + 256 * p7)))) := by omega
  rw [e3]
  have e4 : (p0 + p1) + 256 * ((p1 + p2) + 256 * ((p2 + p3) + 256 * ((p3 + p4) + 256 * ((p4 + p5) + 256 * ((p5 + p6) + 256 * ((p6 + p7) + 256 * p7)))))) + ((p2 + p3) + 256 * ((p3 + p4) + 256 * ((p4 + p5) + 256 * ((p5 + p6) + 256 * ((p6 + p7) + 256 * p7))))) = (p0 + p1 + p2 + p3) + 256 * ((p1 + p2 + p3 + p4) + 256 * ((p2 + p3 + p4 + p5) + 256 * ((p3 + p4 + p5 + p6) + 256 * ((p4 + p5 + p6 + p7) + 256 * ((p5 + p6 + p7) + 256 * ((p6 + p7) + 256 * p7)))))) := by omega
  rw [e4]
  have e5 : ((p0 + p1 + p2 + p3) + 256 * ((p1 + p2 + p3 + p4) + 256 * ((p2 + p3 + p4 + p5) + 256 * ((p3 + p4 + p5 + p6) + 256 * ((p4 + p5 + p6 + p7) + 256 * ((p5 + p6 + p7) + 256 * ((p6 + p7) + 256 * p7))))))) / 4294967296 = (p4 + p5 + p6 + p7) + 256 * ((p5 + p6 + p7) + 256 * ((p6 + p7) + 256 * p7)) := by omega
  rw [e5]
  refine ⟨?_, F1.2, ?_⟩
  · clear e1 e2 e3 e4 e5 F1 F2 F3 hlt hlt1 hlt2 hv hc hX k0 k1 k2 k3 k4 k5 k6 k7 hb0 hb1 hb2 hb3 hb4 hb5 hb6 hb7
    omega
  · clear e1 e2 e3 e4 e5 F1 F2 F3 hlt hlt1 hlt2 hv hc hX hb0 hb1 hb2 hb3 hb4 hb5 hb6 hb7
    refine ⟨?_, ?_, ?_, ?_, ?_, ?_⟩ <;> omega

/-! ===== at the begin, together ===== -/
theorem rel0 : Rel mu0 nu0 := by
  refine ⟨⟨prQ_ok i0_T.1, prQ_ok i0_T.2.1, prQ_ok i0_T.2.2.1, prQ_ok i0_T.2.2.2⟩, prQ_ok i0_G.1, prQ_ok i0_G.2, ?_, ?_, ?_, ⟨i0_Fi.1, i0_Fi.2.1, prQ_ok i0_Fi.2.2.1, prQ_ok i0_Fi.2.2.2⟩, ⟨i0_U.1, prQ_ok i0_U.2.1⟩, Or.inl ⟨i0_U.2.2.1, i0_U.2.2.2.1, i0_U.2.2.2.2.1⟩, Or.inl i0_U.2.2.2.2.2.1, ?_, ?_, Or.inl i0_U.2.2.2.2.2.2⟩
  · have G := fun i h0 h1 => (Bool.and_eq_true_iff.mp (alQ_ok i0_N.1 i h0 h1))
    have A := fun i (h0 : (1 : Int) ≤ i) (h1 : i < 10) => (of_decide_eq_true (G i (by omega) h1).1) h0
    exact ⟨fun i h0 h1 => (A i h0 h1).1, fun i h0 h1 => (A i h0 h1).2.1, fun i h0 h1 => of_decide_eq_true (G i h0 h1).2, i0_N.2.1, i0_N.2.2, fun i h0 h1 => (A i h0 h1).2.2.1, fun i h0 h1 => (A i h0 h1).2.2.2.1, fun i h0 h1 => (A i h0 h1).2.2.2.2.1, fun i h0 h1 => (A i h0 h1).2.2.2.2.2⟩
  · exact fun i h0 h1 => of_decide_eq_true (alQ_ok i0_S i h0 h1)
  · refine ⟨i0_R.1, fun r h0 h1 => (by have := of_decide_eq_true (alQ_ok i0_R2 r h0 h1); exact this), prQ_ok i0_R.2.1, prQ_ok i0_R.2.2, fun i h0 h1 => ?_⟩
    have e : nu0 45 i = 0 := of_decide_eq_true (alQ_ok i0_R3 i h0 h1)
    rw [e]
    have z : n64 0 = 0 := rfl
    rw [z]
    refine ⟨by decide, fun t t0 t1 => ?_⟩
    have e2 : mu0 69 (60 * i + t) = 0 := of_decide_eq_true (alQ_ok i0_R4 (60 * i + t) (by omega) (by omega))
    rw [e2]
    unfold tb
    rw [if_neg (by rw [Nat.zero_testBit]; decide)]
  · obtain ⟨a, b, c, d, e, f⟩ := i0_F
    exact ⟨⟨by rw [a, b], by rw [b]; decide, by rw [b]; decide⟩, prQ_ok d, prQ_ok e, fun x x0 x1 => of_decide_eq_true (alQ_ok f x (by omega) (by omega)), fun q => by omega⟩
  · obtain ⟨a, b, c, -⟩ := i0_F
    exact ⟨by omega, fun f f0 f1 => by omega⟩

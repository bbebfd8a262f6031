/-! ===== long values as numbers of 64 bits ===== -/
def n64 (x : Int64) : Nat := x.toBitVec.toNat
theorem n64_lt (x : Int64) : n64 x < 2 ^ 64 := x.toBitVec.isLt
theorem n64_and (a b : Int64) : n64 (a &&& b) = n64 a &&& n64 b := by
  unfold n64
  rw [Int64.toBitVec_and, BitVec.toNat_and]
theorem n64_or (a b : Int64) : n64 (a ||| b) = n64 a ||| n64 b := by
  unfold n64
  rw [Int64.toBitVec_or, BitVec.toNat_or]
theorem n64_xor (a b : Int64) : n64 (a ^^^ b) = n64 a ^^^ n64 b := by
  unfold n64
  rw [Int64.toBitVec_xor, BitVec.toNat_xor]
theorem n64_add (a b : Int64) (h : n64 a + n64 b < 2 ^ 64) : n64 (a + b) = n64 a + n64 b := by
  unfold n64 at *
  rw [Int64.toBitVec_add, BitVec.toNat_add, Nat.mod_eq_of_lt h]
theorem n64_sub (a b : Int64) (h : n64 b ≤ n64 a) : n64 (a - b) = n64 a - n64 b := by
  have ha := n64_lt a
  unfold n64 at *
  rw [Int64.toBitVec_sub, BitVec.toNat_sub]
  omega
theorem sh_amt : ∀ k : Nat, k < 64 → ((Int32.ofInt (k : Int)).toInt64.toUInt64 &&& Int64.toUInt64 63).toBitVec % 64 = BitVec.ofNat 64 k := by decide +kernel
theorem sh_amtL : ∀ k : Nat, k < 64 → ((Int32.ofInt (k : Int)).toInt64 &&& 63).toBitVec.smod 64 = BitVec.ofNat 64 k := by decide +kernel
theorem n64_ushr (x : Int64) (k : Nat) (hk : k < 64) : n64 (lUshr x (k : Int)) = n64 x / 2 ^ k := by
  unfold n64 lUshr
  show ((x.toUInt64 >>> ((Int32.ofInt (k : Int)).toInt64.toUInt64 &&& Int64.toUInt64 63)).toBitVec).toNat = _
  rw [UInt64.toBitVec_shiftRight, sh_amt k hk, BitVec.ushiftRight_eq', BitVec.toNat_ushiftRight, BitVec.toNat_ofNat, Nat.mod_eq_of_lt (by omega), Nat.shiftRight_eq_div_pow]
  rfl
theorem n64_shl (x : Int64) (k : Nat) (hk : k < 64) : n64 (lShl x (k : Int)) = n64 x * 2 ^ k % 2 ^ 64 := by
  unfold n64 lShl
  rw [Int64.toBitVec_shiftLeft, sh_amtL k hk, BitVec.shiftLeft_eq', BitVec.toNat_shiftLeft, BitVec.toNat_ofNat, Nat.mod_eq_of_lt (by omega : k < 2 ^ 64), Nat.shiftLeft_eq]
def lbA (x : Int64) : Int64 := x - (lUshr x 1 &&& Int64.ofInt 6148914691236517205)
def lbB (x : Int64) : Int64 := (x &&& Int64.ofInt 3689348814741910323) + (lUshr x 2 &&& Int64.ofInt 3689348814741910323)
def lbC (x : Int64) : Int64 := (x + lUshr x 4) &&& Int64.ofInt 1085102592571150095
def lbD (x : Int64) : Int64 := x + lUshr x 8
def lbE (x : Int64) : Int64 := x + lUshr x 16
def lbF (x : Int64) : Int64 := x + lUshr x 32
def lbc (x : Int64) : Int := bAnd (lbF (lbE (lbD (lbC (lbB (lbA x)))))).toInt32.toInt 127
theorem l7 (y : Int64) : bAnd y.toInt32.toInt 127 = ((n64 y % 128 : Nat) : Int) := by
  unfold bAnd n64
  rw [Int32.ofInt_toInt]
  have h : (y.toInt32 &&& Int32.ofInt 127).toBitVec = y.toBitVec.setWidth 32 &&& 127#32 := by
    rw [Int32.toBitVec_and, Int64.toBitVec_toInt32, BitVec.signExtend_eq_setWidth_of_le _ (by decide)]
    rfl
  have h2 : (y.toInt32 &&& Int32.ofInt 127).toInt = (y.toBitVec.setWidth 32 &&& 127#32).toInt := by
    rw [← h]
    rfl
  have h3 : (y.toBitVec.setWidth 32 &&& 127#32).toNat = y.toBitVec.toNat % 128 := by
    rw [BitVec.toNat_and, BitVec.toNat_setWidth, show (127#32).toNat = 2 ^ 7 - 1 from rfl, Nat.and_two_pow_sub_one_eq_mod]
    omega
  rw [h2, BitVec.toInt_eq_toNat_of_lt (by rw [h3]; omega), h3]
theorem lbc_eq (x : Int64) : lbc x = (cntL 64 (n64 x) : Nat) := by
  have hp := popN_eq (n64 x) (n64_lt x)
  obtain ⟨hp, hle, hb⟩ := hp
  rw [← hp]
  unfold lbc
  rw [l7]
  congr 1
  dsimp only at hb
  have eA : n64 (lbA x) = n64 x - ((n64 x / 2) &&& 6148914691236517205) := by
    unfold lbA
    have e : n64 (lUshr x 1 &&& Int64.ofInt 6148914691236517205) = (n64 x / 2) &&& 6148914691236517205 := by
      rw [n64_and, show (1 : Int) = ((1 : Nat) : Int) from rfl, n64_ushr x 1 (by decide)]; rfl
    rw [n64_sub _ _ (by rw [e]; exact hle), e]
  have eB : n64 (lbB (lbA x)) = (n64 (lbA x) &&& 3689348814741910323) + ((n64 (lbA x) / 4) &&& 3689348814741910323) := by
    unfold lbB
    have e1 : n64 (lbA x &&& Int64.ofInt 3689348814741910323) = n64 (lbA x) &&& 3689348814741910323 := by rw [n64_and]; rfl
    have e2 : n64 (lUshr (lbA x) 2 &&& Int64.ofInt 3689348814741910323) = (n64 (lbA x) / 4) &&& 3689348814741910323 := by
      rw [n64_and, show (2 : Int) = ((2 : Nat) : Int) from rfl, n64_ushr _ 2 (by decide)]; rfl
    rw [n64_add _ _ (by rw [e1, e2, eA]; omega), e1, e2]
  have eC : n64 (lbC (lbB (lbA x))) = (n64 (lbB (lbA x)) + n64 (lbB (lbA x)) / 16) &&& 1085102592571150095 := by
    unfold lbC
    have e2 : n64 (lUshr (lbB (lbA x)) 4) = n64 (lbB (lbA x)) / 16 := by
      rw [show (4 : Int) = ((4 : Nat) : Int) from rfl, n64_ushr _ 4 (by decide)]
    rw [n64_and, n64_add _ _ (by rw [e2, eB, eA]; exact hb.2.2.1), e2]; rfl
  have eD : n64 (lbD (lbC (lbB (lbA x)))) = n64 (lbC (lbB (lbA x))) + n64 (lbC (lbB (lbA x))) / 256 := by
    unfold lbD
    have e2 : n64 (lUshr (lbC (lbB (lbA x))) 8) = n64 (lbC (lbB (lbA x))) / 256 := by
      rw [show (8 : Int) = ((8 : Nat) : Int) from rfl, n64_ushr _ 8 (by decide)]
    rw [n64_add _ _ (by rw [e2, eC, eB, eA]; omega), e2]
  have eE : n64 (lbE (lbD (lbC (lbB (lbA x))))) = n64 (lbD (lbC (lbB (lbA x)))) + n64 (lbD (lbC (lbB (lbA x)))) / 65536 := by
    unfold lbE
    have e2 : n64 (lUshr (lbD (lbC (lbB (lbA x)))) 16) = n64 (lbD (lbC (lbB (lbA x)))) / 65536 := by
      rw [show (16 : Int) = ((16 : Nat) : Int) from rfl, n64_ushr _ 16 (by decide)]
    rw [n64_add _ _ (by rw [e2, eD, eC, eB, eA]; omega), e2]
  have eF : n64 (lbF (lbE (lbD (lbC (lbB (lbA x)))))) = n64 (lbE (lbD (lbC (lbB (lbA x))))) + n64 (lbE (lbD (lbC (lbB (lbA x))))) / 4294967296 := by
    unfold lbF
    have e2 : n64 (lUshr (lbE (lbD (lbC (lbB (lbA x))))) 32) = n64 (lbE (lbD (lbC (lbB (lbA x))))) / 4294967296 := by
      rw [show (32 : Int) = ((32 : Nat) : Int) from rfl, n64_ushr _ 32 (by decide)]
    rw [n64_add _ _ (by rw [e2, eE, eD, eC, eB, eA]; omega), e2]
  unfold popN
  rw [eF, eE, eD, eC, eB, eA]
theorem c_lbc {κ : KX} {μ : MM} {ν : ML} {x : Int64} : AE κ 0 mJ13_bitCount [aL x] μ ν (some (aI (lbc x))) μ ν := by
  refine AMet.of kJ13_bitCount.1 (Nat.le_of_ble_eq_true rfl) rfl ?_
  refine aw_blk oJ13_bitCount_0 (pc' := 60) (ls' := [_, _]) (st' := [_]) (cs := []) rfl trivial ?_
  refine aw_iret eJ13_bitCount_60 rfl (Nat.le_refl _) (Nat.le_refl _) ?_
  exact pe_i rfl rfl rfl
def tb (X : Nat) (t : Int) : Int := if X.testBit t.toNat = true then 1 else 0
theorem tb_div (X n : Nat) : ((X / 2 ^ n % 2 : Nat) : Int) = tb X (n : Int) := by
  unfold tb
  rw [Int.toNat_natCast, Nat.testBit_eq_decide_div_mod_eq]
  by_cases h : X / 2 ^ n % 2 = 1
  · simp [h]
  · have : X / 2 ^ n % 2 = 0 := by omega
    simp [this]
theorem cnt_sm (X : Nat) : ∀ n : Nat, ((cntL n X : Nat) : Int) = sm (fun t => tb X t) n
  | 0 => rfl
  | n + 1 => by
    rw [cntL_up, Int.natCast_add, cnt_sm X n, tb_div]
    rfl
theorem tb_bd (X : Nat) (t : Int) : 0 ≤ tb X t ∧ tb X t ≤ 1 := by unfold tb; split <;> decide
theorem lbc_sm (x : Int64) : lbc x = sm (fun t => tb (n64 x) t) 64 := by rw [lbc_eq, cnt_sm]
theorem sm_tail {g : Int → Int} {n : Nat} : ∀ j : Nat, (∀ k : Nat, n ≤ k → k < n + j → g k = 0) → sm g (n + j) = sm g n
  | 0, _ => rfl
  | j + 1, h => by
    rw [show n + (j + 1) = (n + j) + 1 by omega, sm_succ, h (n + j) (by omega) (by omega), Int.add_zero, sm_tail j (fun k h1 h2 => h k h1 (by omega))]

/-! ===== a block of instructions ===== -/
theorem okL_mem {pos : Nat} {w : Cond} (h : okL pos w = true) : w ∈ lwg := by
  simp only [okL, Bool.and_eq_true, decide_eq_true_eq] at h
  exact List.mem_filter.mpr ⟨List.mem_of_getElem? h.1, h.2⟩
def SmallS (S : List SH) : Prop := ∀ (x t n : Nat), S[x]? = some (.inl (t, n)) → n < 2147483648
theorem fit_z {v : Int} (h0 : 0 ≤ v) (h1 : v < 2) : fits .boolean (.int (Int32.ofInt v)) = true := by
  rcases (show v = 0 ∨ v = 1 by omega) with rfl | rfl <;> decide
section BLK
variable {κ : KX} {cx : MX} {p : Program} {l : Launch} {e : Env} {R : Room} {s : State} {m : MethodId} {args : Array Value} {below : List Frame} {meth : Method} {c : Code} {cells slots : Nat} {Q : State → Prop} {S : List SH}
set_option maxHeartbeats 4000000 in
theorem sstep_ok (F : Fx κ cx p s m args meth c) (hS : SmallS S) {ins : Instr} {z : Int} {a b t pos pc : Nat} {ls st ls' st' : List AV} {μ μ' : MM} {ν ν' : ML} {cs cs' : List (Int × Int)} (hd : decode cx.2.1 pc = .ok (ins, iln ins)) (hx : okX cx pc ins z a b t pos = true)
    (hs : sstep ins z a b t ls st S μ ν cs = some (ls', st', μ', ν', cs')) (hc : CS cs') (k : MW κ cx p l e R s m args below meth c cells slots Q S (npc ins b pc) ls' st' μ' ν') : CS cs ∧ MW κ cx p l e R s m args below meth c cells slots Q S pc ls st μ ν := by
  cases ins
  case iconst n => simp only [sstep] at hs; cases hs; exact ⟨hc, ss_iconst F hd k⟩
  case bipush n => simp only [sstep] at hs; cases hs; exact ⟨hc, ss_bipush (of_decide_eq_true hx) F hd k⟩
  case sipush n => simp only [sstep] at hs; cases hs; exact ⟨hc, ss_sipush (of_decide_eq_true hx) F hd k⟩
  case ldc i => simp only [sstep] at hs; cases hs; exact ⟨hc, ss_ldc (okL_mem hx) F hd k⟩
  case ldc_w i => simp only [sstep] at hs; cases hs; exact ⟨hc, ss_ldcw (okL_mem hx) F hd k⟩
  case ldc2_w i => simp only [sstep] at hs; cases hs; exact ⟨hc, ss_ldc2 (okL_mem hx) F hd k⟩
  case iload_n i =>
    simp only [sstep] at hs
    split at hs
    · rename_i x hg; cases hs; exact ⟨hc, ss_iload_n hg F hd k⟩
    · cases hs
  case iload i =>
    simp only [sstep] at hs
    split at hs
    · rename_i x hg; cases hs; exact ⟨hc, ss_iload hg F hd k⟩
    · cases hs
  case lload_n i =>
    simp only [sstep] at hs
    split at hs
    · rename_i x hg; cases hs; exact ⟨hc, ss_lload_n hg F hd k⟩
    · cases hs
  case lload i =>
    simp only [sstep] at hs
    split at hs
    · rename_i x hg; cases hs; exact ⟨hc, ss_lload hg F hd k⟩
    · cases hs
  case aload_n i =>
    simp only [sstep] at hs
    split at hs
    · rename_i x hg; cases hs; exact ⟨hc, ss_aload_n hg F hd k⟩
    · rename_i x hg; cases hs; exact ⟨hc, ss_aloadS_n hg F hd k⟩
    · cases hs
  case aload i =>
    simp only [sstep] at hs
    split at hs
    · rename_i x hg; cases hs; exact ⟨hc, ss_aload hg F hd k⟩
    · rename_i x hg; cases hs; exact ⟨hc, ss_aloadS hg F hd k⟩
    · cases hs
  case istore_n i =>
    simp only [sstep] at hs
    split at hs
    · split at hs
      · rename_i hg; cases hs; exact ⟨hc, ss_istore_n hg F hd k⟩
      · cases hs
    · cases hs
  case istore i =>
    simp only [sstep] at hs
    split at hs
    · split at hs
      · rename_i hg; cases hs; exact ⟨hc, ss_istore hg F hd k⟩
      · cases hs
    · cases hs
  case astore_n i =>
    simp only [sstep] at hs
    split at hs
    · split at hs
      · rename_i hg; cases hs; exact ⟨hc, ss_astore_n hg F hd k⟩
      · cases hs
    · cases hs
  case lstore_n i =>
    simp only [sstep] at hs
    split at hs
    · split at hs
      · rename_i hg; cases hs; exact ⟨hc, ss_lstore_n hg F hd k⟩
      · cases hs
    · cases hs
  case lstore i =>
    simp only [sstep] at hs
    split at hs
    · split at hs
      · rename_i hg; cases hs; exact ⟨hc, ss_lstore hg F hd k⟩
      · cases hs
    · cases hs
  case iinc i n =>
    simp only [sstep] at hs
    split at hs
    · rename_i x hx1
      split at hs
      · rename_i hg; cases hs; exact ⟨hc, ss_iinc hx1 hg F hd k⟩
      · cases hs
    · cases hs
  case iadd =>
    simp only [sstep] at hs
    split at hs
    · cases hs; exact ⟨hc, ss_iadd F hd k⟩
    · cases hs
  case isub =>
    simp only [sstep] at hs
    split at hs
    · cases hs; exact ⟨hc, ss_isub F hd k⟩
    · cases hs
  case imul =>
    simp only [sstep] at hs
    split at hs
    · cases hs; exact ⟨hc, ss_imul F hd k⟩
    · cases hs
  case ineg =>
    simp only [sstep] at hs
    split at hs
    · cases hs; exact ⟨hc, ss_ineg F hd k⟩
    · cases hs
  case iand =>
    simp only [sstep] at hs
    split at hs
    · cases hs; exact ⟨hc, ss_iand F hd k⟩
    · cases hs
  case ior =>
    simp only [sstep] at hs
    split at hs
    · cases hs; exact ⟨hc, ss_ior F hd k⟩
    · cases hs
  case ixor =>
    simp only [sstep] at hs
    split at hs
    · cases hs; exact ⟨hc, ss_ixor F hd k⟩
    · cases hs
  case ishl =>
    simp only [sstep] at hs
    split at hs
    · cases hs; exact ⟨hc, ss_ishl F hd k⟩
    · cases hs
  case ishr =>
    simp only [sstep] at hs
    split at hs
    · cases hs; exact ⟨hc, ss_ishr F hd k⟩
    · cases hs
  case iushr =>
    simp only [sstep] at hs
    split at hs
    · cases hs; exact ⟨hc, ss_iushr F hd k⟩
    · cases hs
  case ladd =>
    simp only [sstep] at hs
    split at hs
    · cases hs; exact ⟨hc, ss_ladd F hd k⟩
    · cases hs
  case lsub =>
    simp only [sstep] at hs
    split at hs
    · cases hs; exact ⟨hc, ss_lsub F hd k⟩
    · cases hs
  case land =>
    simp only [sstep] at hs
    split at hs
    · cases hs; exact ⟨hc, ss_land F hd k⟩
    · cases hs
  case lor =>
    simp only [sstep] at hs
    split at hs
    · cases hs; exact ⟨hc, ss_lor F hd k⟩
    · cases hs
  case lxor =>
    simp only [sstep] at hs
    split at hs
    · cases hs; exact ⟨hc, ss_lxor F hd k⟩
    · cases hs
  case lushr =>
    simp only [sstep] at hs
    split at hs
    · cases hs; exact ⟨hc, ss_lushr F hd k⟩
    · cases hs
  case lshl =>
    simp only [sstep] at hs
    split at hs
    · cases hs; exact ⟨hc, ss_lshl F hd k⟩
    · cases hs
  case l2i =>
    simp only [sstep] at hs
    split at hs
    · cases hs; exact ⟨hc, ss_l2i F hd k⟩
    · cases hs
  case dup2 =>
    simp only [sstep] at hs
    split at hs
    · cases hs; exact ⟨hc, ss_dup2 F hd k⟩
    · cases hs
  case idiv =>
    simp only [sstep] at hs
    split at hs
    · cases hs; exact ⟨hc.2, ss_idiv hc.1 F hd k⟩
    · cases hs
  case irem =>
    simp only [sstep] at hs
    split at hs
    · cases hs; exact ⟨hc.2, ss_irem hc.1 F hd k⟩
    · cases hs
  case dup =>
    simp only [sstep] at hs
    split at hs
    · cases hs; exact ⟨hc, ss_dupI F hd k⟩
    · cases hs; exact ⟨hc, ss_dupR F hd k⟩
    · cases hs
  case goto off => simp only [sstep] at hs; cases hs; exact ⟨hc, ss_goto (of_decide_eq_true hx) F hd k⟩
  case getstatic i =>
    simp only [sstep] at hs
    cases hs
    simp only [okX, Bool.and_eq_true] at hx
    exact ⟨hc, ss_getstatic (of_decide_eq_true hx.1) (okL_mem hx.2) F hd k⟩
  case getfield i =>
    simp only [sstep] at hs
    simp only [okX, Bool.and_eq_true, decide_eq_true_eq] at hx
    obtain ⟨rfl, hx⟩ := hx
    cases hcl : classes[a]? with
    | none => rw [hcl] at hx; cases hx
    | some q =>
      obtain ⟨C, T, N⟩ := q
      rw [hcl] at hx
      simp only [Bool.and_eq_true, decide_eq_true_eq] at hx
      split at hs
      · split at hs
        · rename_i hsh
          split at hs
          · rename_i hbeq
            have hbe := Nat.eq_of_beq_eq_true hbeq
            subst hbe
            rw [gt_eq] at hsh
            split at hs
            · rename_i hf
              rw [gt_eq] at hf
              cases hs
              exact ⟨hc, ss_getI hcl hx.1 (okL_mem hx.2) hsh hf F hd k⟩
            · rename_i hf
              rw [gt_eq] at hf
              cases hs
              exact ⟨hc, ss_getR hcl hx.1 (okL_mem hx.2) hsh hf F hd k⟩
            · cases hs
          · cases hs
        · cases hs
      · cases hs
  case putfield i =>
    simp only [sstep] at hs
    simp only [okX, Bool.and_eq_true, decide_eq_true_eq] at hx
    obtain ⟨rfl, hx⟩ := hx
    cases hcl : classes[a]? with
    | none => rw [hcl] at hx; cases hx
    | some q =>
      obtain ⟨C, T, N⟩ := q
      rw [hcl] at hx
      simp only [Bool.and_eq_true, decide_eq_true_eq] at hx
      obtain ⟨⟨⟨hx1, hx2⟩, hx3⟩, hx4⟩ := hx
      split at hs
      · split at hs
        · rename_i hsh
          split at hs
          · rename_i hbeq
            have hbe := Nat.eq_of_beq_eq_true hbeq
            subst hbe
            rw [gt_eq] at hsh
            split at hs
            · rename_i hf
              rw [gt_eq] at hf
              split at hs
              · cases hs
                exact ⟨hc, ss_putI F hd hcl hx1 (okL_mem hx2) hx3 hx4 rfl rfl hsh hf k⟩
              · rename_i ht
                cases hs
                rw [if_neg ht] at hx4
                exact ⟨hc.2, ss_putI F hd hcl hx1 (okL_mem hx2) hx3 hx4 (nar_z hc.1.1 hc.1.2).1 (fit_z hc.1.1 hc.1.2) hsh hf k⟩
            · cases hs
          · cases hs
        · cases hs
      · cases hs
  case iaload =>
    simp only [sstep] at hs
    split at hs
    · split at hs
      · rename_i hsh
        rw [gt_eq] at hsh
        cases hs
        exact ⟨hc.2, ss_iald F hd hsh hc.1.1 hc.1.2 (hS _ _ _ hsh) k⟩
      · cases hs
    · split at hs
      · rename_i hj
        cases hs
        exact ⟨hc.2, ss_sald F hd (by simpa using hj) hc.1.1 hc.1.2 k⟩
      · cases hs
    · cases hs
  case baload =>
    simp only [sstep] at hs
    split at hs
    · split at hs
      · rename_i hsh
        rw [gt_eq] at hsh
        cases hs
        exact ⟨hc.2, ss_zald F hd hsh hc.1.1 hc.1.2 (hS _ _ _ hsh) k⟩
      · cases hs
    · cases hs
  case laload =>
    simp only [sstep] at hs
    split at hs
    · split at hs
      · rename_i hsh
        rw [gt_eq] at hsh
        cases hs
        exact ⟨hc.2, ss_lald F hd hsh hc.1.1 hc.1.2 (hS _ _ _ hsh) k⟩
      · cases hs
    · cases hs
  case iastore =>
    simp only [sstep] at hs
    split at hs
    · split at hs
      · rename_i hsh
        rw [gt_eq] at hsh
        cases hs
        exact ⟨hc.2, ss_iast F hd hsh hc.1.1 hc.1.2 (hS _ _ _ hsh) k⟩
      · cases hs
    · cases hs
  case bastore =>
    simp only [sstep] at hs
    split at hs
    · split at hs
      · rename_i hsh
        rw [gt_eq] at hsh
        cases hs
        exact ⟨hc.2.2, ss_zast F hd hsh hc.2.1.1 hc.2.1.2 (hS _ _ _ hsh) hc.1.1 hc.1.2 k⟩
      · cases hs
    · cases hs
  case lastore =>
    simp only [sstep] at hs
    split at hs
    · split at hs
      · rename_i hsh
        rw [gt_eq] at hsh
        cases hs
        exact ⟨hc.2, ss_last F hd hsh hc.1.1 hc.1.2 (hS _ _ _ hsh) k⟩
      · cases hs
    · cases hs
  all_goals (exfalso; simp only [sstep] at hs; cases hs)
theorem brun_ok (F : Fx κ cx p s m args meth c) (hS : SmallS S) : ∀ (ops : List OP) {pc pc' : Nat} {ls st ls' st' : List AV} {μ μ' : MM} {ν ν' : ML} {cs cs' : List (Int × Int)}, okB cx pc ops = true → brun ops pc ls st S μ ν cs = some (pc', ls', st', μ', ν', cs') → CS cs' → MW κ cx p l e R s m args below meth c cells slots Q S pc' ls' st' μ' ν' → CS cs ∧ MW κ cx p l e R s m args below meth c cells slots Q S pc ls st μ ν
  | [], pc, pc', ls, st, ls', st', μ, μ', ν, ν', cs, cs', _, hr, hc, k => by
    simp only [brun] at hr
    cases hr
    exact ⟨hc, k⟩
  | (ins, z, a, b, t, pos) :: r, pc, pc', ls, st, ls', st', μ, μ', ν, ν', cs, cs', ho, hr, hc, k => by
    simp only [brun] at hr
    simp only [okB, Bool.and_eq_true] at ho
    split at hr
    · rename_i ls1 st1 μ1 ν1 cs1 hs
      obtain ⟨hc1, k1⟩ := brun_ok F hS r ho.2 hr hc k
      exact sstep_ok F hS (of_decide_eq_true ho.1.1) ho.1.2 hs hc1 k1
    · cases hr
end BLK

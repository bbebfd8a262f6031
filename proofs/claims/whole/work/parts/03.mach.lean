/-! ===== the abstract machine: values, shapes, memory ===== -/
abbrev AV : Type := Int ⊕ (Int64 ⊕ (Nat ⊕ (Nat ⊕ Bool)))
abbrev aI (z : Int) : AV := Sum.inl z
abbrev aL (x : Int64) : AV := Sum.inr (Sum.inl x)
abbrev aR (k : Nat) : AV := Sum.inr (Sum.inr (Sum.inl k))
abbrev aS (j : Nat) : AV := Sum.inr (Sum.inr (Sum.inr (Sum.inl j)))
abbrev aN : AV := Sum.inr (Sum.inr (Sum.inr (Sum.inr false)))
abbrev aU : AV := Sum.inr (Sum.inr (Sum.inr (Sum.inr true)))
/-- lo, static arrays' addresses, class numbers and slots, array classes, the script -/
abbrev KX : Type := Nat × (Nat → Nat) × va_G × (Nat → ClassId) × Nat × (Nat → Int32)
def cvA (κ : KX) : AV → Value
  | .inl z => .int (Int32.ofInt z)
  | .inr (.inl x) => .long x
  | .inr (.inr (.inl k)) => .ref (κ.1 + k)
  | .inr (.inr (.inr (.inl j))) => .ref (κ.2.1 j)
  | .inr (.inr (.inr (.inr _))) => .null
/-- a shape: an array (0 int, 1 boolean, 2 long; its length), or an object (its class; its fields: none an int, some a reference) -/
abbrev SH : Type := (Nat × Nat) ⊕ (Nat × List (Option AV))
abbrev MM : Type := Nat → Int → Int
abbrev ML : Type := Nat → Int → Int64
def up (μ : MM) (c : Nat) (i v : Int) : MM := fun c' i' => if c' = c ∧ i' = i then v else μ c' i'
def upL (ν : ML) (c : Nat) (i : Int) (v : Int64) : ML := fun c' i' => if c' = c ∧ i' = i then v else ν c' i'
def rdF (κ : KX) (μ : MM) (k i : Nat) (f : Option AV) : Value := match f with
  | none => .int (Int32.ofInt (μ k i))
  | some v => cvA κ v
def rdA (ν : ML) (μ : MM) (k t : Nat) : (Nat → Int32) ⊕ (Nat → Int64) ⊕ (Nat → UInt32) ⊕ (Nat → UInt64) ⊕ (Nat → Option Nat) :=
  if t = 2 then .inr (.inl (fun j => ν k (j : Int))) else .inl (fun j => Int32.ofInt (μ k (j : Int)))
def rdC (κ : KX) (μ : MM) (ν : ML) (k : Nat) (sh : SH) : va_E := match sh with
  | .inl (t, n) => .inl (κ.2.2.2.1 t, n, rdA ν μ k t)
  | .inr (ci, fs) => .inr (ci, fs.mapIdx (rdF κ μ k))
def wsA (κ : KX) (S : List SH) (μ : MM) (ν : ML) : va_W := S.mapIdx (fun k sh => (κ.1 + k, rdC κ μ ν k sh))
def Wl (κ : KX) (S : List SH) (μ : MM) (ν : ML) (H : Heap) : Prop := H.size = κ.1 + S.length ∧ va_P κ.2.2.1 classes (wsA κ S μ ν) H
abbrev lwA (κ : KX) : Nat → Prop := fun q => κ.1 ≤ q
def KK (κ : KX) (U : State) : Prop := va_K κ.2.2.1 classes [(κ.2.2.2.1 0, .int), (κ.2.2.2.1 1, .boolean), (κ.2.2.2.1 2, .long)] U
def stN : Nat → String × String
  | 0 => ("FilmLines", "SETTING_LEAST")
  | 1 => ("FilmLines", "SETTING_MOST")
  | 2 => ("FilmLines$Cutter", "WAY_BITS")
  | 3 => ("FilmLines$Cutter", "BLOCK_DOT")
  | _ => ("FilmLines$Cutter", "CORNER_DOT")
def stA : Nat → List Int
  | 0 => [0, 0, 1, 0, 0, 0, 1]
  | 1 => [80, 240, 8, 100, 60, 1000, 9]
  | 2 => [6, 6, 6, 6, 1, 6, 6, 6, 6, 5, 20]
  | 3 => [0, 2, 8, 10]
  | _ => [0, 1, 4, 5]
def stv (j : Nat) (i : Int) : Int := (stA j).getD i.toNat 0
def Stt (κ : KX) (U : State) : Prop := κ.1 ≤ U.heap.size ∧
  (∀ j, j < 5 → va_Z (stN j).1 (stN j).2 "[I" (.ref (κ.2.1 j)) (lwA κ) U U.heap ∧ va_T .int (κ.2.1 j) (stA j).length (fun n => .int (Int32.ofInt ((stA j).getD n 0))) (lwA κ) U U.heap) ∧
  va_X (κ.2.1 5) κ.2.2.2.2.1 κ.2.2.2.2.2 U U.heap ∧ κ.2.1 5 < κ.1
/-- the tables' words that every call may hand on -/
def lwg : List Cond := lw_tbl.filter goodWord
/-- a method: name, bytes, locals, what it returns -/
abbrev MX : Type := MethodName × ByteArray × Nat × Option FieldType
def Fx (κ : KX) (cx : MX) (p : Program) (s : State) (m : MethodId) (args : Array Value) (meth : Method) (c : Code) : Prop :=
  p.tables.exec = Jvm.exec ∧ c.code = cx.2.1 ∧ meth.sig.returnType = cx.2.2.2 ∧ c.maxLocals = cx.2.2.1 ∧ s.vm.findClass cx.1.cls = some m.cls ∧ (∀ w ∈ lwg, w.before args s = true) ∧ meth.locks = false ∧ meth.name = cx.1.name ∧ KK κ s ∧ Stt κ s
def LH (κ : KX) (n : Nat) (lsA : Array Slot) (ls : List AV) : Prop := lsA.size = n ∧ lv_wf lsA ∧ ls.length = n ∧ ∀ (i : Nat) (v : AV), ls[i]? = some v → v ≠ aU → lsA[i]? = some (.val (cvA κ v))
def gt {α : Type} : List α → Nat → Option α
  | [], _ => none
  | a :: _, 0 => some a
  | _ :: r, n + 1 => gt r n
theorem gt_eq {α : Type} : ∀ (l : List α) (n : Nat), gt l n = l[n]?
  | [], n => by simp [gt]
  | a :: r, 0 => by simp [gt]
  | a :: r, n + 1 => by simp [gt, gt_eq r n]
def isLg : Option AV → Bool
  | some (.inr (.inl _)) => true
  | _ => false
def lset (ls : List AV) (i : Nat) (v : AV) : Option (List AV) := match Nat.blt i ls.length && !(Nat.blt 0 i && isLg (gt ls (i - 1))) with
  | true => some (ls.set i v)
  | false => none
def lset2 (ls : List AV) (i : Nat) (v : AV) : Option (List AV) := match Nat.blt (i + 1) ls.length && !(Nat.blt 0 i && isLg (gt ls (i - 1))) with
  | true => some ((ls.set i v).set (i + 1) aU)
  | false => none
def bAnd (a b : Int) : Int := (Int32.ofInt a &&& Int32.ofInt b).toInt
def bOr (a b : Int) : Int := (Int32.ofInt a ||| Int32.ofInt b).toInt
def bXor (a b : Int) : Int := (Int32.ofInt a ^^^ Int32.ofInt b).toInt
def bShl (a b : Int) : Int := (Int32.ofInt a <<< (Int32.ofInt b &&& 31)).toInt
def bShr (a b : Int) : Int := (Int32.ofInt a >>> (Int32.ofInt b &&& 31)).toInt
def bUshr (a b : Int) : Int := (((Int32.ofInt a).toUInt32 >>> ((Int32.ofInt b).toUInt32 &&& Int32.toUInt32 31)).toInt32).toInt
def bDiv (a b : Int) : Int := (Int32.ofInt a / Int32.ofInt b).toInt
def bRem (a b : Int) : Int := (Int32.ofInt a - Int32.ofInt a / Int32.ofInt b * Int32.ofInt b).toInt
def lUshr (x : Int64) (b : Int) : Int64 := (x.toUInt64 >>> ((Int32.ofInt b).toInt64.toUInt64 &&& Int64.toUInt64 63)).toInt64
def lShl (x : Int64) (b : Int) : Int64 := x <<< ((Int32.ofInt b).toInt64 &&& 63)
/-- an instruction, and what it was resolved to: a number, a class, a field or target, a type, the place of its word in lwg -/
abbrev OP : Type := Instr × Int × Nat × Nat × Nat × Nat
abbrev oi (i : Instr) : OP := (i, 0, 0, 0, 0, 0)
abbrev BR : Type := Option (List AV × List AV × MM × ML × List (Int × Int))
def sstep (ins : Instr) (z : Int) (a b t : Nat) (ls st : List AV) (S : List SH) (μ : MM) (ν : ML) (cs : List (Int × Int)) : BR :=
  match ins with
  | .iconst n => some (ls, aI n :: st, μ, ν, cs)
  | .bipush n => some (ls, aI n :: st, μ, ν, cs)
  | .sipush n => some (ls, aI n :: st, μ, ν, cs)
  | .ldc _ => some (ls, aI z :: st, μ, ν, cs)
  | .ldc_w _ => some (ls, aI z :: st, μ, ν, cs)
  | .ldc2_w _ => some (ls, aL (Int64.ofInt z) :: st, μ, ν, cs)
  | .iload_n k => match gt ls k with
    | some (.inl x) => some (ls, aI x :: st, μ, ν, cs)
    | _ => none
  | .iload k => match gt ls k with
    | some (.inl x) => some (ls, aI x :: st, μ, ν, cs)
    | _ => none
  | .lload_n k => match gt ls k with
    | some (.inr (.inl x)) => some (ls, aL x :: st, μ, ν, cs)
    | _ => none
  | .lload k => match gt ls k with
    | some (.inr (.inl x)) => some (ls, aL x :: st, μ, ν, cs)
    | _ => none
  | .aload_n k => match gt ls k with
    | some (.inr (.inr (.inl x))) => some (ls, aR x :: st, μ, ν, cs)
    | some (.inr (.inr (.inr (.inl x)))) => some (ls, aS x :: st, μ, ν, cs)
    | _ => none
  | .aload k => match gt ls k with
    | some (.inr (.inr (.inl x))) => some (ls, aR x :: st, μ, ν, cs)
    | some (.inr (.inr (.inr (.inl x)))) => some (ls, aS x :: st, μ, ν, cs)
    | _ => none
  | .istore_n k => match st with
    | .inl x :: r => match lset ls k (aI x) with
      | some ls' => some (ls', r, μ, ν, cs)
      | none => none
    | _ => none
  | .istore k => match st with
    | .inl x :: r => match lset ls k (aI x) with
      | some ls' => some (ls', r, μ, ν, cs)
      | none => none
    | _ => none
  | .lstore_n k => match st with
    | .inr (.inl x) :: r => match lset2 ls k (aL x) with
      | some ls' => some (ls', r, μ, ν, cs)
      | none => none
    | _ => none
  | .lstore k => match st with
    | .inr (.inl x) :: r => match lset2 ls k (aL x) with
      | some ls' => some (ls', r, μ, ν, cs)
      | none => none
    | _ => none
  | .astore_n k => match st with
    | .inr (.inr (.inl x)) :: r => match lset ls k (aR x) with
      | some ls' => some (ls', r, μ, ν, cs)
      | none => none
    | _ => none
  | .iinc k n => match gt ls k with
    | some (.inl x) => match lset ls k (aI (x + n)) with
      | some ls' => some (ls', st, μ, ν, cs)
      | none => none
    | _ => none
  | .iadd => match st with
    | .inl y :: .inl x :: r => some (ls, aI (x + y) :: r, μ, ν, cs)
    | _ => none
  | .isub => match st with
    | .inl y :: .inl x :: r => some (ls, aI (x - y) :: r, μ, ν, cs)
    | _ => none
  | .imul => match st with
    | .inl y :: .inl x :: r => some (ls, aI (x * y) :: r, μ, ν, cs)
    | _ => none
  | .ineg => match st with
    | .inl x :: r => some (ls, aI (-x) :: r, μ, ν, cs)
    | _ => none
  | .iand => match st with
    | .inl y :: .inl x :: r => some (ls, aI (bAnd x y) :: r, μ, ν, cs)
    | _ => none
  | .ior => match st with
    | .inl y :: .inl x :: r => some (ls, aI (bOr x y) :: r, μ, ν, cs)
    | _ => none
  | .ixor => match st with
    | .inl y :: .inl x :: r => some (ls, aI (bXor x y) :: r, μ, ν, cs)
    | _ => none
  | .ishl => match st with
    | .inl y :: .inl x :: r => some (ls, aI (bShl x y) :: r, μ, ν, cs)
    | _ => none
  | .ishr => match st with
    | .inl y :: .inl x :: r => some (ls, aI (bShr x y) :: r, μ, ν, cs)
    | _ => none
  | .iushr => match st with
    | .inl y :: .inl x :: r => some (ls, aI (bUshr x y) :: r, μ, ν, cs)
    | _ => none
  | .idiv => match st with
    | .inl y :: .inl x :: r => some (ls, aI (bDiv x y) :: r, μ, ν, (y - 1, 2147483647) :: cs)
    | _ => none
  | .irem => match st with
    | .inl y :: .inl x :: r => some (ls, aI (bRem x y) :: r, μ, ν, (y - 1, 2147483647) :: cs)
    | _ => none
  | .ladd => match st with
    | .inr (.inl y) :: .inr (.inl x) :: r => some (ls, aL (x + y) :: r, μ, ν, cs)
    | _ => none
  | .lsub => match st with
    | .inr (.inl y) :: .inr (.inl x) :: r => some (ls, aL (x - y) :: r, μ, ν, cs)
    | _ => none
  | .land => match st with
    | .inr (.inl y) :: .inr (.inl x) :: r => some (ls, aL (x &&& y) :: r, μ, ν, cs)
    | _ => none
  | .lor => match st with
    | .inr (.inl y) :: .inr (.inl x) :: r => some (ls, aL (x ||| y) :: r, μ, ν, cs)
    | _ => none
  | .lxor => match st with
    | .inr (.inl y) :: .inr (.inl x) :: r => some (ls, aL (x ^^^ y) :: r, μ, ν, cs)
    | _ => none
  | .lushr => match st with
    | .inl y :: .inr (.inl x) :: r => some (ls, aL (lUshr x y) :: r, μ, ν, cs)
    | _ => none
  | .lshl => match st with
    | .inl y :: .inr (.inl x) :: r => some (ls, aL (lShl x y) :: r, μ, ν, cs)
    | _ => none
  | .l2i => match st with
    | .inr (.inl x) :: r => some (ls, aI x.toInt32.toInt :: r, μ, ν, cs)
    | _ => none
  | .dup => match st with
    | .inl x :: r => some (ls, aI x :: aI x :: r, μ, ν, cs)
    | .inr (.inr (.inl x)) :: r => some (ls, aR x :: aR x :: r, μ, ν, cs)
    | _ => none
  | .dup2 => match st with
    | .inl y :: .inr (.inr (.inl x)) :: r => some (ls, aI y :: aR x :: aI y :: aR x :: r, μ, ν, cs)
    | _ => none
  | .goto _ => some (ls, st, μ, ν, cs)
  | .getstatic _ => some (ls, aS a :: st, μ, ν, cs)
  | .getfield _ => match st with
    | .inr (.inr (.inl x)) :: r => match gt S x with
      | some (.inr (ci, fs)) => match Nat.beq ci a with
        | true => match gt fs b with
          | some none => some (ls, aI (μ x z) :: r, μ, ν, cs)
          | some (some v) => some (ls, v :: r, μ, ν, cs)
          | none => none
        | false => none
      | _ => none
    | _ => none
  | .putfield _ => match st with
    | .inl y :: .inr (.inr (.inl x)) :: r => match gt S x with
      | some (.inr (ci, fs)) => match Nat.beq ci a with
        | true => match gt fs b with
          | some none => match t with
            | 0 => some (ls, r, up μ x z y, ν, cs)
            | _ => some (ls, r, up μ x z y, ν, (y, 2) :: cs)
          | _ => none
        | false => none
      | _ => none
    | _ => none
  | .iaload => match st with
    | .inl i :: .inr (.inr (.inl x)) :: r => match gt S x with
      | some (.inl (0, n)) => some (ls, aI (μ x i) :: r, μ, ν, (i, (n : Int)) :: cs)
      | _ => none
    | .inl i :: .inr (.inr (.inr (.inl j))) :: r => match Nat.blt j 5 with
      | true => some (ls, aI (stv j i) :: r, μ, ν, (i, ((stA j).length : Int)) :: cs)
      | false => none
    | _ => none
  | .baload => match st with
    | .inl i :: .inr (.inr (.inl x)) :: r => match gt S x with
      | some (.inl (1, n)) => some (ls, aI (μ x i) :: r, μ, ν, (i, (n : Int)) :: cs)
      | _ => none
    | _ => none
  | .laload => match st with
    | .inl i :: .inr (.inr (.inl x)) :: r => match gt S x with
      | some (.inl (2, n)) => some (ls, aL (ν x i) :: r, μ, ν, (i, (n : Int)) :: cs)
      | _ => none
    | _ => none
  | .iastore => match st with
    | .inl y :: .inl i :: .inr (.inr (.inl x)) :: r => match gt S x with
      | some (.inl (0, n)) => some (ls, r, up μ x i y, ν, (i, (n : Int)) :: cs)
      | _ => none
    | _ => none
  | .bastore => match st with
    | .inl y :: .inl i :: .inr (.inr (.inl x)) :: r => match gt S x with
      | some (.inl (1, n)) => some (ls, r, up μ x i y, ν, (y, 2) :: (i, (n : Int)) :: cs)
      | _ => none
    | _ => none
  | .lastore => match st with
    | .inr (.inl y) :: .inl i :: .inr (.inr (.inl x)) :: r => match gt S x with
      | some (.inl (2, n)) => some (ls, r, μ, upL ν x i y, (i, (n : Int)) :: cs)
      | _ => none
    | _ => none
  | _ => none
def iln : Instr → Nat
  | .bipush _ => 2
  | .sipush _ => 3
  | .ldc _ => 2
  | .ldc_w _ => 3
  | .ldc2_w _ => 3
  | .iload _ => 2
  | .lload _ => 2
  | .aload _ => 2
  | .istore _ => 2
  | .lstore _ => 2
  | .iinc _ _ => 3
  | .goto _ => 3
  | .getstatic _ => 3
  | .getfield _ => 3
  | .putfield _ => 3
  | _ => 1
def npc (ins : Instr) (b pc : Nat) : Nat := match ins with
  | .goto _ => b
  | i => pc + iln i
def brun : List OP → Nat → List AV → List AV → List SH → MM → ML → List (Int × Int) → Option (Nat × List AV × List AV × MM × ML × List (Int × Int))
  | [], pc, ls, st, _, μ, ν, cs => some (pc, ls, st, μ, ν, cs)
  | (ins, z, a, b, t, _) :: r, pc, ls, st, S, μ, ν, cs => match sstep ins z a b t ls st S μ ν cs with
    | some (ls', st', μ', ν', cs') => brun r (npc ins b pc) ls' st' S μ' ν' cs'
    | none => none
def CS : List (Int × Int) → Prop
  | [] => True
  | (i, n) :: r => (0 ≤ i ∧ i < n) ∧ CS r
def okL (pos : Nat) (w : Cond) : Bool := decide (lw_tbl[pos]? = some w) && goodWord w
def okX (cx : MX) (pc : Nat) (ins : Instr) (z : Int) (a b t pos : Nat) : Bool := match ins with
  | .bipush n => decide ((Int8.ofInt n).toInt32 = Int32.ofInt n)
  | .sipush n => decide ((Int16.ofInt n).toInt32 = Int32.ofInt n)
  | .ldc i => okL pos (.constant cx.1.cls i (Int32.ofInt z))
  | .ldc_w i => okL pos (.constant cx.1.cls i (Int32.ofInt z))
  | .ldc2_w i => okL pos (.constantLong cx.1.cls i (Int64.ofInt z))
  | .goto off => decide ((pc : Int) + off = (b : Int))
  | .getstatic i => decide (a < 5) && okL pos (.fieldLink cx.1.cls i (stN a).1 (stN a).2 "[I")
  | .getfield i => decide (z = (b : Int)) && (match classes[a]? with
    | some (_, T, N) => decide (b < N) && okL pos (.fieldLink cx.1.cls i (T b).1 (T b).2.1 (T b).2.2.1)
    | none => false)
  | .putfield i => decide (z = (b : Int)) && (match classes[a]? with
    | some (_, T, N) => decide (b < N) && okL pos (.fieldLink cx.1.cls i (T b).1 (T b).2.1 (T b).2.2.1) && decide ((T b).2.2.2 = false) && decide (parseFieldDescriptor (T b).2.2.1 = some (if t = 0 then .int else .boolean))
    | none => false)
  | _ => true
def okB (cx : MX) : Nat → List OP → Bool
  | _, [] => true
  | pc, (ins, z, a, b, t, pos) :: r => decide (decode cx.2.1 pc = .ok (ins, iln ins)) && okX cx pc ins z a b t pos && okB cx (npc ins b pc) r

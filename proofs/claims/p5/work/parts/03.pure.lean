/-! ===== THE PURE MACHINE: the instructions that the code uses, over a list of cells; no table, no launch ===== -/
/-- a cell: an int array (length, places), an array of references (number of the class, length, places), an object (number of the class, fields) -/
abbrev PE : Type := (Nat × (Nat → Int32)) ⊕ ((Nat × Nat × (Nat → Option Nat)) ⊕ (Nat × List Value))
abbrev PH : Type := List PE
abbrev PV : Type := List (Nat × Value)
def gl (lv : PV) (i : Nat) : Option Value := (lv.find? (fun q => q.1 == i)).map (fun q => q.2)
def sl1 (lv : PV) (i : Nat) (v : Value) : PV := (i, v) :: lv.filter (fun q => !(q.1 == i) && !(q.1 + 1 == i && q.2.category == 2))
def sl2 (lv : PV) (i : Nat) (v : Value) : PV := (i, v) :: lv.filter (fun q => !(q.1 == i) && (!(q.1 == i + 1) && !(q.1 + 1 == i && q.2.category == 2)))
def tg (pc : Nat) (o : Int) : Option Nat := if 0 ≤ (pc : Int) + o then some ((pc : Int) + o).toNat else none
def goB (b : Bool) (pc : Nat) (o : Int) (lv : PV) (r : List Value) : Option (Nat × PV × List Value) := (tg pc o).map (fun t => (if b = true then t else pc + 3, lv, r))
/-- constants and loads -/
def x_ld (i : Instr) (len pc : Nat) (lv : PV) (st : List Value) : Option (Nat × PV × List Value) := match i with
  | .iconst v => if len = 1 then some (pc + 1, lv, .int (Int32.ofInt v) :: st) else none
  | .bipush v => if len = 2 then some (pc + 2, lv, .int (Int8.ofInt v).toInt32 :: st) else none
  | .sipush v => if len = 3 then some (pc + 3, lv, .int (Int16.ofInt v).toInt32 :: st) else none
  | .lconst n => if len = 1 then some (pc + 1, lv, .long (Int64.ofNat (n : Nat)) :: st) else none
  | .iload k => if len = 2 then (match gl lv k with | some (.int x) => some (pc + 2, lv, .int x :: st) | _ => none) else none
  | .iload_n k => if len = 1 then (match gl lv (k : Nat) with | some (.int x) => some (pc + 1, lv, .int x :: st) | _ => none) else none
  | .lload k => if len = 2 then (match gl lv k with | some (.long x) => some (pc + 2, lv, .long x :: st) | _ => none) else none
  | .lload_n k => if len = 1 then (match gl lv (k : Nat) with | some (.long x) => some (pc + 1, lv, .long x :: st) | _ => none) else none
  | .aload k => if len = 2 then (match gl lv k with | some (.ref x) => some (pc + 2, lv, .ref x :: st) | some .null => some (pc + 2, lv, .null :: st) | _ => none) else none
  | .aload_n k => if len = 1 then (match gl lv (k : Nat) with | some (.ref x) => some (pc + 1, lv, .ref x :: st) | some .null => some (pc + 1, lv, .null :: st) | _ => none) else none
  | _ => none
/-- stores -/
def x_st (nL : Nat) (i : Instr) (len pc : Nat) (lv : PV) (st : List Value) : Option (Nat × PV × List Value) := match i with
  | .istore k => if len = 2 then (if k < nL then (match st with | .int x :: r => some (pc + 2, sl1 lv k (.int x), r) | _ => none) else none) else none
  | .istore_n k => if len = 1 then (if (k : Nat) < nL then (match st with | .int x :: r => some (pc + 1, sl1 lv (k : Nat) (.int x), r) | _ => none) else none) else none
  | .lstore k => if len = 2 then (if k + 1 < nL then (match st with | .long x :: r => some (pc + 2, sl2 lv k (.long x), r) | _ => none) else none) else none
  | .lstore_n k => if len = 1 then (if (k : Nat) + 1 < nL then (match st with | .long x :: r => some (pc + 1, sl2 lv (k : Nat) (.long x), r) | _ => none) else none) else none
  | .astore k => if len = 2 then (if k < nL then (match st with | .ref x :: r => some (pc + 2, sl1 lv k (.ref x), r) | .null :: r => some (pc + 2, sl1 lv k .null, r) | _ => none) else none) else none
  | .astore_n k => if len = 1 then (if (k : Nat) < nL then (match st with | .ref x :: r => some (pc + 1, sl1 lv (k : Nat) (.ref x), r) | .null :: r => some (pc + 1, sl1 lv (k : Nat) .null, r) | _ => none) else none) else none
  | .iinc k n => if len = 3 then (if k < nL then (match gl lv k with | some (.int x) => some (pc + 3, sl1 lv k (.int (x + Int32.ofInt n)), st) | _ => none) else none) else none
  | _ => none
/-- arithmetic and the stack -/
def x_ar (i : Instr) (len pc : Nat) (lv : PV) (st : List Value) : Option (Nat × PV × List Value) := if len = 1 then (match i with
  | .iadd => (match st with | .int y :: .int x :: r => some (pc + 1, lv, .int (x + y) :: r) | _ => none)
  | .isub => (match st with | .int y :: .int x :: r => some (pc + 1, lv, .int (x - y) :: r) | _ => none)
  | .imul => (match st with | .int y :: .int x :: r => some (pc + 1, lv, .int (x * y) :: r) | _ => none)
  | .iand => (match st with | .int y :: .int x :: r => some (pc + 1, lv, .int (x &&& y) :: r) | _ => none)
  | .ior => (match st with | .int y :: .int x :: r => some (pc + 1, lv, .int (x ||| y) :: r) | _ => none)
  | .ixor => (match st with | .int y :: .int x :: r => some (pc + 1, lv, .int (x ^^^ y) :: r) | _ => none)
  | .idiv => (match st with | .int y :: .int x :: r => if y = 0 then none else some (pc + 1, lv, .int (x / y) :: r) | _ => none)
  | .irem => (match st with | .int y :: .int x :: r => if y = 0 then none else some (pc + 1, lv, .int (x - x / y * y) :: r) | _ => none)
  | .ineg => (match st with | .int x :: r => some (pc + 1, lv, .int (-x) :: r) | _ => none)
  | .ishl => (match st with | .int y :: .int x :: r => some (pc + 1, lv, .int (x <<< (y &&& 31)) :: r) | _ => none)
  | .ishr => (match st with | .int y :: .int x :: r => some (pc + 1, lv, .int (x >>> (y &&& 31)) :: r) | _ => none)
  | .ladd => (match st with | .long y :: .long x :: r => some (pc + 1, lv, .long (x + y) :: r) | _ => none)
  | .lsub => (match st with | .long y :: .long x :: r => some (pc + 1, lv, .long (x - y) :: r) | _ => none)
  | .lmul => (match st with | .long y :: .long x :: r => some (pc + 1, lv, .long (x * y) :: r) | _ => none)
  | .ldiv => (match st with | .long y :: .long x :: r => if y = 0 then none else some (pc + 1, lv, .long (x / y) :: r) | _ => none)
  | .lcmp => (match st with | .long y :: .long x :: r => some (pc + 1, lv, .int (lg_cmp x y) :: r) | _ => none)
  | .i2l => (match st with | .int x :: r => some (pc + 1, lv, .long x.toInt64 :: r) | _ => none)
  | .l2i => (match st with | .long x :: r => some (pc + 1, lv, .int x.toInt32 :: r) | _ => none)
  | .dup => (match st with | a :: r => if a.category = 1 then some (pc + 1, lv, a :: a :: r) else none | _ => none)
  | .pop => (match st with | a :: r => if a.category = 1 then some (pc + 1, lv, r) else none | _ => none)
  | .pop2 => (match st with | a :: r => if a.category = 2 then some (pc + 1, lv, r) else none | _ => none)
  | .dup2 => (match st with | a :: b :: r => if a.category = 1 ∧ b.category = 1 then some (pc + 1, lv, a :: b :: a :: b :: r) else none | _ => none)
  | _ => none) else none
/-- branches -/
def x_br (i : Instr) (len pc : Nat) (lv : PV) (st : List Value) : Option (Nat × PV × List Value) := match i with
  | .ifCond .eq o => if len = 3 then (match st with | .int x :: r => goB (decide (x = 0)) pc o lv r | _ => none) else none
  | .ifCond .ne o => if len = 3 then (match st with | .int x :: r => goB (decide (¬ x = 0)) pc o lv r | _ => none) else none
  | .ifCond .lt o => if len = 3 then (match st with | .int x :: r => goB (decide (x < 0)) pc o lv r | _ => none) else none
  | .ifCond .ge o => if len = 3 then (match st with | .int x :: r => goB (decide (0 ≤ x)) pc o lv r | _ => none) else none
  | .ifCond .gt o => if len = 3 then (match st with | .int x :: r => goB (decide (0 < x)) pc o lv r | _ => none) else none
  | .ifCond .le o => if len = 3 then (match st with | .int x :: r => goB (decide (x ≤ 0)) pc o lv r | _ => none) else none
  | .if_icmp .eq o => if len = 3 then (match st with | .int y :: .int x :: r => goB (decide (x = y)) pc o lv r | _ => none) else none
  | .if_icmp .ne o => if len = 3 then (match st with | .int y :: .int x :: r => goB (decide (¬ x = y)) pc o lv r | _ => none) else none
  | .if_icmp .lt o => if len = 3 then (match st with | .int y :: .int x :: r => goB (decide (x < y)) pc o lv r | _ => none) else none
  | .if_icmp .ge o => if len = 3 then (match st with | .int y :: .int x :: r => goB (decide (y ≤ x)) pc o lv r | _ => none) else none
  | .if_icmp .gt o => if len = 3 then (match st with | .int y :: .int x :: r => goB (decide (y < x)) pc o lv r | _ => none) else none
  | .if_icmp .le o => if len = 3 then (match st with | .int y :: .int x :: r => goB (decide (x ≤ y)) pc o lv r | _ => none) else none
  | .goto o => if len = 3 then (tg pc o).map (fun t => (t, lv, st)) else none
  | .ifnonnull o => if len = 3 then (match st with | .ref _ :: r => (tg pc o).map (fun t => (t, lv, r)) | .null :: r => some (pc + 3, lv, r) | _ => none) else none
  | .ifnull o => if len = 3 then (match st with | .ref _ :: r => some (pc + 3, lv, r) | .null :: r => (tg pc o).map (fun t => (t, lv, r)) | _ => none) else none
  | .tableswitch dflt lo hi offs => (match st with
    | .int x :: r => if x.toInt < lo ∨ hi < x.toInt then (tg pc dflt).map (fun t => (t, lv, r)) else (match offs[(x.toInt - lo).toNat]? with | some o => (tg pc o).map (fun t => (t, lv, r)) | none => none)
    | _ => none)
  | _ => none
def flF (c ix : Nat) : Option (Nat × Nat) := (flT.find? (fun q => q.1 == c && q.2.1 == ix)).map (fun q => (q.2.2.1, q.2.2.2.1))
def mlF (c ix : Nat) : Option Nat := (mlT.find? (fun q => q.1 == c && q.2.1 == ix)).map (fun q => q.2.2.1)
def nlF (c ix : Nat) : Option Nat := (nlT.find? (fun q => q.1 == c && q.2.1 == ix)).map (fun q => q.2.2.1)
def clF (c ix : Nat) : Option Nat := (clT.find? (fun q => q.1 == c && q.2.1 == ix)).map (fun q => q.2.2.1)
def klF (c ix : Nat) : Option Int64 := (klT.find? (fun q => q.1 == c && q.2.1 == ix)).map (fun q => q.2.2.1)
def oiF (c ix : Nat) : Bool := oiT.any (fun q => q.1 == c && q.2.1 == ix)
def acF (c ix : Nat) : Bool := acT.any (fun q => q.1 == c && q.2.1 == ix)
def gsF (c ix : Nat) : Bool := gsT.any (fun q => q.1 == c && q.2.1 == ix)
def aoK (ci : Nat) : Bool := aoP.any (fun q => q.1 == ci)
def fitV (ty : FieldType) (v : Value) : Bool := decide (narrow ty v = v) && fits ty v
def catS (st : List Value) : Nat := (st.map fun v => v.category).sum
/-- the heap: fields, arrays, what is new -/
def x_hp (c d : Nat) (ini : Bool) (i : Instr) (len pc : Nat) (st : List Value) (h : PH) (nc ns : Nat) : Option (Nat × List Value × PH × Nat × Nat) := match i with
  | .getfield ix => if len = 3 then (match st with
    | .ref v :: r => (match flF c ix with
      | some (ci, k) => (match h[v]? with
        | some (.inr (.inr (cj, fs))) => if cj = ci ∧ 2 ≤ v then (match fs[k]? with | some x => some (pc + 3, x :: r, h, nc, ns) | none => none) else none
        | _ => none)
      | none => none)
    | _ => none) else none
  | .putfield ix => if len = 3 then (match st with
    | x :: .ref v :: r => (match flF c ix with
      | some (ci, k) => (match h[v]? with
        | some (.inr (.inr (cj, fs))) => (match cls[ci]?, tyL[ci]? with
          | some q, some t => if cj = ci ∧ 2 ≤ v ∧ k < fs.length ∧ k < q.2.2 ∧ fitV (t k) x = true ∧ ((q.2.1 k).2.2.2 = true → ini = true ∧ ci = c) then some (pc + 3, r, h.set v (.inr (.inr (ci, fs.set k x))), nc, ns) else none
          | _, _ => none)
        | _ => none)
      | none => none)
    | _ => none) else none
  | .iaload => if len = 1 then (match st with
    | .int j :: .ref v :: r => (match h[v]? with
      | some (.inl (n, f)) => if 0 ≤ j ∧ j.toNatClampNeg < n then some (pc + 1, .int (f j.toNatClampNeg) :: r, h, nc, ns) else none
      | _ => none)
    | _ => none) else none
  | .iastore => if len = 1 then (match st with
    | .int x :: .int j :: .ref v :: r => (match h[v]? with
      | some (.inl (n, f)) => if 0 ≤ j ∧ j.toNatClampNeg < n ∧ 2 ≤ v then some (pc + 1, r, h.set v (.inl (n, upd f j.toNatClampNeg x)), nc, ns) else none
      | _ => none)
    | _ => none) else none
  | .aaload => if len = 1 then (match st with
    | .int j :: .ref v :: r => (match h[v]? with
      | some (.inr (.inl (ci, n, f))) => if 0 ≤ j ∧ j.toNatClampNeg < n ∧ 2 ≤ v ∧ aoK ci = true then some (pc + 1, va_rf (f j.toNatClampNeg) :: r, h, nc, ns) else none
      | _ => none)
    | _ => none) else none
  | .aastore => if len = 1 then (match st with
    | .ref w :: .int j :: .ref v :: r => (match h[v]?, h[w]? with
      | some (.inr (.inl (ci, n, f))), some (.inr (.inr (cj, _))) => if cj = ci ∧ 0 ≤ j ∧ j.toNatClampNeg < n ∧ 2 ≤ v ∧ 2 ≤ w ∧ aoK ci = true then some (pc + 1, r, h.set v (.inr (.inl (ci, n, va_up f j.toNatClampNeg (some w)))), nc, ns) else none
      | _, _ => none)
    | _ => none) else none
  | .arraylength => if len = 1 then (match st with
    | .ref v :: r => (match h[v]? with
      | some (.inl (n, _)) => some (pc + 1, .int (Int32.ofNat n) :: r, h, nc, ns)
      | some (.inr (.inl (ci, n, _))) => if 2 ≤ v ∧ aoK ci = true then some (pc + 1, .int (Int32.ofNat n) :: r, h, nc, ns) else none
      | _ => none)
    | _ => none) else none
  | .newarray t => if len = 2 ∧ t = .int then (match st with
    | .int n :: r => if 0 ≤ n ∧ n.toNatClampNeg ≤ 100000 then some (pc + 2, .ref h.length :: r, h ++ [.inl (n.toNatClampNeg, fun _ => 0)], nc + 1, ns + n.toNatClampNeg) else none
    | _ => none) else none
  | .anewarray ix => if len = 3 then (match st with
    | .int n :: r => (match clF c ix with
      | some ci => if 0 ≤ n ∧ n.toNatClampNeg ≤ 100000 ∧ aoK ci = true then some (pc + 3, .ref h.length :: r, h ++ [.inr (.inl (ci, n.toNatClampNeg, fun _ => none))], nc + 1, ns + n.toNatClampNeg) else none
      | none => none)
    | _ => none) else none
  | .new ix => if len = 3 then (match clF c ix with
    | some ci => (match cls[ci]?, dfL[ci]? with
      | some q, some fs => some (pc + 3, .ref h.length :: st, h ++ [.inr (.inr (ci, fs))], nc + 1, ns + q.2.2)
      | _, _ => none)
    | none => none) else none
  | .getstatic ix => if len = 3 ∧ gsF c ix = true then some (pc + 3, .ref 1 :: st, h, nc, ns) else none
  | .ldc2_w ix => if len = 3 then (match klF c ix with | some v => some (pc + 3, .long v :: st, h, nc, ns) | none => none) else none
  | .invokespecial ix => if len = 3 ∧ oiF c ix = true ∧ 1 ≤ d then (match st with
    | .ref _ :: r => if catS r ≤ 8 then some (pc + 3, r, h, nc, ns) else none
    | _ => none) else none
  | .invokestatic ix => if len = 3 ∧ acF c ix = true ∧ 1 ≤ d then (match st with
    | .int n :: .int dp :: .ref w :: .int sp :: .ref v :: r => (match h[v]?, h[w]? with
      | some (.inl (n0, f)), some (.inl (n1, g)) => if 2 ≤ v ∧ 2 ≤ w ∧ 0 ≤ sp ∧ 0 ≤ dp ∧ 0 ≤ n ∧ sp.toNatClampNeg + n.toNatClampNeg ≤ n0 ∧ dp.toNatClampNeg + n.toNatClampNeg ≤ n1 ∧ catS r ≤ 8 then some (pc + 3, r, h.set w (.inl (n1, va_cpy f g sp.toNatClampNeg dp.toNatClampNeg n.toNatClampNeg)), nc, ns) else none
      | _, _ => none)
    | _ => none) else none
  | _ => none
def mY (M : MR) : MethodName := M.1
def mC (M : MR) : ByteArray := M.2.1
def mL (M : MR) : Nat := M.2.2.1
def mR (M : MR) : Option FieldType := M.2.2.2.1
def mO (M : MR) : Nat := M.2.2.2.2.1
def mN (M : MR) : Nat := M.2.2.2.2.2.1
def mK (M : MR) : Nat := M.2.2.2.2.2.2
/-- a call: the callee's number, its arguments (the receiver first), what is left of the stack -/
def x_ca (c : Nat) (i : Instr) (len : Nat) (st : List Value) (h : PH) : Option (Nat × List Value × List Value) := if len = 3 then (match i with
  | .invokevirtual ix => (match mlF c ix with
    | some k => (match mT[k]? with
      | some K => (match st.drop (mN K) with
        | .ref v :: r => (match h[v]? with
          | some (.inr (.inr (ci, _))) => if k ≠ 0 ∧ mK K = 0 ∧ mO K = ci ∧ 2 ≤ v ∧ catS r ≤ 8 then some (k, .ref v :: (st.take (mN K)).reverse, r) else none
          | _ => none)
        | _ => none)
      | none => none)
    | none => none)
  | .invokestatic ix => (match mlF c ix with
    | some k => (match mT[k]? with
      | some K => if k ≠ 0 ∧ mK K = 1 ∧ mN K ≤ st.length ∧ catS (st.drop (mN K)) ≤ 8 then some (k, (st.take (mN K)).reverse, st.drop (mN K)) else none
      | none => none)
    | none => none)
  | .invokespecial ix => (match mlF c ix, nlF c ix with
    | some k, _ => (match mT[k]? with
      | some K => (match st.drop (mN K) with
        | .ref v :: r => if k ≠ 0 ∧ mK K = 2 ∧ catS r ≤ 8 then some (k, .ref v :: (st.take (mN K)).reverse, r) else none
        | _ => none)
      | none => none)
    | none, some k => (match mT[k]? with
      | some K => (match st.drop (mN K) with
        | .ref v :: r => if k ≠ 0 ∧ mK K = 2 ∧ catS r ≤ 8 then some (k, .ref v :: (st.take (mN K)).reverse, r) else none
        | _ => none)
      | none => none)
    | none, none => none)
  | _ => none) else none
/-- an end: what it answers -/
def x_re (M : MR) (i : Instr) (len : Nat) (st : List Value) : Option (Option Value) := if len = 1 then (match i with
  | .return_ => (match st with | [] => if mR M = none then some none else none | _ => none)
  | .ireturn => (match st with | [.int v] => if mR M = some .int ∨ (mR M = some .boolean ∧ (v = 0 ∨ v = 1)) then some (some (.int v)) else none | _ => none)
  | .lreturn => (match st with | [.long v] => if mR M = some .long then some (some (.long v)) else none | _ => none)
  | .areturn => (match st with | [.ref v] => (match mR M with | some (.object _) => some (some (.ref v)) | _ => none) | _ => none)
  | _ => none) else none
abbrev Sg : Type := Nat × PV × List Value × PH × Nat × Nat
/-- one instruction that is neither a call nor an end -/
def stp (M : MR) (d : Nat) (i : Instr) (len : Nat) (q : Sg) : Option Sg :=
  match x_ld i len q.1 q.2.1 q.2.2.1 with
  | some a => some (a.1, a.2.1, a.2.2, q.2.2.2)
  | none => match x_st (mL M) i len q.1 q.2.1 q.2.2.1 with
    | some a => some (a.1, a.2.1, a.2.2, q.2.2.2)
    | none => match x_ar i len q.1 q.2.1 q.2.2.1 with
      | some a => some (a.1, a.2.1, a.2.2, q.2.2.2)
      | none => match x_br i len q.1 q.2.1 q.2.2.1 with
        | some a => some (a.1, a.2.1, a.2.2, q.2.2.2)
        | none => match x_hp (mO M) d (mK M == 2) i len q.1 q.2.2.1 q.2.2.2.1 q.2.2.2.2.1 q.2.2.2.2.2 with
          | some a => some (a.1, q.2.1, a.2)
          | none => none
/-- n: the steps allowed; d: the frames allowed above; mi: the method's number -/
def run : Nat → Nat → Nat → Sg → Option (Option Value × PH × Nat × Nat)
  | 0, _, _, _ => none
  | n + 1, d, mi, q => match mT[mi]? with
    | none => none
    | some M => match decode (mC M) q.1 with
      | .error _ => none
      | .ok (i, len) => match x_ca (mO M) i len q.2.2.1 q.2.2.2.1 with
        | some (k, as, r) => match d with
          | 0 => none
          | d' + 1 => match mT[k]? with
            | none => none
            | some K => if (lg_sl as).length ≤ mL K then (match run n d' k (0, lv_args 0 as, [], q.2.2.2.1, 0, 0) with
              | some (v, h', nc, ns) => run n (d' + 1) mi (q.1 + 3, q.2.1, v.toList ++ r, h', q.2.2.2.2.1 + nc, q.2.2.2.2.2 + ns)
              | none => none) else none
        | none => match x_re M i len q.2.2.1 with
          | some v => some (v, q.2.2.2)
          | none => match stp M d i len q with
            | some q' => run n d mi q'
            | none => none

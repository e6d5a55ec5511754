/-! ===== the abstract machine: the heap, calls, ends ===== -/
/-- a value with a cell known to hold it -/
def cadd (r j : Nat) (v : YV) (Y : YE) (K : YE → YR) : YR := match Y with
  | (n, E, C) => K (n, E, (r, j, v) :: C)
noncomputable def y_getfield : YP := fun ih e full rest lv st Y d => match st with
  | v :: s => refK Y.2.1 v fun r t => (match tyT[t]? with
    | some (.inr (.inr (ci, fts))) => bif Nat.beq ci e.2.2.1 then (match cget r e.2.2.2.1 Y.2.2 with
      | some w => ih full rest lv (w :: s) Y d
      | none => (match fts[e.2.2.2.1]? with
        | some p => bif Nat.ble p.1 2 then frK p Y fun w Y => (bif Nat.beq p.1 1 then ih full rest lv (w :: s) Y d else cadd r e.2.2.2.1 w Y fun Y => ih full rest lv (w :: s) Y d) else none
        | none => none)) else none
    | _ => none)
  | _ => none
/-- a field's kind fits its range: 0 an int, 1 a boolean, 2 a long -/
def putK (x : Nat) (p : FT) : Bool := match x with
  | 0 => Nat.beq p.1 0
  | 1 => subT p (0, 2147483648, 2147483649)
  | 2 => Nat.beq p.1 1
  | _ => false
noncomputable def y_putfield (mk : Nat) : YP := fun ih e full rest lv st Y d => match st with
  | x :: v :: s => refK Y.2.1 v fun r t => (match tyT[t]? with
    | some (.inr (.inr (ci, fts))) => (match fts[e.2.2.2.1]? with
      | some p => bif Nat.beq ci e.2.2.1 && Nat.testBit mk t && putK e.2.2.2.2.1 p && !(prW t e.2.2.2.1) && subT (knd Y.2.1 x) p then
          cdel Y.2.1 t e.2.2.2.1 Y.2.2 fun C => (bif Nat.beq p.1 0 then cadd r e.2.2.2.1 x (Y.1, Y.2.1, C) fun Y => ih full rest lv s Y d else ih full rest lv s (Y.1, Y.2.1, C) d) else none
      | none => none)
    | _ => none)
  | _ => none
def emp (l : List (FT × FT)) : Bool := match l with
  | [] => true
  | _ => false
noncomputable def y_iaload : YP := fun ih e full rest lv st Y d => match st with
  | j :: v :: s => refK Y.2.1 v fun r t => (match tyT[t]? with
    | some (.inl (n, rs, _, _)) => rngK Y.2.1 j fun a b => bif Nat.ble oZ a && Nat.blt b (oZ + n) then
        (bif emp rs || !(Nat.beq a b) then frK full32 Y fun w Y => ih full rest lv (w :: s) Y d
         else fN (a - oZ) fun i => match cget r i Y.2.2 with
          | some w => ih full rest lv (w :: s) Y d
          | none => (match rs[i]? with
            | some p => frK p.1 Y fun w Y => cadd r i w Y fun Y => ih full rest lv (w :: s) Y d
            | none => frK full32 Y fun w Y => cadd r i w Y fun Y => ih full rest lv (w :: s) Y d)) else none
    | _ => none)
  | _ => none
/-- what may be put at a place -/
def wrB (rs : List (FT × FT)) (i lo hi c e : Nat) : Bool := match rs[i]? with
  | some p => subT (0, c, e) p.1 && subT (0, c, e) p.2
  | none => Nat.ble lo i && Nat.blt i hi
noncomputable def y_iastore (mk : Nat) : YP := fun ih e full rest lv st Y d => match st with
  | x :: j :: v :: s => refK Y.2.1 v fun r t => (match tyT[t]? with
    | some (.inl (n, rs, lo, hi)) => rngK Y.2.1 j fun a b => rngK Y.2.1 x fun c e => bif Nat.ble oZ a && Nat.blt b (oZ + n) && Nat.testBit mk t && !(Nat.beq t 1) then
        (bif emp rs then cmsk Y.2.1 (2 ^ t) Y.2.2 fun C => ih full rest lv s (Y.1, Y.2.1, C) d
         else bif Nat.beq a b then fN (a - oZ) fun i => (bif wrB rs i lo hi c e then cdel Y.2.1 t i Y.2.2 fun C => cadd r i x (Y.1, Y.2.1, C) fun Y => ih full rest lv s Y d else none)
         else bif Nat.ble (oZ + rs.length) a && Nat.ble (oZ + lo) a && Nat.blt b (oZ + hi) then fN (a - oZ) fun a => fN (b - oZ) fun b => cwin Y.2.1 t a b Y.2.2 fun C => ih full rest lv s (Y.1, Y.2.1, C) d else none) else none
    | _ => none)
  | _ => none
/-- an index as a key: a number below 64, or a sign -/
def keyY (v : YV) : Nat := match v with
  | .inl c => c - oZ
  | .inr k => 64 + k
noncomputable def y_aaload : YP := fun ih e full rest lv st Y d => match st with
  | j :: v :: s => refK Y.2.1 v fun r t => (match tyT[t]? with
    | some (.inr (.inl (ci, n, u))) => rngK Y.2.1 j fun a b => bif Nat.ble oZ a && Nat.blt b (oZ + n) && Nat.ble n 64 && !(Nat.beq t 1) then fN (keyY j) fun q => (match cget r q Y.2.2 with
        | some w => ih full rest lv (w :: s) Y d
        | none => frK (2, u, 0) Y fun w Y => cadd r q w Y fun Y => ih full rest lv (w :: s) Y d) else none
    | _ => none)
  | _ => none
noncomputable def y_alen : YP := fun ih e full rest lv st Y d => match st with
  | v :: s => refK Y.2.1 v fun r t => (match tyT[t]? with
    | some (.inl (n, _, _, _)) => fN (n + oZ) fun w => ih full rest lv (.inl w :: s) Y d
    | _ => none)
  | _ => none
noncomputable def y_copy (mk : Nat) : YP := fun ih e full rest lv st Y d => match st with
  | n :: dp :: w :: sp :: v :: s => refK Y.2.1 v fun r t => refK Y.2.1 w fun q u => (match tyT[t]? with
    | some (.inl (n0, _, _, _)) => (match tyT[u]? with
      | some (.inl (n1, rs1, _, _)) => rngK Y.2.1 n fun a b => rngK Y.2.1 dp fun c e => rngK Y.2.1 sp fun f g => bif emp rs1 && Nat.testBit mk u && !(Nat.beq t 1) && !(Nat.beq u 1) && Nat.ble oZ a && Nat.ble oZ c && Nat.ble oZ f && Nat.ble (g - oZ + (b - oZ)) n0 && Nat.ble (e - oZ + (b - oZ)) n1 && Nat.ble s.length 4 && Nat.ble 1 d then cmsk Y.2.1 (2 ^ u) Y.2.2 fun C => ih full rest lv s (Y.1, Y.2.1, C) d else none
      | _ => none)
    | _ => none)
  | _ => none
noncomputable def y_getstatic : YP := fun ih e full rest lv st Y d => frK (2, 1, 0) Y fun w Y => ih full rest lv (w :: st) Y d
def splY (n : Nat) : List YV → List YV → (List YV → List YV → YR) → YR :=
  Nat.rec (motive := fun _ => List YV → List YV → (List YV → List YV → YR) → YR) (fun acc st K => K acc st) (fun _ go acc st K => match st with
    | v :: r => go (v :: acc) r K
    | [] => none) n
def locS (E : List (Nat × FT)) : List YV → List (Option YV)
  | [] => []
  | v :: r => bif cat1 E v then some v :: locS E r else some v :: none :: locS E r
/-- the locals of a call -/
def locK (E : List (Nat × FT)) : List YV → (List (Option YV) → YR) → YR
  | [], K => K []
  | v :: r, K => bif cat1 E v then locK E r (fun t => K (some v :: t)) else bif Nat.beq (knd E v).1 1 then locK E r (fun t => K (some v :: none :: t)) else none
def fitL (E : List (Nat × FT)) : List YV → List FT → Bool
  | [], [] => true
  | v :: r, p :: ps => subT (knd E v) p && fitL E r ps
  | _, _ => false
def pushY (v : Option YV) (st : List YV) : List YV := match v with
  | some a => a :: st
  | none => st
def ybnL (f : YO → YR) : List YO → YR
  | [] => some []
  | [o] => f o
  | o :: os => yapp (f o) (ybnL f os)
def ybnd (x : YR) (f : YO → YR) : YR := match x with
  | none => none
  | some l => ybnL f l
noncomputable def post1 (ih : YB) (full rest : List CE) (lv : List (Option YV)) (r : List YV) (Y : YE) (d : Nat) (p : Option FT) : YR := match p with
  | none => ih full rest lv r Y d
  | some q => frK q Y fun w Y => ih full rest lv (w :: r) Y d
noncomputable def postK (ih : YB) (full rest : List CE) (lv : List (Option YV)) (r : List YV) (Y : YE) (d : Nat) : List (Option FT) → YR
  | [] => some []
  | p :: ps => yapp (post1 ih full rest lv r Y d p) (postK ih full rest lv r Y d ps)
/-- a call by its contract -/
noncomputable def y_ctr (mk : Nat) (ih : YB) (c : CT) (as : List YV) (full rest : List CE) (lv : List (Option YV)) (r : List YV) (Y : YE) (d' : Nat) : YR :=
  bif fitL Y.2.1 as c.1 && Nat.beq (Nat.land c.2.2.1 mk) c.2.2.1 && Nat.ble c.2.2.2 d' then cmsk Y.2.1 c.2.2.1 Y.2.2 fun C => postK ih full rest lv r (Y.1, Y.2.1, C) (Nat.succ d') c.2.1 else none
/-- a call's code, or its contract -/
noncomputable def y_body (mk : Nat) (ih : YB) (o : Option (Option CT)) (c : CM) (as : List YV) (loc : List (Option YV)) (full rest : List CE) (lv : List (Option YV)) (r : List YV) (Y : YE) (d' : Nat) : YR := match o with
  | some (some ct) => y_ctr mk ih ct as full rest lv r Y d'
  | _ => ybnd (ih c.1 c.1 loc [] Y d') (fun o => ih full rest lv (pushY o.1 r) o.2 (Nat.succ d'))
noncomputable def y_enter (mk : Nat) (ih : YB) (k : Nat) (c : CM) (as : List YV) (full rest : List CE) (lv : List (Option YV)) (r : List YV) (Y : YE) (d : Nat) : YR :=
  Nat.casesOn d none (fun d' => locK Y.2.1 as fun loc => bif Nat.ble loc.length c.2.1 && Nat.ble r.length 4 then y_body mk ih (ctT[k]?) c as loc full rest lv r Y d' else none)
noncomputable def y_virtual (mk : Nat) : YP := fun ih e full rest lv st Y d => match tget CM 8 e.2.2.1 mTab with
  | c => splY c.2.2.1 [] st fun as r => match r with
    | v :: r => refK Y.2.1 v fun _ t => (match tyT[t]? with
      | some (.inr (.inr (ci, _))) => bif Nat.beq ci c.2.2.2.2.1 && Nat.beq c.2.2.2.1 0 && !(Nat.beq t 1) then y_enter mk ih e.2.2.1 c (v :: as) full rest lv r Y d else none
      | _ => none)
    | _ => none
noncomputable def y_static (mk : Nat) : YP := fun ih e full rest lv st Y d => match tget CM 8 e.2.2.1 mTab with
  | c => bif Nat.beq c.2.2.2.1 1 then splY c.2.2.1 [] st fun as r => y_enter mk ih e.2.2.1 c as full rest lv r Y d else none
noncomputable def y_ret (k : Nat) : YP := fun ih e full rest lv st Y d => match k, st with
  | 0, [] => bif Nat.beq e.2.2.1 0 then some [(none, Y)] else none
  | 1, [v] => rngK Y.2.1 v fun a b => bif Nat.beq e.2.2.1 1 then some [(some v, Y)] else bif Nat.beq e.2.2.1 2 && Nat.ble oZ a && Nat.ble b (oZ + 1) then some [(some v, Y)] else none
  | 3, [v] => rngL Y.2.1 v fun _ _ => bif Nat.beq e.2.2.1 3 then some [(some v, Y)] else none
  | _, _ => none
/-- where the code is cut: what B knows, else on -/
noncomputable def y_cut (B : YP) : YP := fun ih e full rest lv st Y d => match B ih e full rest lv st Y d with
  | some l => some l
  | none => ih full rest lv st Y d
noncomputable def yd (mk : Nat) (B : YP) (i : Instr) : YP := match i with
  | .monitorexit => y_cut B
  | .iconst _ => y_iconst
  | .lconst _ => y_long
  | .ldc2_w _ => y_long
  | .iload _ => y_load
  | .lload _ => y_load
  | .aload _ => y_load
  | .istore _ => y_store
  | .lstore _ => y_storeL
  | .astore _ => y_store
  | .iinc _ _ => y_iinc
  | .iadd => y_iadd
  | .isub => y_isub
  | .imul => y_imul
  | .idiv => y_idiv
  | .irem => y_irem
  | .iand => y_any2
  | .ior => y_any2
  | .ixor => y_any2
  | .ishl => y_any2
  | .ishr => y_any2
  | .ineg => y_ineg
  | .ladd => y_l2
  | .lsub => y_l2
  | .lmul => y_l2
  | .ldiv => y_ldiv
  | .lcmp => y_lcmp
  | .i2l => y_i2l
  | .l2i => y_l2i
  | .dup => y_dup
  | .dup2 => y_dup2
  | .pop => y_pop
  | .goto _ => y_goto
  | .ifCond .eq _ => y_if0 (y_if false false false)
  | .ifCond .ne _ => y_if0 (y_if true false false)
  | .ifCond .lt _ => y_if0 (y_if false true false)
  | .ifCond .ge _ => y_if0 (y_if true true false)
  | .ifCond .gt _ => y_if0 (y_if false true true)
  | .ifCond .le _ => y_if0 (y_if true true true)
  | .if_icmp .eq _ => y_if false false false
  | .if_icmp .ne _ => y_if true false false
  | .if_icmp .lt _ => y_if false true false
  | .if_icmp .ge _ => y_if true true false
  | .if_icmp .gt _ => y_if false true true
  | .if_icmp .le _ => y_if true true true
  | .tableswitch _ _ _ _ => y_switch
  | .getfield _ => y_getfield
  | .putfield _ => y_putfield mk
  | .iaload => y_iaload
  | .iastore => y_iastore mk
  | .aaload => y_aaload
  | .arraylength => y_alen
  | .getstatic _ => y_getstatic
  | .swap => y_copy mk
  | .invokevirtual _ => y_virtual mk
  | .monitorenter => y_virtual mk
  | .invokestatic _ => y_static mk
  | .return_ => y_ret 0
  | .ireturn => y_ret 1
  | .lreturn => y_ret 3
  | _ => fun _ _ _ _ _ _ _ _ => none
noncomputable def yxB (mk : Nat) (B : YP) (ih : YB) : YB := fun full cur lv st Y d => match cur with
  | e :: rest => yd mk B e.2.1 ih e full rest lv st Y d
  | [] => none
noncomputable def yx (mk : Nat) (B : YP) (n : Nat) : YB := Nat.rec (motive := fun _ => YB) (fun _ _ _ _ _ _ => none) (fun _ ih => yxB mk B ih) n

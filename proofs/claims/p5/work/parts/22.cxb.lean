/-! ===== the evaluator ===== -/
def fN {R : Type} (n : Nat) (K : Nat → R) : R := Nat.casesOn n (K 0) (fun m => K (Nat.succ m))
def oZ : Nat := 2147483648
def oM : Nat := 4294967296
def oY : Nat := 9223372036854775808
def oN : Nat := 18446744073709551616
def app2 (x y : CR) : CR := match x with
  | none => none
  | some a => match y with
    | none => none
    | some b => some (a ++ b)
def bndL (f : CO → CR) : List CO → CR
  | [] => some []
  | [o] => f o
  | o :: os => app2 (f o) (bndL f os)
def bnd (x : CR) (f : CO → CR) : CR := match x with
  | none => none
  | some l => bndL f l
def eget (env : EV) (k : Nat) : Nat × Nat := env.getD k (0, 0)
def isLo (x : Option AV) : Bool := match x with
  | some (.inr (.inr (.inl _))) => true
  | _ => false
/-- a local of one place; a long that reached into it goes -/
def lst1 : List (Option AV) → Nat → AV → List (Option AV)
  | [], 0, v => [some v]
  | [], i + 1, v => none :: lst1 [] i v
  | _ :: t, 0, v => some v :: t
  | x :: t, i + 1, v => (bif Nat.beq i 0 && isLo x then none else x) :: lst1 t i v
/-- the place behind a long -/
def lclr : List (Option AV) → Nat → List (Option AV)
  | [], _ => []
  | _ :: t, 0 => none :: t
  | x :: t, i + 1 => x :: lclr t i
/-- an int's number, where it is known -/
def vK (v : AV) (env : EV) : Option Nat := match v with
  | .inl a => bif Nat.blt a oM then some a else none
  | .inr (.inl k) => bif Nat.beq (eget env k).1 (eget env k).2 then some (eget env k).1 else none
  | _ => none
def symOf (x : AV) : Option Nat := match x with
  | .inr (.inl k) => some k
  | _ => none
/-- a sign against a number: below it or not -/
def ltS (k b : Nat) (env : EV) (kT kF : EV → CR) : CR :=
  bif Nat.blt (eget env k).2 b then kT env else bif Nat.ble b (eget env k).1 then kF env else app2 (fN (b - 1) fun c => kT (env.set k ((eget env k).1, c))) (kF (env.set k (b, (eget env k).2)))
/-- a number against a sign -/
def gtS (a k : Nat) (env : EV) (kT kF : EV → CR) : CR :=
  bif Nat.blt a (eget env k).1 then kT env else bif Nat.ble (eget env k).2 a then kF env else app2 (fN (a + 1) fun c => kT (env.set k (c, (eget env k).2))) (kF (env.set k ((eget env k).1, a)))
def ltK (x y : AV) (env : EV) (kT kF : EV → CR) : CR := match vK x env, vK y env, symOf x, symOf y with
  | some a, some b, _, _ => bif Nat.blt a b then kT env else kF env
  | none, some b, some k, _ => ltS k b env kT kF
  | some a, none, _, some k => gtS a k env kT kF
  | _, _, _, _ => none
def eqS (k b : Nat) (env : EV) (kT kF : EV → CR) : CR :=
  bif Nat.blt b (eget env k).1 then kF env else bif Nat.blt (eget env k).2 b then kF env else
    app2 (kT (env.set k (b, b))) (app2 (bif Nat.beq (eget env k).1 b then some [] else fN (b - 1) fun c => kF (env.set k ((eget env k).1, c))) (bif Nat.beq (eget env k).2 b then some [] else fN (b + 1) fun c => kF (env.set k (c, (eget env k).2))))
def eqK (x y : AV) (env : EV) (kT kF : EV → CR) : CR := match vK x env, vK y env, symOf x, symOf y with
  | some a, some b, _, _ => bif Nat.beq a b then kT env else kF env
  | none, some b, some k, _ => eqS k b env kT kF
  | some a, none, _, some k => eqS k a env kT kF
  | none, none, some k, some j => bif Nat.beq k j then kT env else none
  | _, _, _, _ => none
/-- each value of a sign from lo on, n of them -/
def each (f : Nat → CR) : Nat → Nat → CR
  | 0, _ => some []
  | n + 1, lo => app2 (f lo) (fN (lo + 1) fun c => each f n c)
/-- an int's number, one after the other where it has a few -/
def exK (v : AV) (env : EV) (K : Nat → EV → CR) : CR := match vK v env, symOf v with
  | some a, _ => K a env
  | none, some k => bif Nat.ble (eget env k).1 (eget env k).2 && Nat.blt ((eget env k).2 - (eget env k).1) 64 then each (fun a => K a (env.set k (a, a))) ((eget env k).2 - (eget env k).1 + 1) (eget env k).1 else none
  | _, _ => none
/-- an index -/
def ixK (v : AV) (env : EV) (K : Nat → EV → CR) : CR := exK v env fun a env => bif Nat.ble oZ a then fN (a - oZ) (fun j => K j env) else none
def isInt (v : AV) : Bool := match v with
  | .inl _ => true
  | .inr (.inl _) => true
  | _ => false
def kindA (v : AV) (x : Nat) : Bool := match v with
  | .inl _ => Nat.beq x 0
  | .inr (.inl _) => Nat.beq x 0
  | .inr (.inr (.inl _)) => Nat.beq x 2
  | .inr (.inr (.inr _)) => Nat.beq x 3
noncomputable def p_iconst : CP := fun ih e full rest lv st h hn nc ns env d => fN e.2.2.1 fun v => ih full rest lv (.inl v :: st) h hn nc ns env d
noncomputable def p_long : CP := fun ih e full rest lv st h hn nc ns env d => fN e.2.2.1 fun v => ih full rest lv (.inr (.inr (.inl v)) :: st) h hn nc ns env d
/-- x: 0 an int, 2 a long, 3 a reference -/
noncomputable def p_load : CP := fun ih e full rest lv st h hn nc ns env d => match lv[e.2.2.1]? with
  | some (some v) => bif kindA v e.2.2.2.2.1 then ih full rest lv (v :: st) h hn nc ns env d else none
  | _ => none
noncomputable def p_store : CP := fun ih e full rest lv st h hn nc ns env d => match st with
  | v :: r => bif kindA v e.2.2.2.2.1 then ih full rest (lst1 lv e.2.2.1 v) r h hn nc ns env d else none
  | _ => none
noncomputable def p_storeL : CP := fun ih e full rest lv st h hn nc ns env d => match st with
  | .inr (.inr (.inl w)) :: r => ih full rest (lclr (lst1 lv e.2.2.1 (.inr (.inr (.inl w)))) (e.2.2.1 + 1)) r h hn nc ns env d
  | _ => none
noncomputable def p_iinc : CP := fun ih e full rest lv st h hn nc ns env d => match lv[e.2.2.1]? with
  | some (some v) => exK v env fun a env => fN ((a + e.2.2.2.1) % oM) fun b => ih full rest (lst1 lv e.2.2.1 (.inl b)) st h hn nc ns env d
  | _ => none
def bin (f : Nat → Nat → EV → CR) (x y : AV) (env : EV) (other : Option CR) : CR := match vK x env with
  | some a => match vK y env with
    | some b => f a b env
    | none => match other with
      | some r => r
      | none => exK x env fun a env => exK y env fun b env => f a b env
  | none => match other with
    | some r => r
    | none => exK x env fun a env => exK y env fun b env => f a b env
noncomputable def p_iadd : CP := fun ih e full rest lv st h hn nc ns env d => match st with
  | y :: x :: r => bin (fun a b env => fN ((a + b + oZ) % oM) fun v => ih full rest lv (.inl v :: r) h hn nc ns env d) x y env
      (match vK x env, vK y env, symOf x, symOf y with
       | some a, none, _, some k => bif Nat.beq a oZ then some (ih full rest lv (.inr (.inl k) :: r) h hn nc ns env d) else none
       | none, some b, some k, _ => bif Nat.beq b oZ then some (ih full rest lv (.inr (.inl k) :: r) h hn nc ns env d) else none
       | _, _, _, _ => none)
  | _ => none
noncomputable def p_isub : CP := fun ih e full rest lv st h hn nc ns env d => match st with
  | y :: x :: r => bin (fun a b env => fN ((a + (oM - b) + oZ) % oM) fun v => ih full rest lv (.inl v :: r) h hn nc ns env d) x y env
      (match vK y env, symOf x, symOf y with
       | some b, some k, _ => bif Nat.beq b oZ then some (ih full rest lv (.inr (.inl k) :: r) h hn nc ns env d) else none
       | none, some k, some j => bif Nat.beq k j then some (ih full rest lv (.inl oZ :: r) h hn nc ns env d) else none
       | _, _, _ => none)
  | _ => none
noncomputable def p_imul : CP := fun ih e full rest lv st h hn nc ns env d => match st with
  | y :: x :: r => bin (fun a b env => fN (((a + oZ) * (b + oZ) + oZ) % oM) fun v => ih full rest lv (.inl v :: r) h hn nc ns env d) x y env
      (match vK y env, symOf x with
       | some b, some k => bif Nat.beq b (oZ + 1) then some (ih full rest lv (.inr (.inl k) :: r) h hn nc ns env d) else none
       | _, _ => none)
  | _ => none
noncomputable def p_idiv : CP := fun ih e full rest lv st h hn nc ns env d => match st with
  | y :: x :: r => bin (fun a b env => bif Nat.ble oZ a && Nat.blt oZ b then fN ((a - oZ) / (b - oZ) + oZ) fun v => ih full rest lv (.inl v :: r) h hn nc ns env d else none) x y env
      (match vK y env, symOf x with
       | some b, some k => bif Nat.beq b (oZ + 1) then some (ih full rest lv (.inr (.inl k) :: r) h hn nc ns env d) else none
       | _, _ => none)
  | _ => none
noncomputable def p_irem : CP := fun ih e full rest lv st h hn nc ns env d => match st with
  | y :: x :: r => bin (fun a b env => bif Nat.ble oZ a && Nat.blt oZ b then fN ((a - oZ) % (b - oZ) + oZ) fun v => ih full rest lv (.inl v :: r) h hn nc ns env d else none) x y env
      (match vK y env, symOf x with
       | some b, some _ => bif Nat.beq b (oZ + 1) then some (ih full rest lv (.inl oZ :: r) h hn nc ns env d) else none
       | _, _ => none)
  | _ => none
/-- of numbers that are not negative -/
noncomputable def p_bit (f : Nat → Nat → Nat) : CP := fun ih e full rest lv st h hn nc ns env d => match st with
  | y :: x :: r => bin (fun a b env => bif Nat.ble oZ a && Nat.ble oZ b && Nat.blt (f (a - oZ) (b - oZ)) oZ then fN (f (a - oZ) (b - oZ) + oZ) fun v => ih full rest lv (.inl v :: r) h hn nc ns env d else none) x y env none
  | _ => none
noncomputable def p_iand : CP := fun ih e full rest lv st h hn nc ns env d => match st with
  | .inl b :: .inr (.inl 0) :: r => bif Nat.beq b (oZ + 31) then ih full rest lv (.inr (.inl 4) :: r) h hn nc ns env d else none
  | _ => p_bit Nat.land ih e full rest lv st h hn nc ns env d
noncomputable def p_ineg : CP := fun ih e full rest lv st h hn nc ns env d => match st with
  | x :: r => exK x env fun a env => fN ((oM - a) % oM) fun v => ih full rest lv (.inl v :: r) h hn nc ns env d
  | _ => none
noncomputable def p_lbin (f : Nat → Nat → Option Nat) : CP := fun ih e full rest lv st h hn nc ns env d => match st with
  | .inr (.inr (.inl b)) :: .inr (.inr (.inl a)) :: r => match f a b with
    | some c => fN c fun v => ih full rest lv (.inr (.inr (.inl v)) :: r) h hn nc ns env d
    | none => none
  | _ => none
noncomputable def p_lcmp : CP := fun ih e full rest lv st h hn nc ns env d => match st with
  | .inr (.inr (.inl b)) :: .inr (.inr (.inl a)) :: r => bif !(Nat.blt a oN && Nat.blt b oN) then none else bif Nat.beq a b then ih full rest lv (.inl oZ :: r) h hn nc ns env d else bif Nat.blt a b then ih full rest lv (.inl 2147483647 :: r) h hn nc ns env d else ih full rest lv (.inl 2147483649 :: r) h hn nc ns env d
  | _ => none
noncomputable def p_i2l : CP := fun ih e full rest lv st h hn nc ns env d => match st with
  | x :: r => exK x env fun a env => fN (a + 9223372034707292160) fun v => ih full rest lv (.inr (.inr (.inl v)) :: r) h hn nc ns env d
  | _ => none
noncomputable def p_l2i : CP := fun ih e full rest lv st h hn nc ns env d => match st with
  | .inr (.inr (.inl w)) :: r => fN ((w + oZ) % oM) fun v => ih full rest lv (.inl v :: r) h hn nc ns env d
  | _ => none
noncomputable def p_dup : CP := fun ih e full rest lv st h hn nc ns env d => match st with
  | a :: r => bif isLo (some a) then none else ih full rest lv (a :: a :: r) h hn nc ns env d
  | _ => none
noncomputable def p_dup2 : CP := fun ih e full rest lv st h hn nc ns env d => match st with
  | a :: b :: r => bif isLo (some a) || isLo (some b) then none else ih full rest lv (a :: b :: a :: b :: r) h hn nc ns env d
  | _ => none
noncomputable def p_pop : CP := fun ih e full rest lv st h hn nc ns env d => match st with
  | a :: r => bif isLo (some a) then none else ih full rest lv r h hn nc ns env d
  | _ => none
noncomputable def p_goto : CP := fun ih e full rest lv st h hn nc ns env d => ih full (full.drop e.2.2.2.1) lv st h hn nc ns env d
noncomputable def p_if (neg : Bool) (lt sw : Bool) : CP := fun ih e full rest lv st h hn nc ns env d => match st with
  | y :: x :: r =>
    let T := fun env => ih full (full.drop e.2.2.2.1) lv r h hn nc ns env d
    let F := fun env => ih full rest lv r h hn nc ns env d
    let a := bif sw then y else x
    let b := bif sw then x else y
    bif lt then (bif neg then ltK a b env F T else ltK a b env T F) else (bif neg then eqK a b env F T else eqK a b env T F)
  | _ => none
noncomputable def p_if0 (p : CP) : CP := fun ih e full rest lv st h hn nc ns env d => p ih e full rest lv (.inl oZ :: st) h hn nc ns env d
noncomputable def p_ifnonnull : CP := fun ih e full rest lv st h hn nc ns env d => match st with
  | .inr (.inr (.inr (some _))) :: r => ih full (full.drop e.2.2.2.1) lv r h hn nc ns env d
  | .inr (.inr (.inr none)) :: r => ih full rest lv r h hn nc ns env d
  | _ => none
noncomputable def swG (ih : CB) (full : List CE) (lv : List (Option AV)) (x : AV) (r : List AV) (h : HT) (hn nc ns d df : Nat) (n : Nat) : Nat → List Nat → EV → CR :=
  Nat.rec (motive := fun _ => Nat → List Nat → EV → CR) (fun _ _ _ => none)
    (fun _ go v ts env => match ts with
      | [] => ih full (full.drop df) lv r h hn nc ns env d
      | t :: ts => eqK x (.inl v) env (fun env => ih full (full.drop t) lv r h hn nc ns env d) (fun env => fN (v + 1) fun w => go w ts env)) n
noncomputable def p_switch : CP := fun ih e full rest lv st h hn nc ns env d => match st with
  | x :: r => bif isInt x then swG ih full lv x r h hn nc ns d (e.2.2.2.2.2.2.headD 0) 64 e.2.2.1 e.2.2.2.2.2.2.tail env else none
  | _ => none
def fA (v : AV) (K : AV → CR) : CR := match v with
  | .inl a => K (.inl a)
  | .inr (.inl k) => K (.inr (.inl k))
  | .inr (.inr (.inl w)) => K (.inr (.inr (.inl w)))
  | .inr (.inr (.inr o)) => K (.inr (.inr (.inr o)))
noncomputable def p_getfield : CP := fun ih e full rest lv st h hn nc ns env d => match st with
  | .inr (.inr (.inr (some a))) :: r => match tget AC 8 a h with
    | .inr (.inr (ci, fs)) => bif Nat.beq ci e.2.2.1 && Nat.ble 2 a && Nat.blt a hn then (match fs[e.2.2.2.1]? with
        | some v => ih full rest lv (v :: r) h hn nc ns env d
        | none => none) else none
    | _ => none
  | _ => none
/-- what a field can hold: 0 an int, 1 a boolean, 2 a long, 3 a reference -/
def fitA (x : Nat) (v : AV) : Bool := match x, v with
  | 0, .inl _ => true
  | 0, .inr (.inl _) => true
  | 1, .inl a => Nat.beq a oZ || Nat.beq a (oZ + 1)
  | 2, .inr (.inr (.inl _)) => true
  | 3, .inr (.inr (.inr _)) => true
  | _, _ => false
noncomputable def p_putfield : CP := fun ih e full rest lv st h hn nc ns env d => match st with
  | v :: .inr (.inr (.inr (some a))) :: r => match tget AC 8 a h with
    | .inr (.inr (ci, fs)) => bif Nat.beq ci e.2.2.1 && Nat.ble 2 a && Nat.blt a hn && Nat.blt e.2.2.2.1 fs.length && fitA e.2.2.2.2.1 v then
        tset AC CR 8 a (.inr (.inr (ci, fs.set e.2.2.2.1 v))) h (fun h' => ih full rest lv r h' hn nc ns env d) else none
    | _ => none
  | _ => none
noncomputable def p_iaload : CP := fun ih e full rest lv st h hn nc ns env d => match st with
  | j :: .inr (.inr (.inr (some a))) :: r => match tget AC 8 a h with
    | .inl (n, t) => bif Nat.blt a hn then ixK j env (fun j env => bif Nat.blt j n then fA (tget AV t.1 j t.2) (fun v => ih full rest lv (v :: r) h hn nc ns env d) else none) else none
    | _ => none
  | _ => none
noncomputable def p_iastore : CP := fun ih e full rest lv st h hn nc ns env d => match st with
  | v :: j :: .inr (.inr (.inr (some a))) :: r => match tget AC 8 a h with
    | .inl (n, t) => bif Nat.ble 2 a && Nat.blt a hn && isInt v then ixK j env (fun j env => bif Nat.blt j n then
        tset AV CR t.1 j v t.2 (fun t' => tset AC CR 8 a (.inl (n, ⟨t.1, t'⟩)) h (fun h' => ih full rest lv r h' hn nc ns env d)) else none) else none
    | _ => none
  | _ => none
noncomputable def p_aaload : CP := fun ih e full rest lv st h hn nc ns env d => match st with
  | j :: .inr (.inr (.inr (some a))) :: r => match tget AC 8 a h with
    | .inr (.inl (_, l)) => bif Nat.ble 2 a && Nat.blt a hn then ixK j env (fun j env => match l[j]? with
        | some o => ih full rest lv (.inr (.inr (.inr o)) :: r) h hn nc ns env d
        | none => none) else none
    | _ => none
  | _ => none
noncomputable def p_aastore : CP := fun ih e full rest lv st h hn nc ns env d => match st with
  | .inr (.inr (.inr (some w))) :: .inl j :: .inr (.inr (.inr (some a))) :: r => match tget AC 8 a h, tget AC 8 w h with
    | .inr (.inl (ci, l)), .inr (.inr (cj, _)) => bif Nat.ble 2 a && Nat.blt a hn && Nat.ble 2 w && Nat.blt w hn && Nat.beq ci cj && Nat.ble oZ j && Nat.blt (j - oZ) l.length && Nat.blt j oM then
        tset AC CR 8 a (.inr (.inl (ci, l.set (j - oZ) (some w)))) h (fun h' => ih full rest lv r h' hn nc ns env d) else none
    | _, _ => none
  | _ => none
noncomputable def p_alen : CP := fun ih e full rest lv st h hn nc ns env d => match st with
  | .inr (.inr (.inr (some a))) :: r => match tget AC 8 a h with
    | .inl (n, _) => bif Nat.blt a hn then fN (n + oZ) fun v => ih full rest lv (.inl v :: r) h hn nc ns env d else none
    | .inr (.inl (_, l)) => bif Nat.ble 2 a && Nat.blt a hn then fN (l.length + oZ) fun v => ih full rest lv (.inl v :: r) h hn nc ns env d else none
    | _ => none
  | _ => none
def dep (n : Nat) : Nat := bif Nat.ble n 16 then 4 else bif Nat.ble n 64 then 6 else bif Nat.ble n 256 then 8 else 14
noncomputable def p_newarray : CP := fun ih e full rest lv st h hn nc ns env d => match st with
  | .inl n :: r => bif Nat.ble oZ n && Nat.ble (n - oZ) 16384 && Nat.blt hn 256 then fN (n - oZ) fun n => fN (dep n) fun k =>
      tset AC CR 8 hn (.inl (n, ⟨k, tall AV (.inl oZ) k⟩)) h (fun h' => fN (hn + 1) fun hn' => fN (nc + 1) fun nc => fN (ns + n) fun ns => ih full rest lv (.inr (.inr (.inr (some hn))) :: r) h' hn' nc ns env d) else none
  | _ => none
noncomputable def p_anewarray : CP := fun ih e full rest lv st h hn nc ns env d => match st with
  | .inl n :: r => bif Nat.ble oZ n && Nat.ble (n - oZ) 16384 && Nat.blt hn 256 then fN (n - oZ) fun n =>
      tset AC CR 8 hn (.inr (.inl (e.2.2.1, List.replicate n none))) h (fun h' => fN (hn + 1) fun hn' => fN (nc + 1) fun nc => fN (ns + n) fun ns => ih full rest lv (.inr (.inr (.inr (some hn))) :: r) h' hn' nc ns env d) else none
  | _ => none
noncomputable def p_new : CP := fun ih e full rest lv st h hn nc ns env d => match dfA[e.2.2.1]? with
  | some fs => bif Nat.blt hn 256 then tset AC CR 8 hn (.inr (.inr (e.2.2.1, fs))) h (fun h' => fN (hn + 1) fun hn' => fN (nc + 1) fun nc => fN (ns + fs.length) fun ns => ih full rest lv (.inr (.inr (.inr (some hn))) :: st) h' hn' nc ns env d) else none
  | none => none
noncomputable def p_getstatic : CP := fun ih e full rest lv st h hn nc ns env d => ih full rest lv (.inr (.inr (.inr (some 1))) :: st) h hn nc ns env d
def catA : List AV → Nat
  | [] => 0
  | .inr (.inr (.inl _)) :: r => catA r + 2
  | _ :: r => catA r + 1
noncomputable def p_objinit : CP := fun ih e full rest lv st h hn nc ns env d => match st with
  | .inr (.inr (.inr (some _))) :: r => bif Nat.ble (catA r) 8 && Nat.ble 1 d then ih full rest lv r h hn nc ns env d else none
  | _ => none
noncomputable def cpyK (src : Sigma (TTy AV)) (k : Nat) (n : Nat) : Nat → Nat → TTy AV k → (TTy AV k → CR) → CR :=
  Nat.rec (motive := fun _ => Nat → Nat → TTy AV k → (TTy AV k → CR) → CR) (fun _ _ t K => K t) (fun _ go sp dp t K => fA (tget AV src.1 sp src.2) fun v => tset AV CR k dp v t fun t' => fN (sp + 1) fun sp => fN (dp + 1) fun dp => go sp dp t' K) n
noncomputable def p_copy : CP := fun ih e full rest lv st h hn nc ns env d => match st with
  | .inl n :: .inl dp :: .inr (.inr (.inr (some w))) :: .inl sp :: .inr (.inr (.inr (some v))) :: r => match tget AC 8 v h, tget AC 8 w h with
    | .inl (n0, t0), .inl (n1, t1) => bif Nat.ble 2 v && Nat.blt v hn && Nat.ble 2 w && Nat.blt w hn && Nat.ble oZ n && Nat.ble oZ dp && Nat.ble oZ sp && Nat.ble (sp - oZ + (n - oZ)) n0 && Nat.ble (dp - oZ + (n - oZ)) n1 && Nat.ble (catA r) 8 && Nat.ble 1 d && Nat.blt n oM && Nat.blt dp oM && Nat.blt sp oM then
        fN (n - oZ) fun n => fN (sp - oZ) fun sp => fN (dp - oZ) fun dp => cpyK t0 t1.1 n sp dp t1.2 fun t' => tset AC CR 8 w (.inl (n1, ⟨t1.1, t'⟩)) h fun h' => ih full rest lv r h' hn nc ns env d else none
    | _, _ => none
  | _ => none
def splK (n : Nat) : List AV → List AV → (List AV → List AV → CR) → CR :=
  Nat.rec (motive := fun _ => List AV → List AV → (List AV → List AV → CR) → CR) (fun acc st K => K acc st) (fun _ go acc st K => match st with
    | v :: r => go (v :: acc) r K
    | [] => none) n
def locA : List AV → List (Option AV)
  | [] => []
  | .inr (.inr (.inl w)) :: r => some (.inr (.inr (.inl w))) :: none :: locA r
  | v :: r => some v :: locA r
def pushR (v : Option AV) (st : List AV) : List AV := match v with
  | some a => a :: st
  | none => st
noncomputable def p_enter (ih : CB) (c : CM) (as : List AV) (full rest : List CE) (lv : List (Option AV)) (r : List AV) (h : HT) (hn nc ns : Nat) (env : EV) (d : Nat) : CR :=
  Nat.casesOn d none (fun d' => bif Nat.ble (locA as).length c.2.1 && Nat.ble (catA r) 8 then
    bnd (ih c.1 c.1 (locA as) [] h hn 0 0 env d') (fun o => fN (nc + o.2.2.2.1) fun nc => fN (ns + o.2.2.2.2.1) fun ns => ih full rest lv (pushR o.1 r) o.2.1 o.2.2.1 nc ns o.2.2.2.2.2 (Nat.succ d')) else none)
noncomputable def p_virtual : CP := fun ih e full rest lv st h hn nc ns env d => match tget CM 8 e.2.2.1 mTab with
  | c => splK c.2.2.1 [] st fun as r => match r with
    | .inr (.inr (.inr (some a))) :: r => match tget AC 8 a h with
      | .inr (.inr (ci, _)) => bif Nat.beq ci c.2.2.2.2.1 && Nat.ble 2 a && Nat.blt a hn && Nat.beq c.2.2.2.1 0 then p_enter ih c (.inr (.inr (.inr (some a))) :: as) full rest lv r h hn nc ns env d else none
      | _ => none
    | _ => none
/-- the reference's own copying of a page, at once: b is the field, the row's length is that of the state -/
noncomputable def p_copies : CP := fun ih e full rest lv st h hn nc ns env d => match st with
  | .inl to :: .inl frm :: .inr (.inr (.inr (some a))) :: r => match tget AC 8 a h with
    | .inr (.inr (ci, fs)) => bif Nat.beq ci 9 && Nat.ble 2 a && Nat.blt a hn && Nat.ble oZ frm && Nat.ble oZ to && Nat.ble (frm - oZ) 6 && Nat.ble (to - oZ) 6 && Nat.ble (catA r) 8 && Nat.beq (tget CM 8 e.2.2.1 mTab).2.2.1 2 && Nat.beq (tget CM 8 e.2.2.1 mTab).2.2.2.1 0 && Nat.beq (tget CM 8 e.2.2.1 mTab).2.2.2.2.1 9 && Nat.ble 3 (tget CM 8 e.2.2.1 mTab).2.1 && Nat.ble 1 d then (match fs[e.2.2.2.1]? with
        | some (.inr (.inr (.inr (some w)))) => (match tget AC 8 w h with
          | .inl (n, t) => bif Nat.beq n 14000 && Nat.ble 2 w && Nat.blt w hn then fN (2000 * (frm - oZ)) fun sp => fN (2000 * (to - oZ)) fun dp => cpyK t t.1 2000 sp dp t.2 fun t' => tset AC CR 8 w (.inl (n, ⟨t.1, t'⟩)) h fun h' => ih full rest lv r h' hn nc ns env d else none
          | _ => none)
        | _ => none) else none
    | _ => none
  | _ => none
noncomputable def p_special : CP := fun ih e full rest lv st h hn nc ns env d => match tget CM 8 e.2.2.1 mTab with
  | c => splK c.2.2.1 [] st fun as r => match r with
    | .inr (.inr (.inr (some a))) :: r => bif Nat.beq c.2.2.2.1 2 then p_enter ih c (.inr (.inr (.inr (some a))) :: as) full rest lv r h hn nc ns env d else none
    | _ => none
noncomputable def p_static : CP := fun ih e full rest lv st h hn nc ns env d => match tget CM 8 e.2.2.1 mTab with
  | c => bif Nat.beq c.2.2.2.1 1 then splK c.2.2.1 [] st fun as r => p_enter ih c as full rest lv r h hn nc ns env d else none
/-- an end: 0 nothing, 1 an int, 2 a boolean, 3 a long, 4 a reference -/
noncomputable def p_ret (k : Nat) : CP := fun ih e full rest lv st h hn nc ns env d => match k, st with
  | 0, [] => bif Nat.beq e.2.2.1 0 then some [(none, h, hn, nc, ns, env)] else none
  | 1, [v] => bif Nat.beq e.2.2.1 1 && isInt v then some [(some v, h, hn, nc, ns, env)] else bif Nat.beq e.2.2.1 2 then (match v with
      | .inl a => bif Nat.beq a oZ || Nat.beq a (oZ + 1) then some [(some v, h, hn, nc, ns, env)] else none
      | _ => none) else none
  | 3, [.inr (.inr (.inl w))] => bif Nat.beq e.2.2.1 3 then some [(some (.inr (.inr (.inl w))), h, hn, nc, ns, env)] else none
  | 4, [.inr (.inr (.inr (some a)))] => bif Nat.beq e.2.2.1 4 then some [(some (.inr (.inr (.inr (some a)))), h, hn, nc, ns, env)] else none
  | _, _ => none
def lD (a b : Nat) : Option Nat := bif Nat.ble oY a && Nat.blt oY b && Nat.blt a oN && Nat.blt b oN then some ((a - oY) / (b - oY) + oY) else none
/-- where the code is cut: what B knows, else on -/
noncomputable def p_cut (B : CP) : CP := fun ih e full rest lv st h hn nc ns env d => match B ih e full rest lv st h hn nc ns env d with
  | some l => some l
  | none => ih full rest lv st h hn nc ns env d
noncomputable def dsp (B : CP) (i : Instr) : CP := match i with
  | .monitorexit => p_cut B
  | .iconst _ => p_iconst
  | .lconst _ => p_long
  | .ldc2_w _ => p_long
  | .iload _ => p_load
  | .lload _ => p_load
  | .aload _ => p_load
  | .istore _ => p_store
  | .lstore _ => p_storeL
  | .astore _ => p_store
  | .iinc _ _ => p_iinc
  | .iadd => p_iadd
  | .isub => p_isub
  | .imul => p_imul
  | .idiv => p_idiv
  | .irem => p_irem
  | .iand => p_iand
  | .ior => p_bit Nat.lor
  | .ixor => p_bit Nat.xor
  | .ishl => p_bit (fun a b => a * 2 ^ (b % 32))
  | .ishr => p_bit (fun a b => a / 2 ^ (b % 32))
  | .ineg => p_ineg
  | .ladd => p_lbin (fun a b => some ((a + b + oY) % oN))
  | .lsub => p_lbin (fun a b => bif Nat.ble b oN then some ((a + (oN - b) + oY) % oN) else none)
  | .lmul => p_lbin (fun a b => some (((a + oY) * (b + oY) + oY) % oN))
  | .ldiv => p_lbin lD
  | .lcmp => p_lcmp
  | .i2l => p_i2l
  | .l2i => p_l2i
  | .dup => p_dup
  | .dup2 => p_dup2
  | .pop => p_pop
  | .goto _ => p_goto
  | .ifCond .eq _ => p_if0 (p_if false false false)
  | .ifCond .ne _ => p_if0 (p_if true false false)
  | .ifCond .lt _ => p_if0 (p_if false true false)
  | .ifCond .ge _ => p_if0 (p_if true true false)
  | .ifCond .gt _ => p_if0 (p_if false true true)
  | .ifCond .le _ => p_if0 (p_if true true true)
  | .if_icmp .eq _ => p_if false false false
  | .if_icmp .ne _ => p_if true false false
  | .if_icmp .lt _ => p_if false true false
  | .if_icmp .ge _ => p_if true true false
  | .if_icmp .gt _ => p_if false true true
  | .if_icmp .le _ => p_if true true true
  | .ifnonnull _ => p_ifnonnull
  | .tableswitch _ _ _ _ => p_switch
  | .getfield _ => p_getfield
  | .putfield _ => p_putfield
  | .iaload => p_iaload
  | .iastore => p_iastore
  | .aaload => p_aaload
  | .aastore => p_aastore
  | .arraylength => p_alen
  | .newarray _ => p_newarray
  | .anewarray _ => p_anewarray
  | .new _ => p_new
  | .getstatic _ => p_getstatic
  | .nop => p_objinit
  | .swap => p_copy
  | .invokevirtual _ => p_virtual
  | .monitorenter => p_copies
  | .invokespecial _ => p_special
  | .invokestatic _ => p_static
  | .return_ => p_ret 0
  | .ireturn => p_ret 1
  | .lreturn => p_ret 3
  | .areturn => p_ret 4
  | _ => fun _ _ _ _ _ _ _ _ _ _ _ _ => none
/-- B: what is known where the code is cut -/
noncomputable def cxB (B : CP) (ih : CB) : CB := fun full cur lv st h hn nc ns env d => match cur with
  | e :: rest => dsp B e.2.1 ih e full rest lv st h hn nc ns env d
  | [] => none
noncomputable def cx (B : CP) (n : Nat) : CB := Nat.rec (motive := fun _ => CB) (fun _ _ _ _ _ _ _ _ _ _ => none) (fun _ ih => cxB B ih) n
noncomputable def h00 : HT := tset AC HT 8 1 (.inl (5, ⟨4, tset AV (TTy AV 4) 4 0 (.inl 2147483668) (tset AV (TTy AV 4) 4 1 (.inl 2147483688) (tset AV (TTy AV 4) 4 2 (.inl 2147483708) (tset AV (TTy AV 4) 4 3 (.inl 2147483728) (tset AV (TTy AV 4) 4 4 (.inl 2147483748) (tall AV (.inl oZ) 4) id) id) id) id) id⟩)) (tall AC (.inl (0, ⟨0, .inl oZ⟩)) 8) id
/-- the heap at the start, with a script of signs -/
noncomputable def h0L (L : Nat) : HT := tset AC HT 8 0 (.inl (L, ⟨4, tset AV (TTy AV 4) 4 0 (.inr (.inl 0)) (tset AV (TTy AV 4) 4 1 (.inr (.inl 1)) (tset AV (TTy AV 4) 4 2 (.inr (.inl 2)) (tset AV (TTy AV 4) 4 3 (.inr (.inl 3)) (tall AV (.inl oZ) 4) id) id) id) id⟩)) h00 id
def okO (o : CO) : Bool := match o.1 with
  | some (.inl v) => Nat.beq v (oZ + 1) && Nat.ble o.2.2.2.1 600000 && Nat.ble o.2.2.2.2.1 7302250
  | _ => false
def okR (x : CR) : Bool := match x with
  | some l => l.all okO
  | none => false

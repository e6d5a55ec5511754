/-! ===== AN ABSTRACT MACHINE: ints by ranges, the heap by types ===== -/
/-- what is said of a value: (0, a, b) an int from a to b (2^31 is 0); (1, a, b) a long from a to b (2^63 is 0); (2, t, _) a reference to a cell of type t; (3, _, _) nothing -/
abbrev FT : Type := Nat × Nat × Nat
/-- an int; a sign -/
abbrev YV : Type := Nat ⊕ Nat
/-- how many signs there are; what is said of them, the newest first; what fields are known to hold (reference, field, value) -/
abbrev YE : Type := Nat × List (Nat × FT) × List (Nat × Nat × YV)
abbrev YO : Type := Option YV × YE
abbrev YR : Type := Option (List YO)
abbrev YB : Type := List CE → List CE → List (Option YV) → List YV → YE → Nat → YR
abbrev YP : Type := YB → CE → List CE → List CE → List (Option YV) → List YV → YE → Nat → YR
/-- an int array (places; what the first ones hold, and what may be put there; the others that may be changed: from, to); an array of references (class, places, type); an object (class, fields) -/
abbrev TT : Type := (Nat × List (FT × FT) × Nat × Nat) ⊕ ((Nat × Nat × Nat) ⊕ (Nat × List FT))
/-- a contract: what it takes (the receiver first), what it may give, which types it may change (bits), how many frames above -/
abbrev CT : Type := List FT × List (Option FT) × Nat × Nat
def yapp (x y : YR) : YR := match x with
  | none => none
  | some a => match y with
    | none => none
    | some b => some (a ++ b)
def look (k : Nat) : List (Nat × FT) → FT
  | [] => (9, 0, 0)
  | q :: E => bif Nat.beq q.1 k then q.2 else look k E
def knd (E : List (Nat × FT)) (v : YV) : FT := match v with
  | .inl a => (0, a, a)
  | .inr k => look k E
/-- the range of an int -/
def rngK (E : List (Nat × FT)) (v : YV) (K : Nat → Nat → YR) : YR := match knd E v with
  | (0, a, b) => K a b
  | _ => none
def rngL (E : List (Nat × FT)) (v : YV) (K : Nat → Nat → YR) : YR := match knd E v with
  | (1, a, b) => K a b
  | _ => none
def refK (E : List (Nat × FT)) (v : YV) (K : Nat → Nat → YR) : YR := match v with
  | .inr r => (match look r E with
    | (2, t, _) => K r t
    | _ => none)
  | .inl _ => none
/-- a new sign -/
def frK (p : FT) (Y : YE) (K : YV → YE → YR) : YR := match p with
  | (c, a, b) => fN a fun a => fN b fun b => match Y with
    | (n, E, C) => fN (n + 1) fun m => K (.inr n) (m, (n, (c, a, b)) :: E, C)
/-- one more word on a sign -/
def sayK (v : YV) (a b : Nat) (Y : YE) (K : YE → YR) : YR := match v with
  | .inl _ => K Y
  | .inr k => fN a fun a => fN b fun b => match Y with
    | (n, E, C) => K (n, (k, (0, a, b)) :: E, C)
def sayL (v : YV) (a b : Nat) (Y : YE) (K : YE → YR) : YR := match v with
  | .inl _ => K Y
  | .inr k => fN a fun a => fN b fun b => match Y with
    | (n, E, C) => K (n, (k, (1, a, b)) :: E, C)
def full32 : FT := (0, 0, 4294967295)
def full64 : FT := (1, 0, 18446744073709551615)
def okI (a b : Nat) : FT := bif Nat.blt b oM then (0, a, b) else full32
def rAdd (a b c d : Nat) : FT := bif Nat.ble oZ (a + c) then okI (a + c - oZ) (b + d - oZ) else full32
def rSub (a b c d : Nat) : FT := bif Nat.ble d (a + oZ) then okI (a + oZ - d) (b + oZ - c) else full32
def rMul (a b c d : Nat) : FT := bif Nat.ble oZ a && Nat.ble oZ c then okI ((a - oZ) * (c - oZ) + oZ) ((b - oZ) * (d - oZ) + oZ) else full32
def rDiv (a b c _ : Nat) : FT := bif Nat.ble oZ a then okI oZ ((b - oZ) / (c - oZ) + oZ) else full32
def rRem (a _ _ d : Nat) : FT := bif Nat.ble oZ a then (0, oZ, d - 1) else full32
def subT (p q : FT) : Bool := match q with
  | (0, a, b) => (match p with
    | (0, c, d) => Nat.ble a c && Nat.ble d b
    | _ => false)
  | (1, a, b) => (match p with
    | (1, c, d) => Nat.ble a c && Nat.ble d b
    | _ => false)
  | (2, t, _) => (match p with
    | (2, u, _) => Nat.beq t u
    | _ => false)
  | _ => false
def lstK : List (Option YV) → Nat → Option YV → (List (Option YV) → YR) → YR
  | [], 0, v, K => K [v]
  | [], i + 1, v, K => lstK [] i v (fun t => K (none :: t))
  | _ :: t, 0, v, K => K (v :: t)
  | x :: t, i + 1, v, K => lstK t i v (fun t' => K (x :: t'))
/-- the place before holds no long -/
def preOK (E : List (Nat × FT)) (lv : List (Option YV)) (i : Nat) : Bool := match i with
  | 0 => true
  | j + 1 => (match lv[j]? with
    | some (some v) => (match knd E v with
      | (0, _, _) => true
      | (2, _, _) => true
      | _ => false)
    | _ => true)
/-- 0 an int, 2 a long, 3 a reference -/
def kOK (x c : Nat) : Bool := match x with
  | 0 => Nat.beq c 0
  | 2 => Nat.beq c 1
  | 3 => Nat.beq c 2
  | _ => false
noncomputable def y_iconst : YP := fun ih e full rest lv st Y d => bif Nat.blt e.2.2.1 oM then fN e.2.2.1 fun v => ih full rest lv (.inl v :: st) Y d else none
noncomputable def y_long : YP := fun ih e full rest lv st Y d => bif Nat.blt e.2.2.1 oN then frK (1, e.2.2.1, e.2.2.1) Y fun v Y => ih full rest lv (v :: st) Y d else none
noncomputable def y_load : YP := fun ih e full rest lv st Y d => match lv[e.2.2.1]? with
  | some (some v) => bif kOK e.2.2.2.2.1 (knd Y.2.1 v).1 then ih full rest lv (v :: st) Y d else none
  | _ => none
noncomputable def y_store : YP := fun ih e full rest lv st Y d => match st with
  | v :: r => bif kOK e.2.2.2.2.1 (knd Y.2.1 v).1 && preOK Y.2.1 lv e.2.2.1 then lstK lv e.2.2.1 (some v) fun lv => ih full rest lv r Y d else none
  | _ => none
noncomputable def y_storeL : YP := fun ih e full rest lv st Y d => match st with
  | v :: r => bif kOK 2 (knd Y.2.1 v).1 && preOK Y.2.1 lv e.2.2.1 then lstK lv e.2.2.1 (some v) fun lv => lstK lv (e.2.2.1 + 1) none fun lv => ih full rest lv r Y d else none
  | _ => none
def fstI (E : List (Nat × FT)) (v : YV) (Kc : Nat → YR) (K : Nat → Nat → YR) : YR := rngK E v fun a b => bif Nat.beq a b then Kc a else K a b
/-- a number is added, or taken away -/
def rInc (a b t : Nat) : FT := bif Nat.blt (b + t) oM then (0, a + t, b + t) else bif Nat.ble oM (a + t) && Nat.blt (b + t - oM) oM then (0, a + t - oM, b + t - oM) else full32
noncomputable def y_iinc : YP := fun ih e full rest lv st Y d => match lv[e.2.2.1]? with
  | some (some v) => bif preOK Y.2.1 lv e.2.2.1 then fstI Y.2.1 v (fun a => fN ((a + e.2.2.2.1) % oM) fun b => lstK lv e.2.2.1 (some (.inl b)) fun lv => ih full rest lv st Y d)
      (fun a b => frK (rInc a b e.2.2.2.1) Y fun w Y => lstK lv e.2.2.1 (some w) fun lv => ih full rest lv st Y d) else none
  | _ => none
/-- two ints: known, or their ranges -/
def binI (E : List (Nat × FT)) (x y : YV) (Kc : Nat → Nat → YR) (K : Nat → Nat → Nat → Nat → YR) : YR := rngK E x fun a b => rngK E y fun c d => bif Nat.beq a b && Nat.beq c d then Kc a c else K a b c d
noncomputable def y_bin (f : Nat → Nat → Nat) (g : Nat → Nat → Nat → Nat → FT) : YP := fun ih e full rest lv st Y d => match st with
  | y :: x :: r => binI Y.2.1 x y (fun a b => fN (f a b) fun v => ih full rest lv (.inl v :: r) Y d) (fun a b c e => frK (g a b c e) Y fun v Y => ih full rest lv (v :: r) Y d)
  | _ => none
noncomputable def y_iadd : YP := y_bin (fun a b => (a + b + oZ) % oM) rAdd
noncomputable def y_isub : YP := y_bin (fun a b => (a + (oM - b) + oZ) % oM) rSub
noncomputable def y_imul : YP := y_bin (fun a b => ((a + oZ) * (b + oZ) + oZ) % oM) rMul
noncomputable def y_idiv : YP := fun ih e full rest lv st Y d => match st with
  | y :: x :: r => rngK Y.2.1 x fun a b => rngK Y.2.1 y fun c e => bif Nat.blt oZ c then frK (rDiv a b c e) Y fun v Y => ih full rest lv (v :: r) Y d else none
  | _ => none
noncomputable def y_irem : YP := fun ih e full rest lv st Y d => match st with
  | y :: x :: r => rngK Y.2.1 x fun a b => rngK Y.2.1 y fun c e => bif Nat.blt oZ c then frK (rRem a b c e) Y fun v Y => ih full rest lv (v :: r) Y d else none
  | _ => none
/-- an int of two, of which nothing is said -/
noncomputable def y_any2 : YP := fun ih e full rest lv st Y d => match st with
  | y :: x :: r => rngK Y.2.1 x fun _ _ => rngK Y.2.1 y fun _ _ => frK full32 Y fun v Y => ih full rest lv (v :: r) Y d
  | _ => none
noncomputable def y_ineg : YP := fun ih e full rest lv st Y d => match st with
  | x :: r => rngK Y.2.1 x fun _ _ => frK full32 Y fun v Y => ih full rest lv (v :: r) Y d
  | _ => none
noncomputable def y_l2 : YP := fun ih e full rest lv st Y d => match st with
  | y :: x :: r => rngL Y.2.1 x fun _ _ => rngL Y.2.1 y fun _ _ => frK full64 Y fun v Y => ih full rest lv (v :: r) Y d
  | _ => none
noncomputable def y_ldiv : YP := fun ih e full rest lv st Y d => match st with
  | y :: x :: r => rngL Y.2.1 x fun _ _ => rngL Y.2.1 y fun c _ => bif Nat.blt oY c then frK full64 Y fun v Y => ih full rest lv (v :: r) Y d else none
  | _ => none
def ifR (b : Bool) (x : YR) : YR := bif b then x else some []
def minN (a b : Nat) : Nat := bif Nat.ble a b then a else b
def maxN (a b : Nat) : Nat := bif Nat.ble a b then b else a
noncomputable def y_lcmp : YP := fun ih e full rest lv st Y d => match st with
  | y :: x :: r => rngL Y.2.1 x fun a b => rngL Y.2.1 y fun c e =>
      yapp (ifR (Nat.blt a e) (sayL x a (minN b (e - 1)) Y fun Y => ih full rest lv (.inl 2147483647 :: r) Y d))
        (yapp (ifR (Nat.ble a e && Nat.ble c b) (sayL x (maxN a c) (minN b e) Y fun Y => ih full rest lv (.inl oZ :: r) Y d))
          (ifR (Nat.blt c b) (sayL x (maxN a (c + 1)) b Y fun Y => ih full rest lv (.inl 2147483649 :: r) Y d)))
  | _ => none
noncomputable def y_i2l : YP := fun ih e full rest lv st Y d => match st with
  | x :: r => rngK Y.2.1 x fun a b => frK (1, a + 9223372034707292160, b + 9223372034707292160) Y fun v Y => ih full rest lv (v :: r) Y d
  | _ => none
noncomputable def y_l2i : YP := fun ih e full rest lv st Y d => match st with
  | x :: r => rngL Y.2.1 x fun _ _ => frK full32 Y fun v Y => ih full rest lv (v :: r) Y d
  | _ => none
/-- an int or a reference -/
def cat1 (E : List (Nat × FT)) (v : YV) : Bool := match knd E v with
  | (0, _, _) => true
  | (2, _, _) => true
  | _ => false
noncomputable def y_dup : YP := fun ih e full rest lv st Y d => match st with
  | a :: r => bif cat1 Y.2.1 a then ih full rest lv (a :: a :: r) Y d else none
  | _ => none
noncomputable def y_dup2 : YP := fun ih e full rest lv st Y d => match st with
  | a :: b :: r => bif cat1 Y.2.1 a && cat1 Y.2.1 b then ih full rest lv (a :: b :: a :: b :: r) Y d else none
  | _ => none
noncomputable def y_pop : YP := fun ih e full rest lv st Y d => match st with
  | a :: r => bif cat1 Y.2.1 a then ih full rest lv r Y d else none
  | _ => none
noncomputable def y_goto : YP := fun ih e full rest lv st Y d => ih full (full.drop e.2.2.2.1) lv st Y d
/-- x < y, or not -/
def ltY (x y : YV) (Y : YE) (kT kF : YE → YR) : YR := rngK Y.2.1 x fun a b => rngK Y.2.1 y fun c e =>
  yapp (ifR (Nat.blt a e) (sayK x a (minN b (e - 1)) Y fun Y => sayK y (maxN c (a + 1)) e Y kT))
    (ifR (Nat.ble c b) (sayK x (maxN a c) b Y fun Y => sayK y c (minN e b) Y kF))
/-- what is left of a range without a number -/
def neLo (a c e : Nat) : Nat := bif Nat.beq c e && Nat.beq a c then a + 1 else a
def neHi (b c e : Nat) : Nat := bif Nat.beq c e && Nat.beq b c then b - 1 else b
def eqY (x y : YV) (Y : YE) (kT kF : YE → YR) : YR := rngK Y.2.1 x fun a b => rngK Y.2.1 y fun c e =>
  yapp (ifR (Nat.ble a e && Nat.ble c b) (sayK x (maxN a c) (minN b e) Y fun Y => sayK y (maxN a c) (minN b e) Y kT))
    (ifR (!(Nat.beq a b && Nat.beq c e && Nat.beq a c)) (sayK x (neLo a c e) (neHi b c e) Y fun Y => sayK y (neLo c a b) (neHi e a b) Y kF))
noncomputable def y_if (neg lt sw : Bool) : YP := fun ih e full rest lv st Y d => match st with
  | y :: x :: r =>
    let T := fun Y => ih full (full.drop e.2.2.2.1) lv r Y d
    let F := fun Y => ih full rest lv r Y d
    let a := bif sw then y else x
    let b := bif sw then x else y
    bif lt then (bif neg then ltY a b Y F T else ltY a b Y T F) else (bif neg then eqY a b Y F T else eqY a b Y T F)
  | _ => none
noncomputable def y_if0 (p : YP) : YP := fun ih e full rest lv st Y d => p ih e full rest lv (.inl oZ :: st) Y d
noncomputable def swY (ih : YB) (full : List CE) (lv : List (Option YV)) (x : YV) (r : List YV) (d df : Nat) (n : Nat) : Nat → List Nat → YE → YR :=
  Nat.rec (motive := fun _ => Nat → List Nat → YE → YR) (fun _ _ _ => none)
    (fun _ go v ts Y => match ts with
      | [] => ih full (full.drop df) lv r Y d
      | t :: ts => eqY x (.inl v) Y (fun Y => ih full (full.drop t) lv r Y d) (fun Y => fN (v + 1) fun w => go w ts Y)) n
noncomputable def y_switch : YP := fun ih e full rest lv st Y d => match st with
  | x :: r => rngK Y.2.1 x fun _ _ => swY ih full lv x r d (e.2.2.2.2.2.2.headD 0) 64 e.2.2.1 e.2.2.2.2.2.2.tail Y
  | _ => none
def cget (r j : Nat) : List (Nat × Nat × YV) → Option YV
  | [] => none
  | q :: C => bif Nat.beq q.1 r && Nat.beq q.2.1 j then some q.2.2 else cget r j C
/-- a reference, and of another type -/
def notT (p : FT) (t : Nat) : Bool := match p with
  | (2, u, _) => !(Nat.beq u t)
  | _ => false
/-- a reference, and of a type outside a set -/
def outM (p : FT) (mk : Nat) : Bool := match p with
  | (2, u, _) => !(Nat.testBit mk u)
  | _ => false
/-- what is known stays, but for a field of a type -/
def cdel (E : List (Nat × FT)) (t j : Nat) : List (Nat × Nat × YV) → (List (Nat × Nat × YV) → YR) → YR
  | [], K => K []
  | q :: C, K => bif Nat.beq q.2.1 j && !(notT (look q.1 E) t) then cdel E t j C K else cdel E t j C (fun C' => K (q :: C'))
/-- what is known stays, but for places a to b of a type -/
def cwin (E : List (Nat × FT)) (t a b : Nat) : List (Nat × Nat × YV) → (List (Nat × Nat × YV) → YR) → YR
  | [], K => K []
  | q :: C, K => bif Nat.blt q.2.1 a || Nat.blt b q.2.1 || notT (look q.1 E) t then cwin E t a b C (fun C' => K (q :: C')) else cwin E t a b C K
/-- what is known stays, but for types of a set -/
def cmsk (E : List (Nat × FT)) (mk : Nat) : List (Nat × Nat × YV) → (List (Nat × Nat × YV) → YR) → YR
  | [], K => K []
  | q :: C, K => bif outM (look q.1 E) mk then cmsk E mk C (fun C' => K (q :: C')) else cmsk E mk C K

/-! ===== AN EVALUATOR FOR THE KERNEL: the pure machine over trees, ints as numbers from 0 on (2^31 is 0), a few ints as signs with their ranges ===== -/
def TTy (α : Type) : Nat → Type
  | 0 => α
  | k + 1 => TTy α k × TTy α k
noncomputable def tget (α : Type) (k : Nat) : Nat → TTy α k → α :=
  Nat.rec (motive := fun k => Nat → TTy α k → α) (fun _ t => t) (fun k ih i t => @Prod.casesOn (TTy α k) (TTy α k) (fun _ => α) t (fun a b => bif Nat.blt i (2 ^ k) then ih i a else ih (i - 2 ^ k) b)) k
noncomputable def tset (α R : Type) (k : Nat) : Nat → α → TTy α k → (TTy α k → R) → R :=
  Nat.rec (motive := fun k => Nat → α → TTy α k → (TTy α k → R) → R) (fun _ x _ K => K x) (fun k ih i x t K => @Prod.casesOn (TTy α k) (TTy α k) (fun _ => R) t (fun a b => bif Nat.blt i (2 ^ k) then ih i x a (fun l => K (l, b)) else ih (i - 2 ^ k) x b (fun r => K (a, r)))) k
noncomputable def tall (α : Type) (x : α) (k : Nat) : TTy α k := Nat.rec (motive := fun k => TTy α k) x (fun _ t => (t, t)) k
/-- an int; a sign; a long; a reference -/
abbrev AV : Type := Nat ⊕ (Nat ⊕ (Nat ⊕ Option Nat))
abbrev EV : Type := List (Nat × Nat)
abbrev AC : Type := (Nat × Sigma (TTy AV)) ⊕ ((Nat × List (Option Nat)) ⊕ (Nat × List AV))
abbrev HT : Type := TTy AC 8
/-- place, instruction, two numbers, what kind of value, length, a switch's places (the default's first) -/
abbrev CE : Type := Nat × Instr × Nat × Nat × Nat × Nat × List Nat
/-- code, locals, parameters, kind, class, what is answered -/
abbrev CM : Type := List CE × Nat × Nat × Nat × Nat × Nat
abbrev CO : Type := Option AV × HT × Nat × Nat × Nat × EV
abbrev CR : Type := Option (List CO)
abbrev CB : Type := List CE → List CE → List (Option AV) → List AV → HT → Nat → Nat → Nat → EV → Nat → CR
abbrev CP : Type := CB → CE → List CE → List CE → List (Option AV) → List AV → HT → Nat → Nat → Nat → EV → Nat → CR

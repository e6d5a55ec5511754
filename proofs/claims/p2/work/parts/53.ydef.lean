/-! ===== contracts and loops by number ===== -/
def ctOf (k : Nat) : CT := match ctT[k]? with
  | some (some c) => c
  | _ => ([], [], 0, 0)
noncomputable def ckE (k : Nat) : Bool := chkE k (ctOf k)
/-- a loop's states, the first counter from a on, n of them -/
noncomputable def ckL (j a n : Nat) : Bool := match lpT[j]? with
  | some t => atB ((codeOf (lt_no t / 8)).drop (lt_j t + 1)) (lt_pc t) && (List.range' a n).all (fun c1 => (List.range (lt_N2 t + 1)).all (fun c2 => chkL (lt_no t / 8) (ctOf (lt_no t / 8)).2.2.2 (ctOf (lt_no t / 8)).2.2.1 (ctOf (lt_no t / 8)).2.1 t c1 c2))
  | none => false

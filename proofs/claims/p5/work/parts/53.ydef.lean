/-! ===== contracts and loops by number; a parameter range by range ===== -/
def ctOf (k : Nat) : CT := match ctT[k]? with
  | some (some c) => c
  | _ => ([], [], 0, 0)
noncomputable def ckE (k : Nat) : Bool := chkE k (ctOf k)
/-- a loop's states, the first counter from a on, n of them -/
noncomputable def ckL (j a n : Nat) : Bool := match lpT[j]? with
  | some t => atB ((codeOf (lt_no t / 8)).drop (lt_j t + 1)) (lt_pc t) && (List.range' a n).all (fun c1 => (List.range (lt_N2 t + 1)).all (fun c2 => chkL (lt_no t / 8) (ctOf (lt_no t / 8)).2.2.2 (ctOf (lt_no t / 8)).2.2.1 (ctOf (lt_no t / 8)).2.1 t c1 c2))
  | none => false
/-- a contract with another word on parameter i -/
def ctSet (c : CT) (i : Nat) (r : Nat × Nat) : CT := (c.1.set i (0, r.1, r.2), c.2)
noncomputable def ckA (k i : Nat) (rs : List (Nat × Nat)) : Bool := rs.all (fun r => chkE k (ctSet (ctOf k) i r))
/-- ranges, one behind the other, from lo to hi -/
def covB (lo hi : Nat) : List (Nat × Nat) → Bool
  | [] => Nat.blt hi lo
  | r :: rs => Nat.ble r.1 lo && covB (r.2 + 1) hi rs
theorem covB_ok {hi z : Nat} : ∀ {rs : List (Nat × Nat)} {lo : Nat}, covB lo hi rs = true → lo ≤ z → z ≤ hi → ∃ r ∈ rs, r.1 ≤ z ∧ z ≤ r.2
  | [], lo, h, h1, h2 => by
    have := blt_iff.mp h
    omega
  | r :: rs, lo, h, h1, h2 => by
    rw [covB, Bool.and_eq_true] at h
    have h3 := ble_of h.1
    by_cases hz : z ≤ r.2
    · exact ⟨r, List.mem_cons_self, by omega, hz⟩
    · obtain ⟨q, q1, q2⟩ := covB_ok h.2 (by omega) h2
      exact ⟨q, List.mem_cons_of_mem _ q1, q2⟩
theorem fitAs_get {len : Nat} : ∀ {ps : List FT} {xs : List Value} {i : Nat} {p : FT}, fitAs len ps xs → ps[i]? = some p → ∃ x, xs[i]? = some x ∧ fitT len p x
  | [], _, _, _, _, h => by simp at h
  | q :: ps, x :: xs, 0, p, hf, h => by
    rw [List.getElem?_cons_zero] at h
    cases h
    exact ⟨x, rfl, hf.1⟩
  | q :: ps, x :: xs, i + 1, p, hf, h => by
    rw [List.getElem?_cons_succ] at h ⊢
    exact fitAs_get hf.2 h
  | _ :: _, [], _, _, hf, _ => hf.elim
theorem fitAs_set {len : Nat} : ∀ {ps : List FT} {xs : List Value} {i : Nat} {p : FT} {x : Value}, fitAs len ps xs → xs[i]? = some x → fitT len p x → fitAs len (ps.set i p) xs
  | [], xs, i, p, x, hf, _, _ => hf
  | q :: ps, y :: xs, 0, p, x, hf, h, hp => by
    rw [List.getElem?_cons_zero] at h
    cases h
    exact ⟨hp, hf.2⟩
  | q :: ps, y :: xs, i + 1, p, x, hf, h, hp => by
    rw [List.getElem?_cons_succ] at h
    exact ⟨hf.1, fitAs_set hf.2 h hp⟩
  | _ :: _, [], _, _, _, hf, _, _ => hf.elim
/-- a contract out of those for each range of a parameter -/
theorem ct_alt {GI : PH → Prop} {k i lo hi : Nat} {c : CT} {rs : List (Nat × Nat)} (hi0 : c.1[i]? = some (0, lo, hi)) (hcov : covB lo hi rs = true) (h : ∀ r ∈ rs, CtH GI k (ctSet c i r)) : CtH GI k c := by
  intro d ph as hd hW hGI hf
  obtain ⟨x, hx, z, rfl, z1, z2⟩ := fitAs_get hf hi0
  obtain ⟨r, r1, r2, r3⟩ := covB_ok hcov z1 z2
  exact h r r1 d ph as hd hW hGI (fitAs_set hf hx ⟨z, rfl, r2, r3⟩)

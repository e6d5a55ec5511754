/-! ===== two heaps of the evaluator that say the same ===== -/
def eqO (a b : Option Nat) : Bool := match a with
  | none => (match b with
    | none => true
    | some _ => false)
  | some x => (match b with
    | none => false
    | some y => Nat.beq x y)
def eqV (a b : AV) : Bool := match a with
  | .inl x => (match b with
    | .inl y => Nat.beq x y
    | .inr _ => false)
  | .inr (.inl x) => (match b with
    | .inr (.inl y) => Nat.beq x y
    | _ => false)
  | .inr (.inr (.inl x)) => (match b with
    | .inr (.inr (.inl y)) => Nat.beq x y
    | _ => false)
  | .inr (.inr (.inr x)) => (match b with
    | .inr (.inr (.inr y)) => eqO x y
    | _ => false)
theorem eqO_ok {a b : Option Nat} (h : eqO a b = true) : a = b := by
  match a, b, h with
  | none, none, _ => rfl
  | some x, some y, h => rw [beq_of (a := x) (b := y) h]
theorem eqV_ok {a b : AV} (h : eqV a b = true) : a = b := by
  match a, b, h with
  | .inl x, .inl y, h => rw [beq_of (a := x) (b := y) h]
  | .inr (.inl x), .inr (.inl y), h => rw [beq_of (a := x) (b := y) h]
  | .inr (.inr (.inl x)), .inr (.inr (.inl y)), h => rw [beq_of (a := x) (b := y) h]
  | .inr (.inr (.inr x)), .inr (.inr (.inr y)), h => rw [eqO_ok (a := x) (b := y) h]
/-- the same by what is known of the signs -/
def eqN (a b : Option Nat) : Bool := match a with
  | none => false
  | some x => (match b with
    | none => false
    | some y => Nat.beq x y)
def eqVE (env : EV) (a b : AV) : Bool := bif eqV a b then true else eqN (vK a env) (vK b env)
theorem eqVE_ok {σ : Nat → Int32} {env : EV} {a b : AV} (he : eOK σ env) (h : eqVE env a b = true) : cvV σ a = cvV σ b := by
  unfold eqVE at h
  cases hz : eqV a b with
  | true => rw [eqV_ok hz]
  | false =>
    rw [hz, cond_false] at h
    cases ha : vK a env with
    | none => rw [ha] at h; cases h
    | some x =>
      cases hb : vK b env with
      | none => rw [ha, hb] at h; cases h
      | some y =>
        rw [ha, hb] at h
        rw [(vK_ok he ha).1, (vK_ok he hb).1, beq_of (a := x) (b := y) h]
noncomputable def eqT (f : AV → AV → Bool) (k : Nat) : (m : Nat) → TTy AV k → TTy AV m → Bool :=
  Nat.rec (motive := fun k => (m : Nat) → TTy AV k → TTy AV m → Bool) (fun m => Nat.casesOn (motive := fun m => TTy AV 0 → TTy AV m → Bool) m (fun a b => f a b) (fun _ _ _ => false))
    (fun k ih m => Nat.casesOn (motive := fun m => TTy AV (k + 1) → TTy AV m → Bool) m (fun _ _ => false) (fun m t u => @Prod.casesOn (TTy AV k) (TTy AV k) (fun _ => Bool) t (fun a b => @Prod.casesOn (TTy AV m) (TTy AV m) (fun _ => Bool) u (fun c d => bif ih m a c then ih m b d else false)))) k
section EH
variable {σ : Nat → Int32} {f : AV → AV → Bool}
theorem eqT_ok (hf : ∀ a b, f a b = true → cvV σ a = cvV σ b) : ∀ (k m : Nat) (t : TTy AV k) (u : TTy AV m), eqT f k m t u = true → k = m ∧ ∀ j, cvV σ (tget AV k j t) = cvV σ (tget AV m j u)
  | 0, 0, t, u, h => ⟨rfl, fun j => by rw [tget_z, tget_z]; exact hf t u h⟩
  | 0, m + 1, t, u, h => by cases h
  | k + 1, 0, t, u, h => by cases h
  | k + 1, m + 1, (a, b), (c, d), h => by
    have h : (bif eqT f k m a c then eqT f k m b d else false) = true := h
    cases hz : eqT f k m a c with
    | false => rw [hz] at h; cases h
    | true =>
      rw [hz, cond_true] at h
      obtain ⟨e1, e2⟩ := eqT_ok hf k m a c hz
      obtain ⟨_, e4⟩ := eqT_ok hf k m b d h
      subst e1
      refine ⟨rfl, fun j => ?_⟩
      rw [tget_s, tget_s]
      cases Nat.blt j (2 ^ k) with
      | true => exact e2 j
      | false => exact e4 _
def eqLO : List (Option Nat) → List (Option Nat) → Bool
  | [], [] => true
  | x :: l, y :: m => eqO x y && eqLO l m
  | _, _ => false
def eqLV (f : AV → AV → Bool) : List AV → List AV → Bool
  | [], [] => true
  | x :: l, y :: m => f x y && eqLV f l m
  | _, _ => false
theorem eqLO_ok : ∀ {l m : List (Option Nat)}, eqLO l m = true → l = m
  | [], [], _ => rfl
  | x :: l, y :: m, h => by
    rw [eqLO, Bool.and_eq_true] at h
    rw [eqO_ok h.1, eqLO_ok h.2]
  | [], _ :: _, h => by cases h
  | _ :: _, [], h => by cases h
theorem eqLV_ok (hf : ∀ a b, f a b = true → cvV σ a = cvV σ b) : ∀ {l m : List AV}, eqLV f l m = true → l.map (cvV σ) = m.map (cvV σ)
  | [], [], _ => rfl
  | x :: l, y :: m, h => by
    rw [eqLV, Bool.and_eq_true] at h
    rw [List.map_cons, List.map_cons, hf _ _ h.1, eqLV_ok hf h.2]
  | [], _ :: _, h => by cases h
  | _ :: _, [], h => by cases h
noncomputable def eqC (f : AV → AV → Bool) (a b : AC) : Bool := match a with
  | .inl q => (match b with
    | .inl r => bif Nat.beq q.1 r.1 then eqT f q.2.1 r.2.1 q.2.2 r.2.2 else false
    | .inr _ => false)
  | .inr (.inl q) => (match b with
    | .inr (.inl r) => Nat.beq q.1 r.1 && eqLO q.2 r.2
    | _ => false)
  | .inr (.inr q) => (match b with
    | .inr (.inr r) => Nat.beq q.1 r.1 && eqLV f q.2 r.2
    | _ => false)
theorem eqC_ok (hf : ∀ a b, f a b = true → cvV σ a = cvV σ b) {a b : AC} {p : PE} (h : eqC f a b = true) (hr : cellR σ a p) : cellR σ b p := by
  match a, b, h with
  | .inl q, .inl r, h =>
    have h : (bif Nat.beq q.1 r.1 then eqT f q.2.1 r.2.1 q.2.2 r.2.2 else false) = true := h
    cases hz : Nat.beq q.1 r.1 with
    | false => rw [hz] at h; cases h
    | true =>
      rw [hz, cond_true] at h
      have e1 := beq_of hz
      obtain ⟨e2, e3⟩ := eqT_ok hf _ _ _ _ h
      match p, hr with
      | .inl w, hr =>
        obtain ⟨r1, r2, r3⟩ := hr
        exact ⟨e1 ▸ r1, by rw [← e1, ← e2]; exact r2, fun j hj => by rw [← e3]; exact r3 j (by rw [e1]; exact hj)⟩
  | .inr (.inl (c, l)), .inr (.inl (d, m)), h =>
    have h : (Nat.beq c d && eqLO l m) = true := h
    rw [Bool.and_eq_true] at h
    have e1 := beq_of h.1
    have e2 := eqLO_ok h.2
    subst e1
    subst e2
    exact hr
  | .inr (.inr (c, l)), .inr (.inr (d, m)), h =>
    have h : (Nat.beq c d && eqLV f l m) = true := h
    rw [Bool.and_eq_true] at h
    have e1 := beq_of h.1
    have e2 := eqLV_ok hf h.2
    subst e1
    match p, hr with
    | .inr (.inr (c', g)), hr =>
      obtain ⟨r1, r2⟩ := hr
      exact ⟨r1, by rw [← e2]; exact r2⟩
/-- two heaps -/
noncomputable def eqH (f : AV → AV → Bool) (k : Nat) : TTy AC k → TTy AC k → Bool :=
  Nat.rec (motive := fun k => TTy AC k → TTy AC k → Bool) (fun a b => eqC f a b) (fun k ih t u => @Prod.casesOn (TTy AC k) (TTy AC k) (fun _ => Bool) t (fun a b => @Prod.casesOn (TTy AC k) (TTy AC k) (fun _ => Bool) u (fun c d => bif ih a c then ih b d else false))) k
theorem eqH_get : ∀ (k : Nat) (t u : TTy AC k), eqH f k t u = true → ∀ j, eqC f (tget AC k j t) (tget AC k j u) = true
  | 0, t, u, h, j => h
  | k + 1, (a, b), (c, d), h, j => by
    have h : (bif eqH f k a c then eqH f k b d else false) = true := h
    cases hz : eqH f k a c with
    | false => rw [hz] at h; cases h
    | true =>
      rw [hz, cond_true] at h
      rw [tget_s, tget_s]
      cases hb : Nat.blt j (2 ^ k) with
      | true => exact eqH_get k a c hz j
      | false => exact eqH_get k b d h (j - 2 ^ k)
theorem eqH_ok (hf : ∀ a b, f a b = true → cvV σ a = cvV σ b) {h h' : HT} {hn : Nat} {ph : PH} (he : eqH f 8 h h' = true) (hH : HR σ h hn ph) : HR σ h' hn ph := by
  obtain ⟨h1, h2, h3, h4⟩ := hH
  refine ⟨h1, h2, h3, fun v hv => ?_⟩
  obtain ⟨c, a, b⟩ := h4 v hv
  exact ⟨c, a, eqC_ok hf (eqH_get 8 h h' he v) b⟩
end EH

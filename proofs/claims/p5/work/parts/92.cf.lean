/-! ===== by hand: the class's object is made (by the kernel) ===== -/
def nul : AV := .inr (.inr (.inr none))
def rfA (a : Nat) : AV := .inr (.inr (.inr (some a)))
noncomputable def hS : HT := tput AC 8 2 (.inr (.inr (0, [nul, nul, nul, nul]))) (tput AC 8 0 (.inr (.inr (99, []))) h00)
def sg0 : Nat → Int32 := fun k => if k < 5 then 0 else oI 0
def ev0 : EV := [(2147483648, 2147483648), (2147483648, 2147483648), (2147483648, 2147483648), (2147483648, 2147483648), (2147483648, 2147483648)]
theorem cI_0 : cI' 0 = 2147483648 := by
  have := cI_toInt 0
  have e : (0 : Int32).toInt = 0 := rfl
  omega
theorem ev0_ok : eOK sg0 ev0 := by
  intro k
  by_cases hk : k < 5
  · have e : sg0 k = 0 := by
      unfold sg0
      rw [if_pos hk]
    rw [e, cI_0]
    have : k = 0 ∨ k = 1 ∨ k = 2 ∨ k = 3 ∨ k = 4 := by omega
    rcases this with rfl | rfl | rfl | rfl | rfl <;> exact ⟨Nat.le_refl _, Nat.le_refl _⟩
  · have e : cI' (sg0 k) = 0 := by
      unfold sg0
      rw [if_neg hk]
      exact cI'_oI (by decide)
    rw [e]
    have e2 : eget ev0 k = (0, 0) := by
      unfold eget
      rw [List.getD_eq_getElem?_getD, List.getElem?_eq_none (by show 5 ≤ k; omega)]
      rfl
    rw [e2]
    exact ⟨Nat.le_refl _, Nat.le_refl _⟩
theorem h1_cell : tget AC 8 1 h00 = .inl (5, ⟨4, tput AV 4 0 (.inl 2147483668) (tput AV 4 1 (.inl 2147483688) (tput AV 4 2 (.inl 2147483708) (tput AV 4 3 (.inl 2147483728) (tput AV 4 4 (.inl 2147483748) (tall AV (.inl oZ) 4)))))⟩) := by
  unfold h00
  simp only [tset_put, id]
  rw [tget_put AC 8 1 1 _ _ (by decide) (by decide), if_pos rfl]
theorem hS_HR : HR sg0 hS 3 [dd, .inl (5, tbV), .inr (.inr (0, [.null, .null, .null, .null]))] := by
  refine ⟨by decide, by decide, rfl, fun v hv => ?_⟩
  match v, hv with
  | 0, _ =>
    refine ⟨_, rfl, ?_⟩
    unfold hS
    rw [tget_put AC 8 2 0 _ _ (by decide) (by decide), if_neg (by decide), tget_put AC 8 0 0 _ _ (by decide) (by decide), if_pos rfl]
    exact ⟨rfl, rfl⟩
  | 1, _ =>
    refine ⟨_, rfl, ?_⟩
    unfold hS
    rw [tget_put AC 8 2 1 _ _ (by decide) (by decide), if_neg (by decide), tget_put AC 8 0 1 _ _ (by decide) (by decide), if_neg (by decide), h1_cell]
    refine ⟨rfl, by show 5 ≤ 16; decide, fun j hj => ?_⟩
    have hj : j < 5 := hj
    show cvV sg0 (tget AV 4 j _) = .int (tbV j)
    match j, hj with
    | 0, _ => exact congrArg Value.int (by decide)
    | 1, _ => exact congrArg Value.int (by decide)
    | 2, _ => exact congrArg Value.int (by decide)
    | 3, _ => exact congrArg Value.int (by decide)
    | 4, _ => exact congrArg Value.int (by decide)
  | 2, _ =>
    refine ⟨_, rfl, ?_⟩
    unfold hS
    rw [tget_put AC 8 2 2 _ _ (by decide) (by decide), if_pos rfl]
    exact ⟨rfl, rfl⟩
def B00 : CP := fun _ _ _ _ _ _ _ _ _ _ _ _ => none
theorem B00_ok (σ : Nat → Int32) : CutOK σ B00 := fun _ _ _ _ _ _ _ _ _ _ _ _ _ h => by cases h
def eqA (a b : AV) : Bool := match a with
  | .inl x => (match b with
    | .inl y => Nat.beq x y
    | _ => false)
  | .inr (.inr (.inr none)) => (match b with
    | .inr (.inr (.inr none)) => true
    | _ => false)
  | .inr (.inr (.inr (some x))) => (match b with
    | .inr (.inr (.inr (some y))) => Nat.beq x y
    | _ => false)
  | _ => false
theorem eqA_ok {a b : AV} (h : eqA a b = true) : a = b := by
  match a, b, h with
  | .inl x, .inl y, h => rw [beq_of (a := x) (b := y) h]
  | .inr (.inr (.inr none)), .inr (.inr (.inr none)), _ => rfl
  | .inr (.inr (.inr (some x))), .inr (.inr (.inr (some y))), h => rw [beq_of (a := x) (b := y) h]
def eqLA : List AV → List AV → Bool
  | [], [] => true
  | a :: l, b :: m => eqA a b && eqLA l m
  | _, _ => false
theorem eqLA_ok : ∀ {l m : List AV}, eqLA l m = true → l = m
  | [], [], _ => rfl
  | a :: l, b :: m, h => by
    rw [eqLA, Bool.and_eq_true] at h
    rw [eqA_ok h.1, eqLA_ok h.2]
  | [], _ :: _, h => by cases h
  | _ :: _, [], h => by cases h
def eqOb (c : AC) (ci : Nat) (l : List AV) : Bool := match c with
  | .inr (.inr q) => Nat.beq q.1 ci && eqLA q.2 l
  | _ => false
theorem eqOb_ok {σ : Nat → Int32} {c : AC} {ci : Nat} {l : List AV} {x : PE} (h : eqOb c ci l = true) (hr : cellR σ c x) : x = .inr (.inr (ci, l.map (cvV σ))) := by
  match c, x, h, hr with
  | .inr (.inr q), .inr (.inr r), h, hr =>
    have h : (Nat.beq q.1 ci && eqLA q.2 l) = true := h
    rw [Bool.and_eq_true] at h
    obtain ⟨r1, r2⟩ := r
    obtain ⟨e1, e2⟩ := hr
    dsimp only at e1 e2
    rw [e2, ← e1, beq_of h.1, eqLA_ok h.2]
def refB (u : Nat) (o : Option Nat) : Bool := match o with
  | some r => Nat.ble 1 r && Nat.blt r 75 && Nat.beq (psi r) u
  | none => false
def fitB (p : FT) (v : AV) : Bool := match p with
  | (0, a, b) => (match v with
    | .inl x => Nat.ble a x && Nat.ble x b && Nat.blt x oM
    | _ => false)
  | (1, a, b) => (match v with
    | .inr (.inr (.inl x)) => Nat.ble a x && Nat.ble x b && Nat.blt x oN
    | _ => false)
  | (2, u, _) => (match v with
    | .inr (.inr (.inr o)) => refB u o
    | _ => false)
  | (3, _, _) => true
  | _ => false
theorem refB_ok {u : Nat} {o : Option Nat} (h : refB u o = true) : ∃ r, o = some r ∧ 1 ≤ r ∧ r < 75 ∧ psi r = u := by
  cases o with
  | none => cases h
  | some r =>
    have h : (Nat.ble 1 r && Nat.blt r 75 && Nat.beq (psi r) u) = true := h
    simp only [Bool.and_eq_true] at h
    exact ⟨r, rfl, ble_of h.1.1, blt_iff.mp h.1.2, beq_of h.2⟩
theorem fitB_ok {σ : Nat → Int32} {p : FT} {v : AV} (h : fitB p v = true) : fitT 75 p (cvV σ v) := by
  match p, h with
  | (0, a, b), h =>
    match v, h with
    | .inl x, h =>
      have h : (Nat.ble a x && Nat.ble x b && Nat.blt x oM) = true := h
      simp only [Bool.and_eq_true] at h
      have hx := blt_iff.mp h.2
      exact ⟨_, rfl, by rw [cI'_oI hx]; exact ble_of h.1.1, by rw [cI'_oI hx]; exact ble_of h.1.2⟩
  | (1, a, b), h =>
    match v, h with
    | .inr (.inr (.inl x)), h =>
      have h : (Nat.ble a x && Nat.ble x b && Nat.blt x oN) = true := h
      simp only [Bool.and_eq_true] at h
      have hx := blt_iff.mp h.2
      exact ⟨_, rfl, by rw [cL'_oL hx]; exact ble_of h.1.1, by rw [cL'_oL hx]; exact ble_of h.1.2⟩
  | (2, u, _), h =>
    match v, h with
    | .inr (.inr (.inr o)), h =>
      obtain ⟨r, rfl, h1, h2, h3⟩ := refB_ok (o := o) h
      exact ⟨r, rfl, h1, h2, h3⟩
  | (3, _, _), _ => trivial
def fitLB : List FT → List AV → Bool
  | [], [] => true
  | p :: ps, v :: vs => fitB p v && fitLB ps vs
  | _, _ => false
theorem fitLB_ok {σ : Nat → Int32} : ∀ {ps : List FT} {vs : List AV}, fitLB ps vs = true → (vs.map (cvV σ)).length = ps.length ∧ ∀ (j : Nat) (p : FT), ps[j]? = some p → ∃ x, (vs.map (cvV σ))[j]? = some x ∧ fitT 75 p x
  | [], [], _ => ⟨rfl, fun j p h => by simp at h⟩
  | p :: ps, v :: vs, h => by
    rw [fitLB, Bool.and_eq_true] at h
    obtain ⟨a1, a2⟩ := fitLB_ok (σ := σ) h.2
    refine ⟨by rw [List.map_cons, List.length_cons, List.length_cons, a1], fun j q hq => ?_⟩
    match j, hq with
    | 0, hq => cases hq; exact ⟨_, rfl, fitB_ok h.1⟩
    | j + 1, hq =>
      rw [List.getElem?_cons_succ] at hq
      rw [List.map_cons, List.getElem?_cons_succ]
      exact a2 j q hq
  | [], _ :: _, h => by cases h
  | _ :: _, [], h => by cases h
def cellB (t : Option TT) (c : AC) : Bool := match t with
  | some (.inl (n, rs, _, _)) => emp rs && (match c with
    | .inl q => Nat.beq q.1 n
    | _ => false)
  | some (.inr (.inl (ci, n, u))) => bif Nat.beq ci 99 then true else (match c with
    | .inr (.inl q) => Nat.beq q.1 ci && Nat.beq q.2.length n && q.2.all (refB u)
    | _ => false)
  | some (.inr (.inr (ci, fts))) => (match c with
    | .inr (.inr q) => Nat.beq q.1 ci && fitLB fts q.2
    | _ => false)
  | none => false
theorem cellB_ok {σ : Nat → Int32} {T : TT} {c : AC} {x : PE} (h : cellB (some T) c = true) (hr : cellR σ c x) : cellT 75 T x := by
  match T, h with
  | .inl (n, rs, lo, hi), h =>
    unfold cellB at h
    dsimp only at h
    rw [Bool.and_eq_true] at h
    have hrs : rs = [] := by
      cases rs with
      | nil => rfl
      | cons _ _ => cases h.1
    subst hrs
    match c, x, h.2, hr with
    | .inl q, .inl r, h2, hr =>
      obtain ⟨r1, r2⟩ := r
      have e := hr.1
      dsimp only at e h2
      rw [← beq_of h2, e]
      exact ⟨r2, rfl, fun i p hp => by simp at hp⟩
  | .inr (.inl (ci, n, u)), h =>
    unfold cellB at h
    dsimp only at h
    cases hb : Nat.beq ci 99 with
    | true => exact Or.inl (beq_of hb)
    | false =>
      rw [hb, cond_false] at h
      match c, x, h, hr with
      | .inr (.inl q), .inr (.inl r), h, hr =>
        dsimp only at h
        simp only [Bool.and_eq_true] at h
        obtain ⟨⟨h1, h2⟩, h3⟩ := h
        obtain ⟨r1, r2, r3⟩ := r
        obtain ⟨e1, e2, e3, e4⟩ := hr
        dsimp only at e1 e2 e4
        have hb1 := beq_of h1
        have hb2 := beq_of h2
        rw [e1] at hb1
        rw [e2] at hb2
        subst hb1 hb2
        refine Or.inr ⟨r3, rfl, by rw [← e1]; exact e3, fun j hj => ?_⟩
        have h5 := e4 j hj
        obtain ⟨a, a1, a2, a3, a4⟩ := refB_ok (List.all_eq_true.mp h3 _ (List.mem_of_getElem? h5))
        exact ⟨a, a1, a2, a3, a4⟩
  | .inr (.inr (ci, fts)), h =>
    unfold cellB at h
    dsimp only at h
    match c, x, h, hr with
    | .inr (.inr q), .inr (.inr r), h, hr =>
      dsimp only at h
      rw [Bool.and_eq_true] at h
      obtain ⟨r1, r2⟩ := r
      obtain ⟨e1, e2⟩ := hr
      dsimp only at e1 e2
      have hb := beq_of h.1
      rw [e1] at hb
      subst hb e2
      obtain ⟨b1, b2⟩ := fitLB_ok (σ := σ) h.2
      exact ⟨_, rfl, b1, b2⟩
def txA : List AV := [rfA 4, .inl 2147483648, rfA 5, rfA 6, .inl 2147483648, .inl 2147483639, .inl 2147483648, rfA 7, .inl 2147483648, .inl 2147483648]
noncomputable def zerB (c : AC) (n : Nat) : Bool := match c with
  | .inl q => Nat.beq q.1 n && (List.range n).all (fun j => eqA (tget AV q.2.1 j q.2.2) (.inl 2147483648))
  | _ => false
def eqO5 (c : AC) : Bool := match c with
  | .inr (.inl (3, [none, none, none, none, none])) => true
  | _ => false
noncomputable def ckWT : HT → Bool := fun h => (List.range' 1 74).all (fun a => cellB tyT[psi a]? (tget AC 8 a h))
def noB (v : Option AV) : Bool := match v with
  | none => true
  | some _ => false
noncomputable def ckO (o : CO) : Bool := noB o.1 && (Nat.beq o.2.2.1 75 && (ckWT o.2.1 && (eqOb (tget AC 8 2 o.2.1) 0 [rfA 3, rfA 8, rfA 10, nul] && (eqOb (tget AC 8 3 o.2.1) 1 txA && (zerB (tget AC 8 4 o.2.1) 60 && (eqOb (tget AC 8 8 o.2.1) 2 [rfA 9, .inl 2147483648] && (eqO5 (tget AC 8 9 o.2.1) && Nat.beq o.2.2.2.2.1 2904)))))))
noncomputable def ckL1 (l : List CO) : Bool := match l with
  | [o] => ckO o
  | _ => false
noncomputable def ckS (r : CR) : Bool := match r with
  | some l => ckL1 l
  | none => false
theorem ckS_ok : ckS (cx B00 100000 kc1 kc1 [some (rfA 2)] [] hS 3 0 0 ev0 11) = true := by decide +kernel
theorem ty_some : (List.range' 1 74).all (fun a => (tyT[psi a]?).isSome) = true := by decide +kernel

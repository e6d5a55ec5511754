/-! ===== what the abstract machine's states stand for ===== -/
def cL' (x : Int64) : Nat := (x.toInt + 9223372036854775808).toNat
/-- a value is as said, in a heap of so many cells -/
def fitT (len : Nat) (p : FT) (x : Value) : Prop := match p with
  | (0, a, b) => ∃ z, x = .int z ∧ a ≤ cI' z ∧ cI' z ≤ b
  | (1, a, b) => ∃ z, x = .long z ∧ a ≤ cL' z ∧ cL' z ≤ b
  | (2, t, _) => ∃ r, x = .ref r ∧ 1 ≤ r ∧ r < len ∧ psi r = t
  | (3, _, _) => True
  | _ => False
theorem fitT.mono {len len' : Nat} {p : FT} {x : Value} (h : fitT len p x) (hl : len ≤ len') : fitT len' p x := by
  match p, h with
  | (0, _, _), h => exact h
  | (1, _, _), h => exact h
  | (2, _, _), ⟨r, h1, h2, h3, h4⟩ => exact ⟨r, h1, h2, Nat.lt_of_lt_of_le h3 hl, h4⟩
  | (3, _, _), _ => trivial
def cellT (len : Nat) (t : TT) (c : PE) : Prop := match t with
  | .inl (n, rs, _, _) => ∃ f, c = .inl (n, f) ∧ ∀ (i : Nat) (p : FT × FT), rs[i]? = some p → fitT len p.1 (.int (f i))
  | .inr (.inl (ci, n, u)) => ci = 99 ∨ ∃ f, c = .inr (.inl (ci, n, f)) ∧ aoK ci = true ∧ ∀ j, j < n → ∃ a, f j = some a ∧ 1 ≤ a ∧ a < len ∧ psi a = u
  | .inr (.inr (ci, fts)) => ∃ fs : List Value, c = .inr (.inr (ci, fs)) ∧ fs.length = fts.length ∧ ∀ (j : Nat) (p : FT), fts[j]? = some p → ∃ x, fs[j]? = some x ∧ fitT len p x
theorem cellT.mono {len len' : Nat} {t : TT} {c : PE} (h : cellT len t c) (hl : len ≤ len') : cellT len' t c := by
  match t, h with
  | .inl (n, rs, _, _), ⟨f, h1, h2⟩ => exact ⟨f, h1, fun i p hp => (h2 i p hp).mono hl⟩
  | .inr (.inl (ci, n, u)), h =>
    rcases h with h | ⟨f, h1, h2, h3⟩
    · exact Or.inl h
    · refine Or.inr ⟨f, h1, h2, fun j hj => ?_⟩
      obtain ⟨a, a1, a2, a3, a4⟩ := h3 j hj
      exact ⟨a, a1, a2, Nat.lt_of_lt_of_le a3 hl, a4⟩
  | .inr (.inr (ci, fts)), ⟨fs, h1, h2, h3⟩ =>
    refine ⟨fs, h1, h2, fun j p hp => ?_⟩
    obtain ⟨x, x1, x2⟩ := h3 j p hp
    exact ⟨x, x1, x2.mono hl⟩
/-- every cell has its type -/
def WT (ph : PH) : Prop := ∀ a, 1 ≤ a → a < ph.length → ∀ t, tyT[psi a]? = some t → ∃ c, ph[a]? = some c ∧ cellT ph.length t c
/-- a change of a cell that the machine itself may do -/
def okSet (t : Nat) (c c' : PE) : Prop := match tyT[t]? with
  | some (.inl (n, rs, lo, hi)) => ∃ f g, c = .inl (n, f) ∧ c' = .inl (n, g) ∧ (rs = [] ∨ ∃ i x, g = upd f i x ∧ ((∃ p, rs[i]? = some p ∧ fitT 0 p.2 (.int x)) ∨ (rs.length ≤ i ∧ lo ≤ i ∧ i < hi)))
  | some (.inr (.inr (ci, _))) => ∃ fs j x, c = .inr (.inr (ci, fs)) ∧ c' = .inr (.inr (ci, fs.set j x)) ∧ prW t j = false
  | _ => False
/-- what stays of a cell, however often the machine itself changes it -/
def stay (t : Nat) (c c' : PE) : Prop := match tyT[t]? with
  | some (.inl (n, rs, lo, hi)) => ∀ f, c = .inl (n, f) → ∃ g, c' = .inl (n, g) ∧ (rs = [] ∨ ∀ i, (∀ p, rs[i]? = some p → p.2.1 = 9) → (rs.length ≤ i → ¬ (lo ≤ i ∧ i < hi)) → g i = f i)
  | some (.inr (.inr (ci, _))) => ∀ fs, c = .inr (.inr (ci, fs)) → ∃ fs', c' = .inr (.inr (ci, fs')) ∧ fs'.length = fs.length ∧ ∀ j, prW t j = true → fs'[j]? = fs[j]?
  | _ => True
theorem stay.rfl' (t : Nat) (c : PE) : stay t c c := by
  unfold stay
  split
  · intro f h
    exact ⟨f, h, Or.inr fun _ _ _ => rfl⟩
  · intro fs h
    exact ⟨fs, h, rfl, fun _ _ => rfl⟩
  · trivial
theorem stay.trans {t : Nat} {a b c : PE} (h1 : stay t a b) (h2 : stay t b c) : stay t a c := by
  unfold stay at h1 h2 ⊢
  split
  · rename_i n rs lo hi ht
    rw [ht] at h1 h2
    intro f hf
    obtain ⟨g, hg, e1⟩ := h1 f hf
    obtain ⟨k, hk, e2⟩ := h2 g hg
    refine ⟨k, hk, ?_⟩
    rcases e1 with z | e1
    · exact Or.inl z
    · rcases e2 with z | e2
      · exact Or.inl z
      · exact Or.inr fun i a b => (e2 i a b).trans (e1 i a b)
  · rename_i ci fts ht
    rw [ht] at h1 h2
    intro fs hf
    obtain ⟨gs, hg, e1, e2⟩ := h1 fs hf
    obtain ⟨ks, hk, e3, e4⟩ := h2 gs hg
    exact ⟨ks, hk, e3.trans e1, fun j hj => (e4 j hj).trans (e2 j hj)⟩
  · trivial
theorem okSet_stay {t : Nat} {c c' : PE} (h : okSet t c c') : stay t c c' := by
  unfold okSet at h
  unfold stay
  split at h
  · rename_i n rs lo hi ht
    obtain ⟨f, g, h1, h2, h3⟩ := h
    intro f' hf
    rw [h1] at hf
    cases hf
    refine ⟨g, h2, ?_⟩
    rcases h3 with z | ⟨i, x, hg, h3⟩
    · exact Or.inl z
    · refine Or.inr fun j a b => ?_
      rw [hg]
      unfold upd
      by_cases e : j = i
      · exfalso
        subst e
        rcases h3 with ⟨p, p1, p2⟩ | ⟨q1, q2, q3⟩
        · have := a p p1
          obtain ⟨w, p2'⟩ := p
          obtain ⟨k, k2⟩ := p2'
          dsimp only at this p2
          subst this
          exact p2
        · exact b q1 ⟨q2, q3⟩
      · rw [if_neg e]
  · rename_i ci fts ht
    obtain ⟨fs, j, x, h1, h2, h3⟩ := h
    intro fs' hf
    rw [h1] at hf
    cases hf
    refine ⟨_, h2, List.length_set, fun k hk => ?_⟩
    rw [List.getElem?_set_ne]
    intro e
    subst e
    rw [hk] at h3
    cases h3
  · exact h.elim
/-- what stays of the heap: types outside the set stay whole; of the others, without the second bit, what 'stay' says -/
def Fr (mk : Nat) (ph ph' : PH) : Prop := ph.length ≤ ph'.length ∧ ∀ a c, ph[a]? = some c → ∃ c', ph'[a]? = some c' ∧ (Nat.testBit mk (psi a) = false → c' = c) ∧ (Nat.testBit mk (64 + psi a) = false → stay (psi a) c c')
theorem Fr.rfl' (mk : Nat) (ph : PH) : Fr mk ph ph := ⟨Nat.le_refl _, fun a c h => ⟨c, h, fun _ => rfl, fun _ => stay.rfl' _ _⟩⟩
theorem Fr.trans {mk : Nat} {a b c : PH} (h1 : Fr mk a b) (h2 : Fr mk b c) : Fr mk a c := by
  refine ⟨Nat.le_trans h1.1 h2.1, fun x p hp => ?_⟩
  obtain ⟨q, q1, q2, q3⟩ := h1.2 x p hp
  obtain ⟨r, r1, r2, r3⟩ := h2.2 x q q1
  exact ⟨r, r1, fun z => (r2 z).trans (q2 z), fun z => (q3 z).trans (r3 z)⟩
theorem land_bit {mm mk k : Nat} (h : Nat.land mm mk = mm) (hk : Nat.testBit mk k = false) : Nat.testBit mm k = false := by
  have h : mm &&& mk = mm := h
  rw [← h, Nat.testBit_and, hk, Bool.and_false]
theorem Fr.widen {mm mk : Nat} {a b : PH} (h : Fr mm a b) (hm : Nat.land mm mk = mm) : Fr mk a b := by
  refine ⟨h.1, fun x p hp => ?_⟩
  obtain ⟨q, q1, q2, q3⟩ := h.2 x p hp
  exact ⟨q, q1, fun z => q2 (land_bit hm z), fun z => q3 (land_bit hm z)⟩
/-- a value's sign -/
def valR (σ : List Value) (v : YV) (x : Value) : Prop := match v with
  | .inl a => x = .int (oI a) ∧ a < oM
  | .inr k => σ[k]? = some x
theorem valR.mono {σ τ : List Value} {v : YV} {x : Value} (h : valR σ v x) (hs : σ <+: τ) : valR τ v x := by
  match v, h with
  | .inl _, h => exact h
  | .inr k, h =>
    obtain ⟨t, rfl⟩ := hs
    have hk := (List.getElem?_eq_some_iff.mp h).1
    show (σ ++ t)[k]? = some x
    rw [List.getElem?_append_left hk]
    exact h
def eOKY (σ : List Value) (len : Nat) (E : List (Nat × FT)) : Prop := ∀ q ∈ E, ∃ x, σ[q.1]? = some x ∧ fitT len q.2 x
/-- a cell's place holds a value: a field; an int array's place; a reference array's (below 64 a number, else a sign) -/
def atC (σ : List Value) (c : PE) (j : Nat) (x : Value) : Prop := match c with
  | .inl (n, f) => j < n ∧ x = .int (f j)
  | .inr (.inl (_, _, f)) => ∃ i a, ((j < 64 ∧ j = i) ∨ ∃ k z, j = 64 + k ∧ σ[k]? = some (.int z) ∧ 0 ≤ z ∧ z.toNatClampNeg = i) ∧ f i = some a ∧ x = .ref a
  | .inr (.inr (_, fs)) => fs[j]? = some x
def cOK (σ : List Value) (ph : PH) (C : List (Nat × Nat × YV)) : Prop := ∀ q ∈ C, ∃ (a : Nat) (c : PE) (x : Value), σ[q.1]? = some (.ref a) ∧ ph[a]? = some c ∧ atC σ c q.2.1 x ∧ valR σ q.2.2 x
def LRY (σ : List Value) (lv : List (Option YV)) (clv : PV) : Prop := ∀ i v, lv[i]? = some (some v) → ∃ x, gl clv i = some x ∧ valR σ v x
def SRY (σ : List Value) : List YV → List Value → Prop
  | [], [] => True
  | v :: st, x :: cst => valR σ v x ∧ SRY σ st cst
  | _, _ => False
theorem SRY.mono {σ τ : List Value} (hs : σ <+: τ) : ∀ {st : List YV} {cst : List Value}, SRY σ st cst → SRY τ st cst
  | [], [], _ => trivial
  | _ :: _, _ :: _, h => ⟨h.1.mono hs, SRY.mono hs h.2⟩
  | [], _ :: _, h => h.elim
  | _ :: _, [], h => h.elim
theorem LRY.mono {σ τ : List Value} (hs : σ <+: τ) {lv : List (Option YV)} {clv : PV} (h : LRY σ lv clv) : LRY τ lv clv := by
  intro i v hv
  obtain ⟨x, x1, x2⟩ := h i v hv
  exact ⟨x, x1, x2.mono hs⟩
theorem pre_get {σ τ : List Value} (hs : σ <+: τ) {k : Nat} {x : Value} (h : σ[k]? = some x) : τ[k]? = some x := valR.mono (v := .inr k) h hs
theorem atC.mono {σ τ : List Value} (hs : σ <+: τ) {c : PE} {j : Nat} {x : Value} (h : atC σ c j x) : atC τ c j x := by
  match c, h with
  | .inl _, h => exact h
  | .inr (.inl _), ⟨i, a, h1, h2⟩ =>
    refine ⟨i, a, ?_, h2⟩
    rcases h1 with h1 | ⟨k, z, a1, a2, a3⟩
    · exact Or.inl h1
    · exact Or.inr ⟨k, z, a1, pre_get hs a2, a3⟩
  | .inr (.inr _), h => exact h
theorem eOKY.mono {σ τ : List Value} (hs : σ <+: τ) {len len' : Nat} (hl : len ≤ len') {E : List (Nat × FT)} (h : eOKY σ len E) : eOKY τ len' E := by
  intro q hq
  obtain ⟨x, x1, x2⟩ := h q hq
  exact ⟨x, pre_get hs x1, x2.mono hl⟩
theorem cOK.mono {σ τ : List Value} (hs : σ <+: τ) {ph : PH} {C : List (Nat × Nat × YV)} (h : cOK σ ph C) : cOK τ ph C := by
  intro q hq
  obtain ⟨a, c, x, h1, h2, h3, h4⟩ := h q hq
  exact ⟨a, c, x, pre_get hs h1, h2, h3.mono hs, h4.mono hs⟩
theorem cI'_oI {v : Nat} (h : v < oM) : cI' (oI v) = v := by
  unfold cI'
  rw [oI_toInt h]
  omega
theorem look_ok {k : Nat} : ∀ {E : List (Nat × FT)} {p : FT}, look k E = p → p.1 ≠ 9 → (k, p) ∈ E
  | [], p, h, hn => by subst h; exact absurd rfl hn
  | q :: E, p, h, hn => by
    rw [look] at h
    cases hb : Nat.beq q.1 k with
    | true =>
      rw [hb, cond_true] at h
      have := beq_of hb
      subst this
      subst h
      exact List.mem_cons_self
    | false =>
      rw [hb, cond_false] at h
      exact List.mem_cons_of_mem _ (look_ok h hn)
/-- what is said of a value holds -/
theorem knd_ok {σ : List Value} {len : Nat} {E : List (Nat × FT)} {v : YV} {x : Value} {p : FT} (he : eOKY σ len E) (hv : valR σ v x) (h : knd E v = p) (hn : p.1 ≠ 9) : fitT len p x := by
  match v, hv with
  | .inl a, hv =>
    subst h
    refine ⟨_, hv.1, ?_, ?_⟩
    · rw [cI'_oI hv.2]; exact Nat.le_refl _
    · rw [cI'_oI hv.2]; exact Nat.le_refl _
  | .inr k, hv =>
    obtain ⟨y, y1, y2⟩ := he _ (look_ok h hn)
    have hv : σ[k]? = some x := hv
    rw [hv] at y1
    cases y1
    exact y2
theorem rngK_ok {σ : List Value} {len : Nat} {E : List (Nat × FT)} {v : YV} {x : Value} {K : Nat → Nat → YR} {l : List YO} (h : rngK E v K = some l) (he : eOKY σ len E) (hv : valR σ v x) : ∃ a b z, knd E v = (0, a, b) ∧ x = .int z ∧ a ≤ cI' z ∧ cI' z ≤ b ∧ K a b = some l := by
  unfold rngK at h
  split at h
  · rename_i a b hk
    obtain ⟨z, z1, z2, z3⟩ := knd_ok he hv hk (show (0 : Nat) ≠ 9 by decide)
    exact ⟨a, b, z, hk, z1, z2, z3, h⟩
  · cases h
theorem rngL_ok {σ : List Value} {len : Nat} {E : List (Nat × FT)} {v : YV} {x : Value} {K : Nat → Nat → YR} {l : List YO} (h : rngL E v K = some l) (he : eOKY σ len E) (hv : valR σ v x) : ∃ a b z, knd E v = (1, a, b) ∧ x = .long z ∧ a ≤ cL' z ∧ cL' z ≤ b ∧ K a b = some l := by
  unfold rngL at h
  split at h
  · rename_i a b hk
    obtain ⟨z, z1, z2, z3⟩ := knd_ok he hv hk (show (1 : Nat) ≠ 9 by decide)
    exact ⟨a, b, z, hk, z1, z2, z3, h⟩
  · cases h
theorem refK_ok {σ : List Value} {len : Nat} {E : List (Nat × FT)} {v : YV} {x : Value} {K : Nat → Nat → YR} {l : List YO} (h : refK E v K = some l) (he : eOKY σ len E) (hv : valR σ v x) : ∃ r t a, v = .inr r ∧ x = .ref a ∧ 1 ≤ a ∧ a < len ∧ psi a = t ∧ (∃ w, (r, ((2, t, w) : FT)) ∈ E) ∧ look r E = (2, t, (look r E).2.2) ∧ K r t = some l := by
  unfold refK at h
  split at h
  · rename_i r
    split at h
    · rename_i t w hk
      obtain ⟨a, a1, a2, a3, a4⟩ := knd_ok (v := .inr r) he hv hk (show (2 : Nat) ≠ 9 by decide)
      exact ⟨r, t, a, rfl, a1, a2, a3, a4, ⟨w, look_ok hk (show (2 : Nat) ≠ 9 by decide)⟩, by rw [hk], h⟩
    · cases h
  · cases h
theorem subT_ok {len : Nat} {p q : FT} {x : Value} (h : subT p q = true) (hx : fitT len p x) : fitT len q x := by
  unfold subT at h
  split at h
  · split at h
    · rw [Bool.and_eq_true] at h
      obtain ⟨z, z1, z2, z3⟩ := hx
      exact ⟨z, z1, Nat.le_trans (ble_of h.1) z2, Nat.le_trans z3 (ble_of h.2)⟩
    · cases h
  · split at h
    · rw [Bool.and_eq_true] at h
      obtain ⟨z, z1, z2, z3⟩ := hx
      exact ⟨z, z1, Nat.le_trans (ble_of h.1) z2, Nat.le_trans z3 (ble_of h.2)⟩
    · cases h
  · split at h
    · obtain ⟨r, r1, r2, r3, r4⟩ := hx
      exact ⟨r, r1, r2, r3, by rw [r4, beq_of h]⟩
    · cases h
  · cases h
theorem subT_9 {p q : FT} (h : subT p q = true) : p.1 ≠ 9 := by
  unfold subT at h
  repeat' (first | (cases h; done) | split at h)
  all_goals (first | decide | (intro e; cases e) | (simp_all; done))
theorem frK_eq (p : FT) (Y : YE) (K : YV → YE → YR) : frK p Y K = K (.inr Y.1) (Y.1 + 1, (Y.1, p) :: Y.2.1, Y.2.2) := by
  obtain ⟨c, a, b⟩ := p
  obtain ⟨n, E, C⟩ := Y
  unfold frK
  simp only [fN_eq]
def said (v : YV) (c a b : Nat) (Y : YE) : YE := match v with
  | .inl _ => Y
  | .inr k => (Y.1, (k, (c, a, b)) :: Y.2.1, Y.2.2)
theorem sayK_eq (v : YV) (a b : Nat) (Y : YE) (K : YE → YR) : sayK v a b Y K = K (said v 0 a b Y) := by
  obtain ⟨n, E, C⟩ := Y
  cases v with
  | inl _ => rfl
  | inr k => unfold sayK said; simp only [fN_eq]
theorem sayL_eq (v : YV) (a b : Nat) (Y : YE) (K : YE → YR) : sayL v a b Y K = K (said v 1 a b Y) := by
  obtain ⟨n, E, C⟩ := Y
  cases v with
  | inl _ => rfl
  | inr k => unfold sayL said; simp only [fN_eq]
theorem cadd_eq (r j : Nat) (v : YV) (Y : YE) (K : YE → YR) : cadd r j v Y K = K (Y.1, Y.2.1, (r, j, v) :: Y.2.2) := by
  obtain ⟨n, E, C⟩ := Y
  rfl
def lstS : List (Option YV) → Nat → Option YV → List (Option YV)
  | [], 0, v => [v]
  | [], i + 1, v => none :: lstS [] i v
  | _ :: t, 0, v => v :: t
  | x :: t, i + 1, v => x :: lstS t i v
theorem lstK_eq : ∀ (l : List (Option YV)) (i : Nat) (v : Option YV) (K : List (Option YV) → YR), lstK l i v K = K (lstS l i v)
  | [], 0, _, _ => rfl
  | [], i + 1, v, K => by rw [lstK, lstK_eq]; rfl
  | _ :: _, 0, _, _ => rfl
  | x :: t, i + 1, v, K => by rw [lstK, lstK_eq]; rfl
theorem lstS_get : ∀ (l : List (Option YV)) (i j : Nat) (v : Option YV) (w : YV), (lstS l i v)[j]? = some (some w) → (j = i ∧ v = some w) ∨ (j ≠ i ∧ l[j]? = some (some w))
  | [], 0, 0, v, w, h => by
    rw [lstS, List.getElem?_cons_zero] at h
    exact Or.inl ⟨rfl, Option.some.inj h⟩
  | [], 0, j + 1, v, w, h => by simp [lstS] at h
  | [], i + 1, 0, v, w, h => by simp [lstS] at h
  | [], i + 1, j + 1, v, w, h => by
    rw [lstS, List.getElem?_cons_succ] at h
    rcases lstS_get [] i j v w h with ⟨a, b⟩ | ⟨_, b⟩
    · exact Or.inl ⟨by omega, b⟩
    · simp at b
  | x :: t, 0, 0, v, w, h => by
    rw [lstS, List.getElem?_cons_zero] at h
    exact Or.inl ⟨rfl, Option.some.inj h⟩
  | x :: t, 0, j + 1, v, w, h => by
    rw [lstS, List.getElem?_cons_succ] at h
    exact Or.inr ⟨by omega, by rw [List.getElem?_cons_succ]; exact h⟩
  | x :: t, i + 1, 0, v, w, h => by
    rw [lstS, List.getElem?_cons_zero] at h
    exact Or.inr ⟨by omega, by rw [List.getElem?_cons_zero]; exact h⟩
  | x :: t, i + 1, j + 1, v, w, h => by
    rw [lstS, List.getElem?_cons_succ] at h
    rcases lstS_get t i j v w h with ⟨a, b⟩ | ⟨a, b⟩
    · exact Or.inl ⟨by omega, b⟩
    · exact Or.inr ⟨by omega, by rw [List.getElem?_cons_succ]; exact b⟩
theorem yapp_ok {x y : YR} {l : List YO} (h : yapp x y = some l) : ∃ a b, x = some a ∧ y = some b ∧ l = a ++ b := by
  unfold yapp at h
  cases x with
  | none => cases h
  | some a =>
    cases y with
    | none => cases h
    | some b =>
      cases h
      exact ⟨a, b, rfl, rfl, rfl⟩

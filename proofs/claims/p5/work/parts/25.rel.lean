/-! ===== what the evaluator's states stand for ===== -/
def cvV (σ : Nat → Int32) : AV → Value
  | .inl v => .int (oI v)
  | .inr (.inl k) => .int (σ k)
  | .inr (.inr (.inl w)) => .long (oL w)
  | .inr (.inr (.inr (some a))) => .ref a
  | .inr (.inr (.inr none)) => .null
def eOK (σ : Nat → Int32) (env : EV) : Prop := ∀ k, (eget env k).1 ≤ cI' (σ k) ∧ cI' (σ k) ≤ (eget env k).2
def cellR (σ : Nat → Int32) : AC → PE → Prop
  | .inl q, .inl r => q.1 = r.1 ∧ q.1 ≤ 2 ^ q.2.1 ∧ ∀ j, j < q.1 → cvV σ (tget AV q.2.1 j q.2.2) = .int (r.2 j)
  | .inr (.inl q), .inr (.inl r) => q.1 = r.1 ∧ q.2.length = r.2.1 ∧ aoK q.1 = true ∧ ∀ j, j < r.2.1 → q.2[j]? = some (r.2.2 j)
  | .inr (.inr q), .inr (.inr r) => q.1 = r.1 ∧ r.2 = q.2.map (cvV σ)
  | _, _ => False
def HR (σ : Nat → Int32) (h : HT) (hn : Nat) (ph : PH) : Prop := hn ≤ 256 ∧ 2 ≤ hn ∧ ph.length = hn ∧ ∀ v, v < hn → ∃ c, ph[v]? = some c ∧ cellR σ (tget AC 8 v h) c
def LR (σ : Nat → Int32) (lv : List (Option AV)) (clv : PV) : Prop := ∀ i v, lv[i]? = some (some v) → gl clv i = some (cvV σ v)
theorem cvV_cat {σ : Nat → Int32} {v : AV} (h : isLo (some v) = false) : (cvV σ v).category = 1 := by
  match v, h with
  | .inl _, _ => rfl
  | .inr (.inl _), _ => rfl
  | .inr (.inr (.inl _)), h => cases h
  | .inr (.inr (.inr (some _))), _ => rfl
  | .inr (.inr (.inr none)), _ => rfl
theorem cvV_cat2 {σ : Nat → Int32} {v : AV} (h : (cvV σ v).category = 2) : isLo (some v) = true := by
  cases hl : isLo (some v) with
  | true => rfl
  | false => rw [cvV_cat hl] at h; cases h
theorem find_filter {α : Type} {p q : α → Bool} : ∀ {l : List α} {a : α}, l.find? p = some a → q a = true → (l.filter q).find? p = some a
  | [], _, h, _ => by cases h
  | x :: l, a, h, ha => by
    rw [List.find?_cons] at h
    cases hx : p x with
    | true =>
      rw [hx] at h
      cases h
      rw [List.filter_cons_of_pos ha, List.find?_cons, hx]
    | false =>
      rw [hx] at h
      cases hq : q x with
      | true => rw [List.filter_cons_of_pos hq, List.find?_cons, hx]; exact find_filter h ha
      | false => rw [List.filter_cons_of_neg (by simp [hq])]; exact find_filter h ha
theorem gl_sl1 {clv : PV} {i j : Nat} {u w : Value} (h : gl clv j = some u) (hne : j ≠ i) (hc : ¬ (j + 1 = i ∧ u.category = 2)) : gl (sl1 clv i w) j = some u := by
  unfold gl at h ⊢
  obtain ⟨q, hq, rfl⟩ := Option.map_eq_some_iff.mp h
  have hj : q.1 = j := by simpa using List.find?_some hq
  unfold sl1
  rw [List.find?_cons, show ((i, w).1 == j) = false by simpa using fun e => hne e.symm, find_filter hq]
  · rfl
  · have a1 : ¬ q.1 = i := by rw [hj]; exact hne
    rw [hj] at a1 ⊢
    simp only [Bool.and_eq_true, Bool.not_eq_true', beq_eq_false_iff_ne, ne_eq, Bool.and_eq_false_iff]
    refine ⟨a1, ?_⟩
    by_cases z : j + 1 = i
    · exact Or.inr fun y => hc ⟨z, y⟩
    · exact Or.inl z
theorem gl_sl1_self (clv : PV) (i : Nat) (w : Value) : gl (sl1 clv i w) i = some w := by
  unfold gl sl1
  rw [List.find?_cons]
  simp
theorem gl_sl2 {clv : PV} {i j : Nat} {u w : Value} (h : gl clv j = some u) (hne : j ≠ i) (hn2 : j ≠ i + 1) (hc : ¬ (j + 1 = i ∧ u.category = 2)) : gl (sl2 clv i w) j = some u := by
  unfold gl at h ⊢
  obtain ⟨q, hq, rfl⟩ := Option.map_eq_some_iff.mp h
  have hj : q.1 = j := by simpa using List.find?_some hq
  unfold sl2
  rw [List.find?_cons, show ((i, w).1 == j) = false by simpa using fun e => hne e.symm, find_filter hq]
  · rfl
  · rw [hj]
    simp only [Bool.and_eq_true, Bool.not_eq_true', beq_eq_false_iff_ne, ne_eq, Bool.and_eq_false_iff]
    refine ⟨hne, hn2, ?_⟩
    by_cases z : j + 1 = i
    · exact Or.inr fun y => hc ⟨z, y⟩
    · exact Or.inl z
theorem gl_sl2_self (clv : PV) (i : Nat) (w : Value) : gl (sl2 clv i w) i = some w := by
  unfold gl sl2
  rw [List.find?_cons]
  simp
theorem lst1_get : ∀ (lv : List (Option AV)) (i j : Nat) (v w : AV), (lst1 lv i v)[j]? = some (some w) → (j = i ∧ w = v) ∨ (j ≠ i ∧ lv[j]? = some (some w) ∧ ¬ (j + 1 = i ∧ isLo (some w) = true))
  | [], 0, 0, v, w, h => by
    simp [lst1] at h
    exact Or.inl ⟨rfl, h.symm⟩
  | [], 0, j + 1, v, w, h => by simp [lst1] at h
  | [], i + 1, 0, v, w, h => by simp [lst1] at h
  | [], i + 1, j + 1, v, w, h => by
    rw [lst1, List.getElem?_cons_succ] at h
    rcases lst1_get [] i j v w h with ⟨a, b⟩ | ⟨a, b, _⟩
    · exact Or.inl ⟨by omega, b⟩
    · simp at b
  | x :: t, 0, 0, v, w, h => by
    simp [lst1] at h
    exact Or.inl ⟨rfl, h.symm⟩
  | x :: t, 0, j + 1, v, w, h => by
    rw [lst1, List.getElem?_cons_succ] at h
    exact Or.inr ⟨by omega, by rw [List.getElem?_cons_succ]; exact h, by omega⟩
  | x :: t, i + 1, 0, v, w, h => by
    rw [lst1, List.getElem?_cons_zero] at h
    have h2 := Option.some.inj h
    refine Or.inr ⟨by omega, ?_, ?_⟩
    · cases hb : (Nat.beq i 0 && isLo x) with
      | true => rw [hb] at h2; cases h2
      | false => rw [hb] at h2; rw [List.getElem?_cons_zero]; exact h
                |> fun _ => congrArg some h2
    · rintro ⟨z, y⟩
      have hi : i = 0 := by omega
      subst hi
      cases hb : isLo x with
      | true => rw [hb] at h2; cases h2
      | false =>
        rw [hb] at h2
        have h3 : x = some w := h2
        rw [h3, y] at hb
        cases hb
  | x :: t, i + 1, j + 1, v, w, h => by
    rw [lst1, List.getElem?_cons_succ] at h
    rcases lst1_get t i j v w h with ⟨a, b⟩ | ⟨a, b, c⟩
    · exact Or.inl ⟨by omega, b⟩
    · exact Or.inr ⟨by omega, by rw [List.getElem?_cons_succ]; exact b, fun z => c ⟨by omega, z.2⟩⟩
theorem lclr_get : ∀ (lv : List (Option AV)) (i j : Nat) (w : AV), (lclr lv i)[j]? = some (some w) → j ≠ i ∧ lv[j]? = some (some w)
  | [], i, j, w, h => by simp [lclr] at h
  | x :: t, 0, 0, w, h => by simp [lclr] at h
  | x :: t, 0, j + 1, w, h => by
    rw [lclr, List.getElem?_cons_succ] at h
    exact ⟨by omega, by rw [List.getElem?_cons_succ]; exact h⟩
  | x :: t, i + 1, 0, w, h => by
    rw [lclr, List.getElem?_cons_zero] at h
    exact ⟨by omega, by rw [List.getElem?_cons_zero]; exact h⟩
  | x :: t, i + 1, j + 1, w, h => by
    rw [lclr, List.getElem?_cons_succ] at h
    obtain ⟨a, b⟩ := lclr_get t i j w h
    exact ⟨by omega, by rw [List.getElem?_cons_succ]; exact b⟩
theorem LR.st1 {σ : Nat → Int32} {lv : List (Option AV)} {clv : PV} (h : LR σ lv clv) (i : Nat) (v : AV) : LR σ (lst1 lv i v) (sl1 clv i (cvV σ v)) := by
  intro j w hw
  rcases lst1_get lv i j v w hw with ⟨rfl, rfl⟩ | ⟨a, b, c⟩
  · exact gl_sl1_self _ _ _
  · exact gl_sl1 (h j w b) a fun z => c ⟨z.1, cvV_cat2 z.2⟩
theorem LR.st2 {σ : Nat → Int32} {lv : List (Option AV)} {clv : PV} (h : LR σ lv clv) (i : Nat) (v : AV) : LR σ (lclr (lst1 lv i v) (i + 1)) (sl2 clv i (cvV σ v)) := by
  intro j w hw
  obtain ⟨d, hw⟩ := lclr_get _ _ _ _ hw
  rcases lst1_get lv i j v w hw with ⟨rfl, rfl⟩ | ⟨a, b, c⟩
  · exact gl_sl2_self _ _ _
  · exact gl_sl2 (h j w b) a d fun z => c ⟨z.1, cvV_cat2 z.2⟩
theorem vK_ok {σ : Nat → Int32} {env : EV} {v : AV} {a : Nat} (he : eOK σ env) (h : vK v env = some a) : cvV σ v = .int (oI a) ∧ a < oM := by
  match v, h with
  | .inl b, h =>
    unfold vK at h
    cases hb : Nat.blt b oM with
    | true =>
      simp only [hb, cond_true] at h
      cases h
      exact ⟨rfl, blt_iff.mp hb⟩
    | false => simp [hb] at h
  | .inr (.inl k), h =>
    unfold vK at h
    cases hb : Nat.beq (eget env k).1 (eget env k).2 with
    | true =>
      simp only [hb, cond_true] at h
      cases h
      have e := Nat.eq_of_beq_eq_true hb
      have h2 := he k
      have h3 : cI' (σ k) = (eget env k).1 := by omega
      refine ⟨?_, by rw [← h3]; exact cI'_lt _⟩
      rw [← h3, oI_cI]
      rfl
    | false => simp [hb] at h
  | .inr (.inr (.inl _)), h => cases h
  | .inr (.inr (.inr _)), h => cases h
theorem symOf_ok {σ : Nat → Int32} {v : AV} {k : Nat} (h : symOf v = some k) : v = .inr (.inl k) ∧ cvV σ v = .int (oI (cI' (σ k))) := by
  match v, h with
  | .inr (.inl j), h =>
    cases h
    exact ⟨rfl, by rw [oI_cI]; rfl⟩
theorem eOK.set {σ : Nat → Int32} {env : EV} (he : eOK σ env) (k lo hi : Nat) (h1 : lo ≤ cI' (σ k)) (h2 : cI' (σ k) ≤ hi) : eOK σ (env.set k (lo, hi)) := by
  intro j
  have h3 := he j
  unfold eget at h3 ⊢
  rw [List.getD_eq_getElem?_getD] at h3 ⊢
  rw [List.getElem?_set]
  by_cases hj : k = j
  · subst hj
    rw [if_pos rfl]
    by_cases hl : k < env.length
    · rw [if_pos hl]
      exact ⟨h1, h2⟩
    · rw [if_neg hl]
      rw [List.getElem?_eq_none (by omega)] at h3
      exact h3
  · rw [if_neg hj]
    exact h3

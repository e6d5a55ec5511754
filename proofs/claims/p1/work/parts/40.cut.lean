/-! ===== the two loops over ticks, an iteration each ===== -/
def rangeB (p q : Nat × Nat) : Bool := Nat.ble p.1 q.1 && Nat.ble q.2 p.2
/-- all that env says, E says -/
def subE (E env : EV) : Bool := Nat.beq E.length 5 && Nat.beq env.length 5 && rangeB (eget E 0) (eget env 0) && rangeB (eget E 1) (eget env 1) && rangeB (eget E 2) (eget env 2) && rangeB (eget E 3) (eget env 3) && rangeB (eget E 4) (eget env 4)
theorem rangeB_ok {p q : Nat × Nat} {x : Nat} (h : rangeB p q = true) (hx : q.1 ≤ x ∧ x ≤ q.2) : p.1 ≤ x ∧ x ≤ p.2 := by
  unfold rangeB at h
  rw [Bool.and_eq_true] at h
  have h1 := ble_of h.1
  have h2 := ble_of h.2
  omega
theorem subE_ok {σ : Nat → Int32} {E env : EV} (h : subE E env = true) (he : eOK σ env) : eOK σ E := by
  unfold subE at h
  simp only [Bool.and_eq_true] at h
  obtain ⟨⟨⟨⟨⟨⟨l1, l2⟩, h0⟩, h1⟩, h2⟩, h3⟩, h4⟩ := h
  have l1 := beq_of l1
  have l2 := beq_of l2
  intro k
  match k with
  | 0 => exact rangeB_ok h0 (he 0)
  | 1 => exact rangeB_ok h1 (he 1)
  | 2 => exact rangeB_ok h2 (he 2)
  | 3 => exact rangeB_ok h3 (he 3)
  | 4 => exact rangeB_ok h4 (he 4)
  | k + 5 =>
    have e1 : eget E (k + 5) = (0, 0) := by
      unfold eget
      rw [List.getD_eq_getElem?_getD, List.getElem?_eq_none (by omega)]
      rfl
    have e2 : eget env (k + 5) = (0, 0) := by
      unfold eget
      rw [List.getD_eq_getElem?_getD, List.getElem?_eq_none (by omega)]
      rfl
    have h5 := he (k + 5)
    rw [e2] at h5
    rw [e1]
    exact h5
def loI (i : Nat) : Nat := Nat.casesOn i (oZ + 1) (fun k => oZ + Nat.succ k)
def Ei (E : EV) (ks i : Nat) : EV := E.set ks (loI i, (eget E ks).2)
def lvI (a ks v : Nat) : List (Option AV) := [some (.inr (.inr (.inr (some a)))), some (.inr (.inl ks)), some (.inl oZ), some (.inl v)]
def lvEq (lv : List (Option AV)) (a ks v : Nat) : Bool := match lv with
  | [some (.inr (.inr (.inr (some a')))), some (.inr (.inl k')), some (.inl s'), some (.inl v')] => Nat.beq a' a && Nat.beq k' ks && Nat.beq s' oZ && Nat.beq v' v
  | _ => false
theorem lvEq_ok {lv : List (Option AV)} {a ks v : Nat} (h : lvEq lv a ks v = true) : lv = lvI a ks v := by
  unfold lvEq at h
  split at h
  case h_2 => cases h
  simp only [Bool.and_eq_true] at h
  obtain ⟨⟨⟨h1, h2⟩, h3⟩, h4⟩ := h
  rw [beq_of h1, beq_of h2, beq_of h3, beq_of h4]
  rfl
def nilB (st : List AV) : Bool := match st with
  | [] => true
  | _ => false
theorem nilB_ok {st : List AV} (h : nilB st = true) : st = [] := by
  cases st with
  | nil => rfl
  | cons _ _ => cases h
/-- the methods with a cut, by its number -/
def mNo (no : Nat) : Nat := bif Nat.beq no 1 then 62 else 144
/-- what is known at a cut: the loop's local i, the heap -/
noncomputable def cutK (no D a ks hn : Nat) (E : EV) (H Hs : HT) (v : Nat) : CP := fun _ e _ _ lv st h hn' nc ns env d =>
  bif Nat.beq e.2.2.1 no && Nat.beq e.1 4 && Nat.beq d D && Nat.beq hn' hn && Nat.beq nc 0 && Nat.beq ns 0 && lvEq lv a ks v && nilB st && subE E env && eqH (eqVE env) 8 h H then some [(some (.inl oZ), Hs, hn, 0, 0, env)] else none
def LoopOK (σ : Nat → Int32) (no D a ks hn : Nat) (E : EV) (H Hs : HT) (v : Nat) : Prop := eOK σ E → ∀ (clv : PV) (ph : PH), HR σ H hn ph → LR σ (lvI a ks v) clv → ∃ (m : Nat) (ph' : PH), run m D (mNo no) (4, clv, [], ph, 0, 0) = some (some (.int 0), ph', 0, 0) ∧ HR σ Hs hn ph'
theorem cut_only : (List.range 186).all (fun k => match mT[k]? with
  | some M => (!cutB M 1 || Nat.beq k 62) && (!cutB M 2 || Nat.beq k 144)
  | none => false) = true := by decide +kernel
theorem cut_mi {no mi : Nat} {M : MR} (hn : no = 1 ∨ no = 2) (hM : mT[mi]? = some M) (hc : cutB M no = true) : mi = mNo no := by
  have hlt : mi < 186 := by rw [← ce_mT]; exact (List.getElem?_eq_some_iff.mp hM).1
  have h := List.all_eq_true.mp cut_only mi (List.mem_range.mpr hlt)
  rw [hM] at h
  simp only [Bool.and_eq_true, Bool.or_eq_true, Bool.not_eq_true'] at h
  rcases hn with e | e
  · subst e
    rcases h.1 with z | z
    · rw [hc] at z; cases z
    · rw [beq_of z]; rfl
  · subst e
    rcases h.2 with z | z
    · rw [hc] at z; cases z
    · rw [beq_of z]; rfl
theorem cut_ok {σ : Nat → Int32} {no D a ks hn : Nat} {E : EV} {H Hs : HT} {v : Nat} (hno : no = 1 ∨ no = 2) (hL : LoopOK σ no D a ks hn E H Hs v) : CutOK σ (cutK no D a ks hn E H Hs v) := by
  intro ih e full rest lv st h hn' nc ns env d l hb mi M pc clv ph hA hcut he hH hLR
  unfold cutK at hb
  cases hc : (Nat.beq e.2.2.1 no && Nat.beq e.1 4 && Nat.beq d D && Nat.beq hn' hn && Nat.beq nc 0 && Nat.beq ns 0 && lvEq lv a ks v && nilB st && subE E env && eqH (eqVE env) 8 h H) with
  | false => rw [hc] at hb; cases hb
  | true =>
    rw [hc, cond_true] at hb
    cases hb
    simp only [Bool.and_eq_true] at hc
    obtain ⟨⟨⟨⟨⟨⟨⟨⟨⟨c1, c2⟩, c3⟩, c4⟩, c5⟩, c6⟩, c7⟩, c8⟩, c9⟩, c10⟩ := hc
    have c1 := beq_of c1
    have c2 := beq_of c2
    have c3 := beq_of c3
    have c4 := beq_of c4
    have c5 := beq_of c5
    have c6 := beq_of c6
    have c7 := lvEq_ok c7
    have c8 := nilB_ok c8
    subst c3 c4 c5 c6 c7 c8
    obtain ⟨hM, hf, j, e1, r1, h1, h2, h3⟩ := hA
    cases h1
    rw [c1] at hcut
    have hmi := cut_mi hno hM hcut
    subst hmi
    have hpc : pc = 4 := by rw [← h3, c2]
    subst hpc
    obtain ⟨m, ph', r1, r2⟩ := hL (subE_ok c9 he) clv ph (eqH_ok (fun a b hab => eqVE_ok he hab) c10 hH) hLR
    refine ⟨_, List.mem_cons_self, m, ph', ?_, r2, he⟩
    rw [List.map_nil, r1]
    show _ = some (some (Value.int (oI oZ)), _)
    rw [oI_z]
def okLo (hn : Nat) (Hs : HT) (eq : EV → HT → HT → Bool) (o : CO) : Bool := (match o.1 with
  | some (.inl v) => Nat.beq v oZ
  | _ => false) && Nat.beq o.2.2.1 hn && Nat.beq o.2.2.2.1 0 && Nat.beq o.2.2.2.2.1 0 && eq o.2.2.2.2.2 o.2.1 Hs
noncomputable def eqHE (env : EV) (h H : HT) : Bool := eqH (eqVE env) 8 h H
def okL (hn : Nat) (Hs : HT) (eq : EV → HT → HT → Bool) (x : CR) : Bool := match x with
  | some l => l.all (okLo hn Hs eq)
  | none => false
theorem kc62_eq : codeOf 62 = kc62 := rfl
theorem kc144_eq : codeOf 144 = kc144 := rfl
def kcNo (no : Nat) : List CE := bif Nat.beq no 1 then kc62 else kc144
def fst4 (l : List CE) : Bool := match l with
  | e :: _ => Nat.beq e.1 4
  | [] => false
theorem fst4_1 : fst4 (kc62.drop 5) = true := by decide +kernel
theorem fst4_2 : fst4 (kc144.drop 5) = true := by decide +kernel
theorem fst4_ok {l : List CE} (h : fst4 l = true) : ∃ e r, l = e :: r ∧ e.1 = 4 := by
  cases l with
  | nil => cases h
  | cons e r => exact ⟨e, r, rfl, beq_of h⟩
theorem cut_at {no : Nat} (hno : no = 1 ∨ no = 2) : ∃ M, AtC (mNo no) M (kcNo no) ((kcNo no).drop 5) 4 := by
  rcases hno with e | e
  · subst e
    have hlt : 62 < mT.length := by rw [ce_mT]; decide
    obtain ⟨e, r, h1, h2⟩ := fst4_ok fst4_1
    exact ⟨mT[62], List.getElem?_eq_getElem hlt, kc62_eq.symm, 5, e, r, h1, rfl, h2⟩
  · subst e
    have hlt : 144 < mT.length := by rw [ce_mT]; decide
    obtain ⟨e, r, h1, h2⟩ := fst4_ok fst4_2
    exact ⟨mT[144], List.getElem?_eq_getElem hlt, kc144_eq.symm, 5, e, r, h1, rfl, h2⟩
/-- the evaluator over an iteration -/
noncomputable def itX (B : CP) (no D a ks hn : Nat) (E : EV) (H : HT) (v : Nat) : CR := cx B 100000 (kcNo no) ((kcNo no).drop 5) (lvI a ks v) [] H hn 0 0 E D
theorem loop_step {σ : Nat → Int32} {B : CP} {no D a ks hn : Nat} {E : EV} {H Hs : HT} {v : Nat} (hσ : σ 4 = σ 0 &&& 31) (hno : no = 1 ∨ no = 2) (hB : CutOK σ B) (h : okL hn Hs eqHE (itX B no D a ks hn E H v) = true) : LoopOK σ no D a ks hn E H Hs v := by
  intro he clv ph hH hL
  unfold itX okL at h
  generalize hr : cx B 100000 (kcNo no) ((kcNo no).drop 5) (lvI a ks v) [] H hn 0 0 E D = r at h
  cases r with
  | none => cases h
  | some l =>
    obtain ⟨M, hA⟩ := cut_at hno
    obtain ⟨o, ho, m, ph', h1, h2, h3⟩ := (cx_ok (B := B) cert_all copies_ok hσ hB 100000).2 (mNo no) M _ _ _ _ _ _ _ _ _ _ l hr 4 clv ph hA he hH hL
    have hok := List.all_eq_true.mp h o ho
    unfold okLo at hok
    simp only [Bool.and_eq_true] at hok
    obtain ⟨⟨⟨⟨a1, a2⟩, a3⟩, a4⟩, a5⟩ := hok
    split at a1
    case h_2 => cases a1
    rename_i w hw
    rw [hw, beq_of a1, beq_of a3, beq_of a4] at h1
    refine ⟨m, ph', ?_, ?_⟩
    · rw [List.map_nil] at h1
      rw [h1]
      show some (some (Value.int (oI oZ)), _) = _
      rw [oI_z]
    · rw [beq_of a2] at h2
      exact eqH_ok (fun a b hab => eqVE_ok h3 hab) a5 h2
/-- all iterations from a heap of each -/
noncomputable def itOK (no D a ks hn : Nat) (E : EV) (Hi : Nat → HT) (Hs : HT) (i : Nat) : Bool := okL hn Hs eqHE (itX (cutK no D a ks hn (Ei E ks (i + 1)) (Hi (i + 1)) Hs (oZ + (i + 1))) no D a ks hn (Ei E ks i) (Hi i) (oZ + i))
theorem loop_all {σ : Nat → Int32} {no D a ks hn : Nat} {E : EV} {Hi : Nat → HT} {Hs : HT} {N : Nat} (hσ : σ 4 = σ 0 &&& 31) (hno : no = 1 ∨ no = 2) (hks : ks < E.length) (hN : (eget E ks).2 = oZ + N) (h : ∀ i, i ≤ N → itOK no D a ks hn E Hi Hs i = true) : ∀ (k i : Nat), i + k = N + 1 → LoopOK σ no D a ks hn (Ei E ks i) (Hi i) Hs (oZ + i)
  | 0, i, hi => by
    intro he
    have h1 := he ks
    unfold Ei eget at h1
    rw [List.getD_eq_getElem?_getD, List.getElem?_set_self hks] at h1
    have h2 : loI i ≤ (eget E ks).2 := Nat.le_trans h1.1 h1.2
    rw [hN] at h2
    have h3 : loI i = oZ + i := by
      have : i = N + 1 := by omega
      subst this
      rfl
    omega
  | k + 1, i, hi => loop_step hσ hno (cut_ok hno (loop_all hσ hno hks hN h k (i + 1) (by omega))) (h i (by omega))
/-- one cut or the other -/
noncomputable def orK (B C : CP) : CP := fun ih e full rest lv st h hn nc ns env d => match B ih e full rest lv st h hn nc ns env d with
  | some l => some l
  | none => C ih e full rest lv st h hn nc ns env d
theorem orK_ok {σ : Nat → Int32} {B C : CP} (hB : CutOK σ B) (hC : CutOK σ C) : CutOK σ (orK B C) := by
  intro ih e full rest lv st h hn nc ns env d l hl
  unfold orK at hl
  split at hl
  case h_1 l' hb =>
    cases hl
    exact hB ih e full rest lv st h hn nc ns env d _ hb
  case h_2 => exact hC ih e full rest lv st h hn nc ns env d l hl

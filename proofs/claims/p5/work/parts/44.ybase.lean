/-! ===== the abstract machine: a step, a new sign, one more word ===== -/
def optR (σ : List Value) (v : Option YV) (x : Option Value) : Prop := match v, x with
  | none, none => True
  | some a, some b => valR σ a b
  | _, _ => False
section YA
variable {GI : PH → Prop} {mk D : Nat} {σ : List Value}
/-- one of the ends is the run's -/
def GoodY (GI : PH → Prop) (mk : Nat) (σ : List Value) (d mi pc : Nat) (clv : PV) (cst : List Value) (ph : PH) (nc ns : Nat) (l : List YO) : Prop :=
  ∃ o ∈ l, ∃ (m : Nat) (v : Option Value) (ph' : PH) (nc' ns' : Nat) (σ' : List Value), run m d mi (pc, clv, cst, ph, nc, ns) = some (v, ph', nc', ns') ∧ σ <+: σ' ∧ o.2.1 = σ'.length ∧ eOKY σ' ph'.length o.2.2.1 ∧ cOK σ' ph' o.2.2.2 ∧ WT ph' ∧ GI ph' ∧ Fr mk ph ph' ∧ optR σ' o.1 v
/-- a state stands for another -/
def YS (GI : PH → Prop) (σ : List Value) (Y : YE) (lv : List (Option YV)) (st : List YV) (clv : PV) (cst : List Value) (ph : PH) : Prop :=
  Y.1 = σ.length ∧ eOKY σ ph.length Y.2.1 ∧ cOK σ ph Y.2.2 ∧ LRY σ lv clv ∧ SRY σ st cst ∧ WT ph ∧ GI ph
def IHy (GI : PH → Prop) (mk D : Nat) (ih : YB) : Prop := (∀ full lv st Y d, ih full [] lv st Y d = none) ∧
  ∀ (mi : Nat) (M : MR) (full cur : List CE) (lv : List (Option YV)) (st : List YV) (Y : YE) (d : Nat) (l : List YO), ih full cur lv st Y d = some l → ∀ (σ : List Value) (pc : Nat) (clv : PV) (cst : List Value) (ph : PH) (nc ns : Nat), AtC mi M full cur pc → d ≤ D → YS GI σ Y lv st clv cst ph → GoodY GI mk σ d mi pc clv cst ph nc ns l
variable {ih : YB} {e : CE} {full rest : List CE} {lv lv' : List (Option YV)} {st st' : List YV} {Y Y' : YE} {d mi pc nc ns : Nat} {l l' : List YO} {M : MR} {clv clv' : PV} {cst cst' : List Value} {ph ph' : PH} {σ' : List Value}
theorem GoodY.mono (h : GoodY GI mk σ d mi pc clv cst ph nc ns l) (hs : ∀ o ∈ l, o ∈ l') : GoodY GI mk σ d mi pc clv cst ph nc ns l' := by
  obtain ⟨o, ho, r⟩ := h
  exact ⟨o, hs o ho, r⟩
theorem gy_step {pc' nc' ns' len : Nat} {i : Instr} (hM : mT[mi]? = some M) (hd : decode (mC M) pc = .ok (i, len)) (hc : x_ca (mO M) i len cst ph = none) (hr : x_re M i len cst = none)
    (hs : stp M d i len (pc, clv, cst, ph, nc, ns) = some (pc', clv', cst', ph', nc', ns')) (hp : σ <+: σ') (hF : Fr mk ph ph') (h : GoodY GI mk σ' d mi pc' clv' cst' ph' nc' ns' l) : GoodY GI mk σ d mi pc clv cst ph nc ns l := by
  obtain ⟨o, ho, m, v, ph2, nc2, ns2, σ2, h1, h2, h3, h4, h5, h6, h7, h8, h9⟩ := h
  refine ⟨o, ho, m + 1, v, ph2, nc2, ns2, σ2, ?_, hp.trans h2, h3, h4, h5, h6, h7, hF.trans h8, h9⟩
  exact run_step hM hd hc hr hs h1
theorem gy_next (hC : CertAll) (hI : IHy GI mk D ih) (hA : AtC mi M full (e :: rest) pc) {n : Nat} (hlen : e.2.2.2.2.2.1 = n) (hD : d ≤ D) (hr : ih full rest lv' st' Y' d = some l) (hS : YS GI σ Y' lv' st' clv' cst' ph) : GoodY GI mk σ d mi (pc + n) clv' cst' ph nc ns l := by
  obtain ⟨hM, hf, j, e1, r1, h1, h2, h3⟩ := hA
  cases h1
  cases rest with
  | nil => rw [hI.1] at hr; cases hr
  | cons f r =>
    have h4 := adj_drop full j e f r (by rw [hf]; exact (hC mi M hM).2.1) h2
    refine hI.2 mi M full (f :: r) lv' st' Y' d l hr σ _ clv' cst' ph nc ns ⟨hM, hf, j + 1, f, r, rfl, ?_, by rw [h4, h3, hlen]⟩ hD hS
    rw [← List.drop_drop, h2]
    rfl
theorem gy_jump (hI : IHy GI mk D ih) (hM : mT[mi]? = some M) (hf : full = codeOf mi) {b : Nat} {o : Int} {t : Nat} (hj : jB full b pc o = true) (ht : tg pc o = some t) (hD : d ≤ D) (hr : ih full (full.drop b) lv' st' Y' d = some l) (hS : YS GI σ Y' lv' st' clv' cst' ph) : GoodY GI mk σ d mi t clv' cst' ph nc ns l := by
  unfold jB at hj
  rw [ht] at hj
  dsimp only at hj
  cases hb : full[b]? with
  | none => rw [hb] at hj; cases hj
  | some f =>
    rw [hb] at hj
    have h1 := beq_of hj
    have h2 : full.drop b = f :: full.drop (b + 1) := by
      obtain ⟨hlt, hg⟩ := List.getElem?_eq_some_iff.mp hb
      rw [List.drop_eq_getElem_cons hlt, hg]
    exact hI.2 mi M full (full.drop b) lv' st' Y' d l hr σ t clv' cst' ph nc ns ⟨hM, hf, b, f, _, h2, rfl, h1⟩ hD hS
/-- an instruction that leaves the heap alone -/
theorem gy_plain (hC : CertAll) (hI : IHy GI mk D ih) (hA : AtC mi M full (e :: rest) pc) (hD : d ≤ D) {n : Nat} {i : Instr} (hlen : e.2.2.2.2.2.1 = n) (hd : decode (mC M) pc = .ok (i, n)) (hc : x_ca (mO M) i n cst ph = none) (hr : x_re M i n cst = none)
    (hs : stp M d i n (pc, clv, cst, ph, nc, ns) = some (pc + n, clv', cst', ph, nc, ns)) (hp : σ <+: σ') (hS : YS GI σ' Y' lv' st' clv' cst' ph) (h : ih full rest lv' st' Y' d = some l) : GoodY GI mk σ d mi pc clv cst ph nc ns l :=
  gy_step hA.1 hd hc hr hs hp (Fr.rfl' _ _) (gy_next hC hI hA hlen hD h hS)
theorem YS.push (hS : YS GI σ Y lv st clv cst ph) {v : YV} {x : Value} (hv : valR σ v x) : YS GI σ Y lv (v :: st) clv (x :: cst) ph := by
  obtain ⟨h1, h2, h3, h4, h5, h6⟩ := hS
  exact ⟨h1, h2, h3, h4, ⟨hv, h5⟩, h6⟩
theorem YS.pop {v : YV} (hS : YS GI σ Y lv (v :: st) clv cst ph) : ∃ x cst', cst = x :: cst' ∧ valR σ v x ∧ YS GI σ Y lv st clv cst' ph := by
  obtain ⟨h1, h2, h3, h4, h5, h6⟩ := hS
  match cst, h5 with
  | x :: cst', h5 => exact ⟨x, cst', rfl, h5.1, h1, h2, h3, h4, h5.2, h6⟩
theorem YS.nil (hS : YS GI σ Y lv [] clv cst ph) : cst = [] := by
  obtain ⟨h1, h2, h3, h4, h5, h6⟩ := hS
  match cst, h5 with
  | [], _ => rfl
theorem YS.env (hS : YS GI σ Y lv st clv cst ph) : eOKY σ ph.length Y.2.1 := hS.2.1
theorem pre_app (σ : List Value) (x : Value) : σ <+: σ ++ [x] := ⟨[x], rfl⟩
theorem YS.fresh (hS : YS GI σ Y lv st clv cst ph) {p : FT} {x : Value} (hx : fitT ph.length p x) : YS GI (σ ++ [x]) (Y.1 + 1, (Y.1, p) :: Y.2.1, Y.2.2) lv st clv cst ph ∧ valR (σ ++ [x]) (.inr Y.1) x := by
  obtain ⟨h1, h2, h3, h4, h5, h6⟩ := hS
  have hp := pre_app σ x
  have hg : (σ ++ [x])[Y.1]? = some x := by
    rw [h1, List.getElem?_append_right (Nat.le_refl _), Nat.sub_self]
    rfl
  refine ⟨⟨?_, ?_, h3.mono hp, h4.mono hp, SRY.mono hp h5, h6⟩, hg⟩
  · rw [List.length_append, ← h1]
    rfl
  · intro q hq
    rcases List.mem_cons.mp hq with rfl | hq
    · exact ⟨x, hg, hx⟩
    · exact (h2.mono hp (Nat.le_refl _)) q hq
theorem YS.said (hS : YS GI σ Y lv st clv cst ph) {v : YV} {x : Value} {c a b : Nat} (hv : valR σ v x) (hx : fitT ph.length (c, a, b) x) : YS GI σ (said v c a b Y) lv st clv cst ph := by
  match v, hv with
  | .inl _, _ => exact hS
  | .inr k, hv =>
    obtain ⟨h1, h2, h3, h4, h5, h6⟩ := hS
    refine ⟨h1, fun q hq => ?_, h3, h4, h5, h6⟩
    rcases List.mem_cons.mp hq with rfl | hq
    · exact ⟨x, hv, hx⟩
    · exact h2 q hq
theorem fit_full (len : Nat) (z : Int32) : fitT len full32 (.int z) := by
  refine ⟨z, rfl, Nat.zero_le _, ?_⟩
  have h := cI'_lt z
  unfold oM at h
  omega
theorem cL'_lt (x : Int64) : cL' x < oN := by
  unfold cL' oN
  have h1 := x.toInt_lt
  have h2 := x.le_toInt
  omega
theorem fit_full64 (len : Nat) (z : Int64) : fitT len full64 (.long z) := by
  refine ⟨z, rfl, Nat.zero_le _, ?_⟩
  have h := cL'_lt z
  unfold oN at h
  omega
theorem oL_cL (x : Int64) : oL (cL' x) = x := by
  apply Int64.toInt_inj.mp
  rw [oL_toInt (cL'_lt x)]
  unfold cL'
  have h1 := x.le_toInt
  omega
theorem cL'_oL {v : Nat} (h : v < oN) : cL' (oL v) = v := by
  unfold cL'
  rw [oL_toInt h]
  omega
theorem knd_kind {len : Nat} {E : List (Nat × FT)} {v : YV} {x : Value} (he : eOKY σ len E) (hv : valR σ v x) {c : Nat} (h : (knd E v).1 = c) (hc : c ≠ 9) : fitT len (c, (knd E v).2) x := by
  have := knd_ok he hv (p := knd E v) rfl (by rw [h]; exact hc)
  rw [← h]
  exact this
theorem kOK_ok {x c : Nat} (h : kOK x c = true) : (x = 0 ∧ c = 0) ∨ (x = 2 ∧ c = 1) ∨ (x = 3 ∧ c = 2) := by
  unfold kOK at h
  split at h
  · exact Or.inl ⟨rfl, beq_of h⟩
  · exact Or.inr (Or.inl ⟨rfl, beq_of h⟩)
  · exact Or.inr (Or.inr ⟨rfl, beq_of h⟩)
  · cases h
end YA

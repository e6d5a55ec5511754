/-! ===== a method against its contract ===== -/
theorem x_hp_deep {c d len pc nc ns : Nat} {ini : Bool} {i : Instr} {st : List Value} {h : PH} {r : Nat × List Value × PH × Nat × Nat} (hs : x_hp c d ini i len pc st h nc ns = some r) : x_hp c (d + 1) ini i len pc st h nc ns = some r := by
  cases i
  case invokespecial ix =>
    unfold x_hp at hs ⊢
    dsimp only at hs ⊢
    split at hs
    · rename_i hc
      rw [if_pos ⟨hc.1, hc.2.1, Nat.le_succ_of_le hc.2.2⟩]
      exact hs
    · cases hs
  case invokestatic ix =>
    unfold x_hp at hs ⊢
    dsimp only at hs ⊢
    split at hs
    · rename_i hc
      rw [if_pos ⟨hc.1, hc.2.1, Nat.le_succ_of_le hc.2.2⟩]
      exact hs
    · cases hs
  all_goals exact hs
theorem stp_deep {M : MR} {d len : Nat} {i : Instr} {q q' : Sg} (hs : stp M d i len q = some q') : stp M (d + 1) i len q = some q' := by
  unfold stp at hs ⊢
  split at hs
  · exact hs
  · split at hs
    · exact hs
    · split at hs
      · exact hs
      · split at hs
        · exact hs
        · split at hs
          · rename_i a he
            rw [x_hp_deep he]
            exact hs
          · cases hs
theorem run_deep : ∀ (n d mi : Nat) (q : Sg) (x : Option Value × PH × Nat × Nat), run n d mi q = some x → run n (d + 1) mi q = some x
  | 0, _, _, _, _, h => by simp [run] at h
  | n + 1, d, mi, q, x, h => by
    rw [run] at h ⊢
    cases hM : mT[mi]? with
    | none => rw [hM] at h; cases h
    | some M =>
      rw [hM] at h
      dsimp only at h ⊢
      cases hd : decode (mC M) q.1 with
      | error _ => rw [hd] at h; cases h
      | ok w =>
        obtain ⟨i, len⟩ := w
        rw [hd] at h
        dsimp only at h ⊢
        cases hc : x_ca (mO M) i len q.2.2.1 q.2.2.2.1 with
        | some w =>
          obtain ⟨k, as, r⟩ := w
          rw [hc] at h
          dsimp only at h ⊢
          cases d with
          | zero => cases h
          | succ d' =>
            dsimp only at h ⊢
            cases hK : mT[k]? with
            | none => rw [hK] at h; cases h
            | some K =>
              rw [hK] at h
              dsimp only at h ⊢
              by_cases hl : (lg_sl as).length ≤ mL K
              · rw [if_pos hl] at h ⊢
                cases hr : run n d' k (0, lv_args 0 as, [], q.2.2.2.1, 0, 0) with
                | none => rw [hr] at h; cases h
                | some w =>
                  obtain ⟨v, h', nc, ns⟩ := w
                  rw [hr] at h
                  rw [run_deep n d' k _ _ hr]
                  dsimp only at h ⊢
                  exact run_deep n _ _ _ _ h
              · rw [if_neg hl] at h; cases h
        | none =>
          rw [hc] at h
          dsimp only at h ⊢
          cases hr : x_re M i len q.2.2.1 with
          | some v => rw [hr] at h; exact h
          | none =>
            rw [hr] at h
            dsimp only at h ⊢
            cases hs : stp M d i len q with
            | none => rw [hs] at h; cases h
            | some q' =>
              rw [hs] at h
              rw [stp_deep hs]
              dsimp only at h ⊢
              exact run_deep n _ _ _ _ h
theorem run_deeper {n d mi : Nat} {q : Sg} {x : Option Value × PH × Nat × Nat} (h : run n d mi q = some x) : ∀ k, run n (d + k) mi q = some x
  | 0 => h
  | k + 1 => run_deep _ _ _ _ _ (run_deeper h k)
def pOf (c1 : Nat) (p : FT) : FT := match p with
  | (4, a, b) => (0, a, b + c1)
  | (k, a, b) => (k, a, b)
/-- locals and signs out of a pattern, from local i and sign n on -/
def patK (i1 i2 c1 c2 : Nat) : List (Option FT) → Nat → Nat → List (Nat × FT) → (List (Option YV) → Nat → List (Nat × FT) → YR) → YR
  | [], _, n, E, K => K [] n E
  | p :: ps, i, n, E, K => bif Nat.beq i i1 then fN (oZ + c1) fun v => fN (i + 1) fun i => patK i1 i2 c1 c2 ps i n E (fun lv n E => K (some (.inl v) :: lv) n E)
    else bif Nat.beq i i2 then fN (oZ + c2) fun v => fN (i + 1) fun i => patK i1 i2 c1 c2 ps i n E (fun lv n E => K (some (.inl v) :: lv) n E)
    else fN (i + 1) fun i => (match p with
      | none => patK i1 i2 c1 c2 ps i n E (fun lv n E => K (none :: lv) n E)
      | some q => (match pOf c1 q with
        | (k, a, b) => fN a fun a => fN b fun b => fN (n + 1) fun m => patK i1 i2 c1 c2 ps i m ((n, (k, a, b)) :: E) (fun lv n' E => K (some (.inr n) :: lv) n' E)))
/-- locals are as a pattern says -/
def patR (len i1 i2 c1 c2 : Nat) (clv : PV) : List (Option FT) → Nat → Prop
  | [], _ => True
  | p :: ps, i => (if i = i1 then gl clv i = some (.int (oI (oZ + c1))) ∧ oZ + c1 < oM else if i = i2 then gl clv i = some (.int (oI (oZ + c2))) ∧ oZ + c2 < oM else match p with
      | none => True
      | some q => ∃ x, gl clv i = some x ∧ fitT len (pOf c1 q) x) ∧ patR len i1 i2 c1 c2 clv ps (i + 1)
theorem patK_ok {len i1 i2 c1 c2 : Nat} {clv : PV} : ∀ {ps : List (Option FT)} {i n : Nat} {E : List (Nat × FT)} {K : List (Option YV) → Nat → List (Nat × FT) → YR} {l : List YO} {σ : List Value}, patK i1 i2 c1 c2 ps i n E K = some l → patR len i1 i2 c1 c2 clv ps i → n = σ.length → eOKY σ len E → ∃ lv n' E' σ', K lv n' E' = some l ∧ σ <+: σ' ∧ n' = σ'.length ∧ eOKY σ' len E' ∧ ∀ j v, lv[j]? = some (some v) → ∃ x, gl clv (i + j) = some x ∧ valR σ' v x
  | [], i, n, E, K, l, σ, h, _, hn, he => ⟨[], n, E, σ, h, List.prefix_rfl, hn, he, fun j v hv => by simp at hv⟩
  | p :: ps, i, n, E, K, l, σ, h, hr, hn, he => by
    obtain ⟨hr1, hr2⟩ := hr
    rw [patK] at h
    cases hb1 : Nat.beq i i1 with
    | true =>
      rw [hb1, cond_true, fN_eq, fN_eq] at h
      rw [if_pos (beq_of hb1)] at hr1
      obtain ⟨lv, n', E', σ', h1, h2, h3, h4, h5⟩ := patK_ok h hr2 hn he
      refine ⟨_, n', E', σ', h1, h2, h3, h4, fun j v hv => ?_⟩
      cases j with
      | zero =>
        rw [List.getElem?_cons_zero] at hv
        cases hv
        exact ⟨_, hr1.1, rfl, hr1.2⟩
      | succ j =>
        rw [List.getElem?_cons_succ] at hv
        have := h5 j v hv
        rwa [show i + (j + 1) = i + 1 + j by omega]
    | false =>
      rw [hb1, cond_false] at h
      have hn1 : ¬ i = i1 := fun z => by rw [z] at hb1; simp at hb1
      rw [if_neg hn1] at hr1
      cases hb2 : Nat.beq i i2 with
      | true =>
        rw [hb2, cond_true, fN_eq, fN_eq] at h
        rw [if_pos (beq_of hb2)] at hr1
        obtain ⟨lv, n', E', σ', h1, h2, h3, h4, h5⟩ := patK_ok h hr2 hn he
        refine ⟨_, n', E', σ', h1, h2, h3, h4, fun j v hv => ?_⟩
        cases j with
        | zero =>
          rw [List.getElem?_cons_zero] at hv
          cases hv
          exact ⟨_, hr1.1, rfl, hr1.2⟩
        | succ j =>
          rw [List.getElem?_cons_succ] at hv
          have := h5 j v hv
          rwa [show i + (j + 1) = i + 1 + j by omega]
      | false =>
        rw [hb2, cond_false, fN_eq] at h
        have hn2 : ¬ i = i2 := fun z => by rw [z] at hb2; simp at hb2
        rw [if_neg hn2] at hr1
        cases p with
        | none =>
          obtain ⟨lv, n', E', σ', h1, h2, h3, h4, h5⟩ := patK_ok h hr2 hn he
          refine ⟨_, n', E', σ', h1, h2, h3, h4, fun j v hv => ?_⟩
          cases j with
          | zero =>
            rw [List.getElem?_cons_zero] at hv
            cases hv
          | succ j =>
            rw [List.getElem?_cons_succ] at hv
            have := h5 j v hv
            rwa [show i + (j + 1) = i + 1 + j by omega]
        | some q =>
          obtain ⟨x, x1, x2⟩ := hr1
          dsimp only at h
          generalize pOf c1 q = pq at h x2
          obtain ⟨k, a, b⟩ := pq
          dsimp only at h
          rw [fN_eq, fN_eq, fN_eq] at h
          have hg : (σ ++ [x])[n]? = some x := by
            rw [hn, List.getElem?_append_right (Nat.le_refl _), Nat.sub_self]
            rfl
          obtain ⟨lv, n', E', σ', h1, h2, h3, h4, h5⟩ := patK_ok (σ := σ ++ [x]) h hr2 (by rw [List.length_append, hn]; rfl) (by
            intro w hw
            rcases List.mem_cons.mp hw with rfl | hw
            · exact ⟨x, hg, x2⟩
            · exact (he.mono (pre_app σ x) (Nat.le_refl _)) w hw)
          refine ⟨_, n', E', σ', h1, (pre_app σ x).trans h2, h3, h4, fun j v hv => ?_⟩
          cases j with
          | zero =>
            rw [List.getElem?_cons_zero] at hv
            cases hv
            exact ⟨x, x1, pre_get h2 hg⟩
          | succ j =>
            rw [List.getElem?_cons_succ] at hv
            have := h5 j v hv
            rwa [show i + (j + 1) = i + 1 + j by omega]
/-- an answer is one that the contract names -/
def okQ1 (E : List (Nat × FT)) (v : Option YV) (q : Option FT) : Bool := match v with
  | none => (match q with
    | none => true
    | some _ => false)
  | some w => (match q with
    | none => false
    | some p => subT (knd E w) p)
def okQ (E : List (Nat × FT)) (v : Option YV) : List (Option FT) → Bool
  | [] => false
  | q :: qs => okQ1 E v q || okQ E v qs
def okAll (qs : List (Option FT)) (x : YR) : Bool := match x with
  | some l => l.all (fun o => okQ o.2.2.1 o.1 qs)
  | none => false
theorem okQ_ok {σ : List Value} {len : Nat} {E : List (Nat × FT)} (he : eOKY σ len E) {v : Option YV} {x : Option Value} (hv : optR σ v x) : ∀ {qs : List (Option FT)}, okQ E v qs = true → ∃ q ∈ qs, fitO len q x
  | [], h => by cases h
  | q :: qs, h => by
    rw [okQ, Bool.or_eq_true] at h
    rcases h with h | h
    · refine ⟨q, List.mem_cons_self, ?_⟩
      match v, x, q, hv, h with
      | none, none, none, _, _ => trivial
      | some w, some y, some p, hv, h => exact subT_ok h (knd_ok he hv rfl (subT_9 h))
      | none, none, some p, _, h => cases h
      | some w, some y, none, _, h => cases h
    · obtain ⟨q', h1, h2⟩ := okQ_ok he hv h
      exact ⟨q', List.mem_cons_of_mem _ h1, h2⟩
def nilY (st : List YV) : Bool := match st with
  | [] => true
  | _ => false
/-- a counter's number (no counter: 0) -/
def ctrK (lv : List (Option YV)) (E : List (Nat × FT)) (i : Nat) (K : Nat → YR) : YR := bif Nat.beq i 99 then K 0 else (match lv[i]? with
  | some (some v) => rngK E v fun a b => bif Nat.beq a b && Nat.ble oZ a then fN (a - oZ) K else none
  | _ => none)
/-- a local fits a pattern -/
def patB1 (i1 i2 c1 : Nat) (lv : List (Option YV)) (E : List (Nat × FT)) (p : Option FT) (i : Nat) : Bool := bif Nat.beq i i1 || Nat.beq i i2 then true else (match p with
  | none => true
  | some q => (match lv[i]? with
    | some (some v) => subT (knd E v) (pOf c1 q)
    | _ => false))
def patB (i1 i2 c1 : Nat) (lv : List (Option YV)) (E : List (Nat × FT)) : List (Option FT) → Nat → Bool
  | [], _ => true
  | p :: ps, i => patB1 i1 i2 c1 lv E p i && patB i1 i2 c1 lv E ps (i + 1)
def postsO (Y : YE) (qs : List (Option FT)) : List YO := qs.map (fun q => match q with
  | none => (none, (Y.1, Y.2.1, []))
  | some p => (some (.inr Y.1), (Y.1 + 1, (Y.1, p) :: Y.2.1, [])))
def lt_no (t : LT) : Nat := t.1
def lt_pc (t : LT) : Nat := t.2.1.1
def lt_j (t : LT) : Nat := t.2.1.2
def lt_i1 (t : LT) : Nat := t.2.2.1.1
def lt_N1 (t : LT) : Nat := t.2.2.1.2
def lt_i2 (t : LT) : Nat := t.2.2.2.1.1
def lt_N2 (t : LT) : Nat := t.2.2.2.1.2
def lt_ps (t : LT) : List (Option FT) := t.2.2.2.2.1
def lt_b0 (t : LT) : Nat := t.2.2.2.2.2.1
def lt_b1 (t : LT) : Nat := t.2.2.2.2.2.2.1
def lt_b2 (t : LT) : Nat := t.2.2.2.2.2.2.2
def lt_ms (t : LT) (c1 c2 : Nat) : Nat := lt_b0 t - (lt_b1 t * c1 + lt_b2 t * c2)
def lpF (no : Nat) : List LT → Option LT
  | [] => none
  | t :: ts => bif Nat.beq t.1 no then some t else lpF no ts
/-- what is known at the heads of a method's loops: those of a smaller measure -/
noncomputable def lpK (k D cur : Nat) (qs : List (Option FT)) : YP := fun _ e _ _ lv st Y d => match lpF e.2.2.1 lpT with
  | none => none
  | some t => bif Nat.beq (lt_no t / 8) k && Nat.beq d D && nilY st && Nat.beq e.1 (lt_pc t) then
      ctrK lv Y.2.1 (lt_i1 t) fun c1 => ctrK lv Y.2.1 (lt_i2 t) fun c2 => bif Nat.ble c1 (lt_N1 t) && Nat.ble c2 (lt_N2 t) && Nat.blt (lt_ms t c1 c2) cur && patB (lt_i1 t) (lt_i2 t) c1 lv Y.2.1 (lt_ps t) 0 then some (postsO Y qs) else none
    else none
theorem cOK_nil (σ : List Value) (ph : PH) : cOK σ ph [] := fun q hq => by cases hq
theorem lpF_ok {no : Nat} : ∀ {ts : List LT} {t : LT}, lpF no ts = some t → t ∈ ts ∧ lt_no t = no
  | [], _, h => by cases h
  | u :: ts, t, h => by
    rw [lpF] at h
    cases hb : Nat.beq u.1 no with
    | true =>
      rw [hb, cond_true] at h
      cases h
      exact ⟨List.mem_cons_self, beq_of hb⟩
    | false =>
      rw [hb, cond_false] at h
      exact ⟨List.mem_cons_of_mem _ (lpF_ok h).1, (lpF_ok h).2⟩
section YK
variable {GI : PH → Prop} {mk D : Nat}
/-- from the head of a loop on -/
def PL (GI : PH → Prop) (mk D k : Nat) (qs : List (Option FT)) (t : LT) (c1 c2 : Nat) : Prop := ∀ (ph : PH) (clv : PV) (nc ns : Nat), WT ph → GI ph → patR ph.length (lt_i1 t) (lt_i2 t) c1 c2 clv (lt_ps t) 0 → ∃ (m : Nat) (v : Option Value) (ph' : PH) (nc' ns' : Nat), run m D k (lt_pc t, clv, [], ph, nc, ns) = some (v, ph', nc', ns') ∧ WT ph' ∧ GI ph' ∧ Fr mk ph ph' ∧ ∃ q ∈ qs, fitO ph'.length q v
theorem names_ok : (List.range 186).all (fun i => (List.range 186).all (fun j => Nat.beq i j || !decide (mYk i = mYk j))) = true := by decide +kernel
theorem cut_mi {no mi : Nat} {M : MR} (hM : mT[mi]? = some M) (hc : cutB M no = true) (hno : no / 8 < 186) : mi = no / 8 := by
  have hlt : mi < 186 := by rw [← ce_mT]; exact (List.getElem?_eq_some_iff.mp hM).1
  have h := List.all_eq_true.mp (List.all_eq_true.mp names_ok mi (List.mem_range.mpr hlt)) (no / 8) (List.mem_range.mpr hno)
  rw [Bool.or_eq_true] at h
  rcases h with z | z
  · exact beq_of z
  · unfold cutB at hc
    have hc := of_decide_eq_true hc
    rw [mYk_of hM, hc] at z
    simp at z
theorem ctrK_ok {σ : List Value} {len : Nat} {lv : List (Option YV)} {E : List (Nat × FT)} {clv : PV} {i : Nat} {K : Nat → YR} {l : List YO} (h : ctrK lv E i K = some l) (he : eOKY σ len E) (hL : LRY σ lv clv) : ∃ c, K c = some l ∧ (i ≠ 99 → gl clv i = some (.int (oI (oZ + c))) ∧ oZ + c < oM) := by
  unfold ctrK at h
  cases hb : Nat.beq i 99 with
  | true =>
    rw [hb, cond_true] at h
    exact ⟨0, h, fun hn => absurd (beq_of hb) hn⟩
  | false =>
    rw [hb, cond_false] at h
    split at h
    case h_2 => cases h
    rename_i v hv
    obtain ⟨x, x1, x2⟩ := hL i v hv
    obtain ⟨a, b, z, -, rfl, a1, a2, h⟩ := rngK_ok h he x2
    cases hc : (Nat.beq a b && Nat.ble oZ a) with
    | false => rw [hc] at h; cases h
    | true =>
      rw [hc, cond_true, fN_eq] at h
      rw [Bool.and_eq_true] at hc
      have c1 := beq_of hc.1
      have c2 := ble_of hc.2
      have hz : oZ + (a - oZ) = cI' z := by omega
      refine ⟨a - oZ, h, fun _ => ?_⟩
      rw [hz, oI_cI]
      exact ⟨x1, cI'_lt z⟩
theorem patB_ok {σ : List Value} {len i1 i2 c1 c2 : Nat} {lv : List (Option YV)} {E : List (Nat × FT)} {clv : PV} (he : eOKY σ len E) (hL : LRY σ lv clv) (h1 : i1 ≠ 99 → gl clv i1 = some (.int (oI (oZ + c1))) ∧ oZ + c1 < oM) (h2 : i2 ≠ 99 → gl clv i2 = some (.int (oI (oZ + c2))) ∧ oZ + c2 < oM) : ∀ {ps : List (Option FT)} {i : Nat}, patB i1 i2 c1 lv E ps i = true → i + ps.length ≤ 99 → patR len i1 i2 c1 c2 clv ps i
  | [], _, _, _ => trivial
  | p :: ps, i, h, hl => by
    rw [patB, Bool.and_eq_true] at h
    rw [List.length_cons] at hl
    refine ⟨?_, patB_ok he hL h1 h2 h.2 (by omega)⟩
    by_cases e1 : i = i1
    · rw [if_pos e1, e1]
      exact h1 (by omega)
    · rw [if_neg e1]
      by_cases e2 : i = i2
      · rw [if_pos e2, e2]
        exact h2 (by omega)
      · rw [if_neg e2]
        have hb : (Nat.beq i i1 || Nat.beq i i2) = false := by
          rw [Bool.or_eq_false_iff]
          exact ⟨by cases hz : Nat.beq i i1 with | false => rfl | true => exact absurd (beq_of hz) e1, by cases hz : Nat.beq i i2 with | false => rfl | true => exact absurd (beq_of hz) e2⟩
        have h := h.1
        unfold patB1 at h
        rw [hb, cond_false] at h
        cases p with
        | none => trivial
        | some q =>
          dsimp only at h ⊢
          split at h
          · rename_i v hv
            obtain ⟨x, x1, x2⟩ := hL i v hv
            exact ⟨x, x1, subT_ok h (knd_ok he x2 rfl (subT_9 h))⟩
          · cases h
def lpOK (t : LT) : Bool := Nat.blt (lt_no t / 8) 186 && Nat.ble (lt_ps t).length 99
theorem lpT_ok : lpT.all lpOK = true := by decide +kernel
theorem lpK_ok {k cur : Nat} {qs : List (Option FT)} (h : ∀ t ∈ lpT, lt_no t / 8 = k → ∀ c1 c2, c1 ≤ lt_N1 t → c2 ≤ lt_N2 t → lt_ms t c1 c2 < cur → PL GI mk D k qs t c1 c2) : CutY GI mk D (lpK k D cur qs) := by
  intro ih e full rest lv st Y d l hb mi M σ pc clv cst ph nc ns hA hcut hD hS
  unfold lpK at hb
  split at hb
  · cases hb
  rename_i t ht
  obtain ⟨htm, htn⟩ := lpF_ok ht
  cases hc : (Nat.beq (lt_no t / 8) k && Nat.beq d D && nilY st && Nat.beq e.1 (lt_pc t)) with
  | false => rw [hc] at hb; cases hb
  | true =>
  rw [hc, cond_true] at hb
  simp only [Bool.and_eq_true] at hc
  obtain ⟨⟨⟨k1, k2⟩, k3⟩, k4⟩ := hc
  have k1 := beq_of k1
  have k2 := beq_of k2
  have k4 := beq_of k4
  obtain ⟨c1, hb, g1⟩ := ctrK_ok hb hS.env hS.2.2.2.1
  obtain ⟨c2, hb, g2⟩ := ctrK_ok hb hS.env hS.2.2.2.1
  cases hc : (Nat.ble c1 (lt_N1 t) && Nat.ble c2 (lt_N2 t) && Nat.blt (lt_ms t c1 c2) cur && patB (lt_i1 t) (lt_i2 t) c1 lv Y.2.1 (lt_ps t) 0) with
  | false => rw [hc] at hb; cases hb
  | true =>
  rw [hc, cond_true] at hb
  cases hb
  simp only [Bool.and_eq_true] at hc
  obtain ⟨⟨⟨q1, q2⟩, q3⟩, q4⟩ := hc
  have hok := List.all_eq_true.mp lpT_ok t htm
  unfold lpOK at hok
  rw [Bool.and_eq_true] at hok
  have hst : st = [] := by
    cases st with
    | nil => rfl
    | cons _ _ => cases k3
  subst hst
  have hcs := hS.nil
  subst hcs
  have hmi := cut_mi hA.1 hcut (by rw [← htn]; exact blt_iff.mp hok.1)
  rw [← htn, k1] at hmi
  subst hmi
  have hpc : pc = lt_pc t := by
    obtain ⟨-, -, j, e1, r1, h1, -, h3⟩ := hA
    cases h1
    rw [← h3, k4]
  subst hpc
  subst k2
  obtain ⟨m, v, ph', nc', ns', r1, r2, r3, r4, q, r5, r6⟩ := h t htm k1 c1 c2 (ble_of q1) (ble_of q2) (blt_iff.mp q3) ph clv nc ns hS.wt hS.2.2.2.2.2.2 (patB_ok hS.env hS.2.2.2.1 g1 g2 q4 (by have := ble_of hok.2; omega))
  match q, v, r6 with
  | none, none, _ =>
    exact ⟨(none, (Y.1, Y.2.1, [])), List.mem_map.mpr ⟨none, r5, rfl⟩, m, none, ph', nc', ns', σ, r1, List.prefix_rfl, hS.1, hS.env.mono List.prefix_rfl r4.1, cOK_nil _ _, r2, r3, r4, trivial⟩
  | some p, some x, hx =>
    have hS0 : YS GI σ (Y.1, Y.2.1, []) [] [] [] [] ph' := ⟨hS.1, hS.env.mono List.prefix_rfl r4.1, cOK_nil _ _, fun i v hv => by simp at hv, trivial, r2, r3⟩
    obtain ⟨hS3, hw⟩ := hS0.fresh (p := p) (x := x) hx
    exact ⟨(some (.inr Y.1), (Y.1 + 1, (Y.1, p) :: Y.2.1, [])), List.mem_map.mpr ⟨some p, r5, rfl⟩, m, some x, ph', nc', ns', σ ++ [x], r1, pre_app _ _, hS3.1, hS3.2.1, hS3.2.2.1, r2, r3, r4, hw⟩
/-- a loop's state, evaluated -/
noncomputable def chkL (k D mk : Nat) (qs : List (Option FT)) (t : LT) (c1 c2 : Nat) : Bool := okAll qs (patK (lt_i1 t) (lt_i2 t) c1 c2 (lt_ps t) 0 0 [] (fun lv n E => yx mk (lpK k D (lt_ms t c1 c2) qs) 100000 (codeOf k) ((codeOf k).drop (lt_j t + 1)) lv [] (n, E, []) D))
def atB (l : List CE) (pc : Nat) : Bool := match l with
  | e :: _ => Nat.beq e.1 pc
  | [] => false
theorem PL_step (hG : GOK GI) (hG2 : ∀ ph, GI ph → 2 ≤ ph.length) (hK0 : CtAll GI D) {k : Nat} {qs : List (Option FT)} {t : LT} {c1 c2 : Nat} (hk : k < 186) (hat : atB ((codeOf k).drop (lt_j t + 1)) (lt_pc t) = true) (hB : CutY GI mk D (lpK k D (lt_ms t c1 c2) qs)) (h : chkL k D mk qs t c1 c2 = true) : PL GI mk D k qs t c1 c2 := by
  intro ph clv nc ns hW hGI hR
  unfold chkL okAll at h
  generalize hr : patK (lt_i1 t) (lt_i2 t) c1 c2 (lt_ps t) 0 0 [] (fun lv n E => yx mk (lpK k D (lt_ms t c1 c2) qs) 100000 (codeOf k) ((codeOf k).drop (lt_j t + 1)) lv [] (n, E, []) D) = r at h
  cases r with
  | none => cases h
  | some l =>
    obtain ⟨lv, n', E', σ', h1, h2, h3, h4, h5⟩ := patK_ok (σ := []) (clv := clv) hr hR rfl (fun q hq => by cases hq)
    obtain ⟨M, hM⟩ : ∃ M, mT[k]? = some M := ⟨_, List.getElem?_eq_getElem (by rw [ce_mT]; exact hk)⟩
    have hA : AtC k M (codeOf k) ((codeOf k).drop (lt_j t + 1)) (lt_pc t) := by
      refine ⟨hM, rfl, lt_j t + 1, ?_⟩
      generalize (codeOf k).drop (lt_j t + 1) = w at hat
      cases w with
      | nil => cases hat
      | cons e r => exact ⟨e, r, rfl, rfl, beq_of hat⟩
    obtain ⟨o, ho, m, v, ph', nc', ns', σ2, e1, e2, e3, e4, e5, e6, e7, e8, e9⟩ := (yx_ok cert_all hG hG2 hK0 hB 100000).2 k _ _ _ _ _ _ _ l h1 σ' (lt_pc t) clv [] ph nc ns hA (Nat.le_refl _) ⟨h3, h4, cOK_nil _ _, fun i v hv => by have := h5 i v hv; rwa [Nat.zero_add] at this, trivial, hW, hGI⟩
    obtain ⟨q, q1, q2⟩ := okQ_ok e4 e9 (List.all_eq_true.mp h o ho)
    exact ⟨m, v, ph', nc', ns', e1, e6, e7, e8, q, q1, q2⟩
theorem PL_all (hG : GOK GI) (hG2 : ∀ ph, GI ph → 2 ≤ ph.length) (hK0 : CtAll GI D) {k : Nat} {qs : List (Option FT)} (hk : k < 186) (h : ∀ t ∈ lpT, lt_no t / 8 = k → atB ((codeOf k).drop (lt_j t + 1)) (lt_pc t) = true ∧ ∀ c1 c2, c1 ≤ lt_N1 t → c2 ≤ lt_N2 t → chkL k D mk qs t c1 c2 = true) : ∀ cur, ∀ t ∈ lpT, lt_no t / 8 = k → ∀ c1 c2, c1 ≤ lt_N1 t → c2 ≤ lt_N2 t → lt_ms t c1 c2 < cur → PL GI mk D k qs t c1 c2
  | 0, _, _, _, _, _, _, _, hlt => absurd hlt (Nat.not_lt_zero _)
  | cur + 1, t, ht, htk, c1, c2, h1, h2, hlt => by
    have ih := PL_all hG hG2 hK0 hk h cur
    refine PL_step hG hG2 hK0 hk (h t ht htk).1 (lpK_ok fun u hu huk d1 d2 g1 g2 g3 => ih u hu huk d1 d2 g1 g2 (by omega)) ((h t ht htk).2 c1 c2 h1 h2)
/-- a method's entry, evaluated -/
def entE : List FT → Nat → List (Nat × FT) → List (Nat × FT)
  | [], _, E => E
  | p :: ps, n, E => entE ps (n + 1) ((n, p) :: E)
def entV : List FT → Nat → List YV
  | [], _ => []
  | _ :: ps, n => .inr n :: entV ps (n + 1)
noncomputable def chkE (k : Nat) (c : CT) : Bool := okAll c.2.1 (locK (entE c.1 0 []) (entV c.1 0) fun loc => yx c.2.2.1 (lpK k c.2.2.2 1000000 c.2.1) 100000 (codeOf k) (codeOf k) loc [] (c.1.length, entE c.1 0 [], []) c.2.2.2)
theorem entE_ok {len : Nat} {σ : List Value} : ∀ {ps : List FT} {n : Nat} {E : List (Nat × FT)} {xs : List Value}, fitAs len ps xs → σ.drop n = xs → eOKY σ len E → eOKY σ len (entE ps n E)
  | [], _, _, _, _, _, he => he
  | p :: ps, n, E, x :: xs, h, hd, he => by
    rw [entE]
    have hx : σ[n]? = some x := by
      have := congrArg (fun l => l[0]?) hd
      simpa using this
    refine entE_ok (xs := xs) h.2 (by rw [← List.drop_drop, hd]; rfl) (fun q hq => ?_)
    rcases List.mem_cons.mp hq with rfl | hq
    · exact ⟨x, hx, h.1⟩
    · exact he q hq
  | _ :: _, _, _, [], h, _, _ => h.elim
theorem entV_ok {len : Nat} {σ : List Value} : ∀ {ps : List FT} {n : Nat} {xs : List Value}, fitAs len ps xs → σ.drop n = xs → SRY σ (entV ps n) xs
  | [], _, [], _, _ => trivial
  | p :: ps, n, x :: xs, h, hd => by
    have hx : σ[n]? = some x := by
      have := congrArg (fun l => l[0]?) hd
      simpa using this
    exact ⟨hx, entV_ok (xs := xs) h.2 (by rw [← List.drop_drop, hd]; rfl)⟩
  | _ :: _, _, [], h, _ => h.elim
  | [], _, _ :: _, h, _ => h.elim
theorem fitAs_len {len : Nat} : ∀ {ps : List FT} {xs : List Value}, fitAs len ps xs → ps.length = xs.length
  | [], [], _ => rfl
  | _ :: _, _ :: _, h => by rw [List.length_cons, List.length_cons, fitAs_len h.2]
  | [], _ :: _, h => h.elim
  | _ :: _, [], h => h.elim
theorem ct_ok (hG : GOK GI) (hG2 : ∀ ph, GI ph → 2 ≤ ph.length) {k : Nat} {c : CT} (hK0 : CtAll GI c.2.2.2) (hk : k < 186) (hl : ∀ t ∈ lpT, lt_no t / 8 = k → atB ((codeOf k).drop (lt_j t + 1)) (lt_pc t) = true ∧ ∀ c1 c2, c1 ≤ lt_N1 t → c2 ≤ lt_N2 t → chkL k c.2.2.2 c.2.2.1 c.2.1 t c1 c2 = true) (he : chkE k c = true) : CtH GI k c := by
  intro d ph as hd hW hGI hf
  unfold chkE okAll at he
  generalize hr : (locK (entE c.1 0 []) (entV c.1 0) fun loc => yx c.2.2.1 (lpK k c.2.2.2 1000000 c.2.1) 100000 (codeOf k) (codeOf k) loc [] (c.1.length, entE c.1 0 [], []) c.2.2.2) = r at he
  cases r with
  | none => cases he
  | some l =>
    obtain ⟨h1, hoA⟩ := locK_ok hr
    obtain ⟨M, hM⟩ : ∃ M, mT[k]? = some M := ⟨_, List.getElem?_eq_getElem (by rw [ce_mT]; exact hk)⟩
    obtain ⟨e0, r0, hc1, hc2⟩ := (cert_all k _ hM).2.2.1
    have hE : eOKY as ph.length (entE c.1 0 []) := entE_ok hf rfl (fun q hq => by cases hq)
    have hB : CutY GI c.2.2.1 c.2.2.2 (lpK k c.2.2.2 1000000 c.2.1) := lpK_ok fun t ht htk c1 c2 g1 g2 g3 => PL_all hG hG2 hK0 hk hl 1000000 t ht htk c1 c2 g1 g2 g3
    obtain ⟨o, ho, m, v, ph', nc', ns', σ2, e1, e2, e3, e4, e5, e6, e7, e8, e9⟩ := (yx_ok cert_all hG hG2 hK0 hB 100000).2 k _ _ _ _ _ _ _ l h1 as 0 (lv_args 0 as) [] ph 0 0 ⟨hM, rfl, 0, e0, r0, hc1, rfl, hc2⟩ (Nat.le_refl _) ⟨fitAs_len hf, hE, cOK_nil _ _, fun i v hv => by have := locS_get hE 0 i (entV_ok hf rfl) hoA hv; rwa [Nat.zero_add] at this, trivial, hW, hGI⟩
    obtain ⟨q, q1, q2⟩ := okQ_ok e4 e9 (List.all_eq_true.mp he o ho)
    have hrun := run_deeper e1 (d - c.2.2.2)
    rw [Nat.add_sub_cancel' hd] at hrun
    exact ⟨m, v, ph', nc', ns', hrun, e6, e7, e8, q, q1, q2⟩
end YK

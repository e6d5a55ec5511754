/-! ===== the evaluator is right ===== -/
def CopiesOK : Prop := ∀ (k : Nat) (K : MR) (b : Nat) (q : vw_C), mT[k]? = some K → mYk k = ⟨"ConnectionFamilyModel", "copies", "(II)V"⟩ → cls[9]? = some q → b < q.2.2 → (q.2.1 b).2.1 = "page" → ∀ (d : Nat) (ph : PH) (a w frm to : Nat) (gs : List Value) (f : Nat → Int32), ph[a]? = some (.inr (.inr (9, gs))) → gs[b]? = some (.ref w) → 2 ≤ a → 2 ≤ w → ph[w]? = some (.inl (14000, f)) → frm ≤ 6 → to ≤ 6 →
  ∃ m, run m d k (0, lv_args 0 [.ref a, .int (nI frm), .int (nI to)], [], ph, 0, 0) = some (none, ph.set w (.inl (14000, va_cpy f f (2000 * frm) (2000 * to) 2000)), 0, 0)
section OX
variable {σ : Nat → Int32}
variable {ih : CB} {e : CE} {full rest : List CE} {lv : List (Option AV)} {st : List AV} {h : HT} {hn nc ns d mi pc : Nat} {env : EV} {l : List CO} {M : MR} {clv : PV} {ph : PH}
theorem ok_copies (hP : CopiesOK) (hC : CertAll) (hI : IHok σ ih) (hA : AtC mi M full (e :: rest) pc) (he : eOK σ env) (hH : HR σ h hn ph) (hL : LR σ lv clv) {ix : Nat} {q : vw_C} (hm : mlF (mO M) ix = some e.2.2.1) (hk0 : e.2.2.1 ≠ 0) (hy : mYk e.2.2.1 = ⟨"ConnectionFamilyModel", "copies", "(II)V"⟩) (hq : cls[9]? = some q) (hb : e.2.2.2.1 < q.2.2) (hpg : (q.2.1 e.2.2.2.1).2.1 = "page") (hd : decode (mC M) pc = .ok (.invokevirtual ix, 3)) (hlen : e.2.2.2.2.2.1 = 3)
    (hp : p_copies ih e full rest lv st h hn nc ns env d = some l) : GoodR σ d mi pc clv (st.map (cvV σ)) ph nc ns l := by
  obtain ⟨K, hK⟩ := mlF_some hm
  have hinf := (hC _ K hK).2.2.2 hk0
  unfold infOK at hinf
  simp only [Bool.and_eq_true] at hinf
  obtain ⟨⟨⟨i1, i2⟩, i3⟩, i4⟩ := hinf
  unfold p_copies at hp
  split at hp
  case h_2 => cases hp
  rename_i to frm a r
  split at hp
  case h_2 => cases hp
  rename_i ci fs hx
  cases hc : (Nat.beq ci 9 && Nat.ble 2 a && Nat.blt a hn && Nat.ble oZ frm && Nat.ble oZ to && Nat.ble (frm - oZ) 6 && Nat.ble (to - oZ) 6 && Nat.ble (catA r) 8 && Nat.beq (tget CM 8 e.2.2.1 mTab).2.2.1 2 && Nat.beq (tget CM 8 e.2.2.1 mTab).2.2.2.1 0 && Nat.beq (tget CM 8 e.2.2.1 mTab).2.2.2.2.1 9 && Nat.ble 3 (tget CM 8 e.2.2.1 mTab).2.1 && Nat.ble 1 d) with
  | false => rw [hc] at hp; cases hp
  | true =>
  rw [hc, cond_true] at hp
  simp only [Bool.and_eq_true] at hc
  obtain ⟨⟨⟨⟨⟨⟨⟨⟨⟨⟨⟨⟨c1, c2⟩, c3⟩, c4⟩, c5⟩, c6⟩, c7⟩, c8⟩, c9⟩, c10⟩, c11⟩, c12⟩, c13⟩ := hc
  have c1 := beq_of c1
  subst c1
  split at hp
  case h_2 => cases hp
  rename_i w hw
  split at hp
  case h_2 => cases hp
  rename_i n t ht
  cases hc2 : (Nat.beq n 14000 && Nat.ble 2 w && Nat.blt w hn) with
  | false => rw [hc2] at hp; cases hp
  | true =>
  rw [hc2, cond_true] at hp
  simp only [Bool.and_eq_true] at hc2
  obtain ⟨⟨d1, d2⟩, d3⟩ := hc2
  have d1 := beq_of d1
  subst d1
  have hob := hH.ob (blt_iff.mp c3) hx
  obtain ⟨f, a1, a2, a3⟩ := hH.ar (blt_iff.mp d3) ht
  have hfm : frm < oM := by have := ble_of c6; unfold oZ at this; unfold oM; omega
  have htm : to < oM := by have := ble_of c7; unfold oZ at this; unfold oM; omega
  have e1 := oI_pos (ble_of c4) hfm
  have e2 := oI_pos (ble_of c5) htm
  have h6 := ble_of c6
  have h7 := ble_of c7
  simp only [fN_eq] at hp
  rw [cpyK_eq, tset_put] at hp
  obtain ⟨m, hrun⟩ := hP _ K _ q hK hy hq hb hpg (d - 1) ph a w (frm - oZ) (to - oZ) (fs.map (cvV σ)) f hob (by rw [List.getElem?_map, hw]; rfl) (ble_of c2) (ble_of d2) a1 h6 h7
  generalize frm - oZ = kf at hp e1 h6 hrun
  generalize to - oZ = kt at hp e2 h7 hrun
  have hd1 : d = (d - 1) + 1 := by have := ble_of c13; omega
  generalize d - 1 = d' at hd1 hrun
  subst hd1
  have hcell := cpy_cell (σ := σ) (t0 := t) (t1 := t) (sp := 2000 * kf) (dp := 2000 * kt) (n := 2000) a3 a2 a3 (by omega) (by omega)
  have hmN : mN K = 2 := by rw [← beq_of i2]; exact beq_of c9
  have hmK : mK K = 0 := by rw [← beq_of i3]; exact beq_of c10
  have hmO : mO K = 9 := by rw [← beq_of i4]; exact beq_of c11
  have hmL : 3 ≤ mL K := by rw [← beq_of i1]; exact ble_of c12
  have hst : (Sum.inl to :: Sum.inl frm :: Sum.inr (Sum.inr (Sum.inr (some a))) :: r : List AV).map (cvV σ) = .int (nI kt) :: .int (nI kf) :: .ref a :: r.map (cvV σ) := by
    rw [List.map_cons, List.map_cons, List.map_cons, ← e1, ← e2]
    rfl
  rw [hst]
  refine good_call (l1 := [(none, tput AC 8 w (.inl (14000, ⟨t.1, cpyT t t.1 2000 (2000 * kf) (2000 * kt) t.2⟩)) h, hn, 0, 0, env)]) hA.1 hd (k := e.2.2.1) (as := [.ref a, .int (nI kf), .int (nI kt)]) (r0 := r.map (cvV σ)) ?_ hK (by show 3 ≤ mL K; exact hmL) ?_ ?_
  · unfold x_ca
    rw [if_pos rfl]
    simp only [hm, hK, hmN]
    show (match (.ref a :: r.map (cvV σ) : List Value) with
        | .ref v :: r' => (match ph[v]? with
          | some (.inr (.inr (ci, _))) => if e.2.2.1 ≠ 0 ∧ mK K = 0 ∧ mO K = ci ∧ 2 ≤ v ∧ catS r' ≤ 8 then some (e.2.2.1, Value.ref v :: [Value.int (nI kf), Value.int (nI kt)], r') else none
          | _ => none)
        | _ => none) = _
    simp only [hob]
    rw [if_pos ⟨hk0, hmK, hmO, ble_of c2, by rw [catA_eq]; exact ble_of c8⟩]
  · exact ⟨_, List.mem_cons_self, m, _, hrun, hH.put (blt_iff.mp d3) hcell, he⟩
  · intro o ho ph' hH' he'
    rw [List.mem_singleton] at ho
    subst ho
    exact go_len hC hI hA hlen hp he' hH' hL (fun o ho => ho)
/-- what is known at the cuts holds -/
def CutOK (σ : Nat → Int32) (B : CP) : Prop := ∀ (ih : CB) (e : CE) (full rest : List CE) (lv : List (Option AV)) (st : List AV) (h : HT) (hn nc ns : Nat) (env : EV) (d : Nat) (l : List CO), B ih e full rest lv st h hn nc ns env d = some l → ∀ (mi : Nat) (M : MR) (pc : Nat) (clv : PV) (ph : PH), AtC mi M full (e :: rest) pc → cutB M e.2.2.1 = true → eOK σ env → HR σ h hn ph → LR σ lv clv → GoodR σ d mi pc clv (st.map (cvV σ)) ph nc ns l
set_option maxHeartbeats 4000000 in
theorem cx_ok {B : CP} (hC : CertAll) (hP : CopiesOK) (hσ : σ 4 = σ 0 &&& 31) (hB : CutOK σ B) : ∀ n, IHok σ (cx B n)
  | 0 => ⟨fun _ _ _ _ _ _ _ _ _ => rfl, fun _ _ _ _ _ _ _ _ _ _ _ _ _ hr => by cases hr⟩
  | n + 1 => by
    have hI := cx_ok hC hP hσ hB n
    refine ⟨fun _ _ _ _ _ _ _ _ _ => rfl, ?_⟩
    intro mi M full cur lv st h hn nc ns env d l hr pc clv ph hA he hH hL
    obtain ⟨hM, hf, j, e, rest, hcur, hdrop, hpc⟩ := id hA
    subst hcur
    have hr : dsp B e.2.1 (cx B n) e full rest lv st h hn nc ns env d = some l := hr
    have hmem : e ∈ codeOf mi := by rw [← hf]; exact List.mem_of_mem_drop (i := j) (by rw [hdrop]; exact List.mem_cons_self)
    have hrow := (hC mi M hM).1 e hmem
    unfold rowOK at hrow
    cases hcut : decide (e.2.1 = .monitorexit) with
    | true =>
      rw [hcut, cond_true, Bool.and_eq_true] at hrow
      rw [of_decide_eq_true hcut] at hr
      have hr : (match B (cx B n) e full rest lv st h hn nc ns env d with
        | some l => some l
        | none => cx B n full rest lv st h hn nc ns env d) = some l := hr
      cases hbb : B (cx B n) e full rest lv st h hn nc ns env d with
      | some l' =>
        rw [hbb] at hr
        cases hr
        exact hB (cx B n) e full rest lv st h hn nc ns env d _ hbb mi M pc clv ph hA hrow.2 he hH hL
      | none =>
        rw [hbb] at hr
        exact go_len hC hI hA (beq_of hrow.1) hr he hH hL (fun o ho => ho)
    | false =>
    rw [hcut, cond_false] at hrow
    split at hrow
    case h_2 => cases hrow
    rename_i i len hd
    rw [Bool.and_eq_true] at hrow
    obtain ⟨hlen, hnr⟩ := hrow
    have hlen := (beq_of hlen).symm
    rw [hpc] at hd
    rw [← hf] at hnr
    cases i <;> simp only [nrm, Bool.and_eq_true, decide_eq_true_eq] at hnr
    case iconst v =>
      obtain ⟨⟨ht, ha⟩, hl⟩ := hnr
      rw [ht] at hr
      have hl := beq_of hl
      have hq : len = e.2.2.2.2.2.1 := hlen.symm
      rw [hl] at hq
      subst hq
      exact ok_iconst hC hI hA he hH hL ha hd hl hr
    case bipush v =>
      obtain ⟨⟨ht, ha⟩, hl⟩ := hnr
      rw [ht] at hr
      have hl := beq_of hl
      have hq : len = e.2.2.2.2.2.1 := hlen.symm
      rw [hl] at hq
      subst hq
      exact ok_bipush hC hI hA he hH hL ha hd hl hr
    case sipush v =>
      obtain ⟨⟨ht, ha⟩, hl⟩ := hnr
      rw [ht] at hr
      have hl := beq_of hl
      have hq : len = e.2.2.2.2.2.1 := hlen.symm
      rw [hl] at hq
      subst hq
      exact ok_sipush hC hI hA he hH hL ha hd hl hr
    case lconst v =>
      obtain ⟨⟨ht, ha⟩, hl⟩ := hnr
      rw [ht] at hr
      have hl := beq_of hl
      have hq : len = e.2.2.2.2.2.1 := hlen.symm
      rw [hl] at hq
      subst hq
      exact ok_lconst hC hI hA he hH hL ha hd hl hr
    case ldc2_w ix =>
      obtain ⟨⟨ht, ha⟩, hl⟩ := hnr
      rw [ht] at hr
      have hl := beq_of hl
      have hq : len = e.2.2.2.2.2.1 := hlen.symm
      rw [hl] at hq
      subst hq
      exact ok_ldc2 hC hI hA he hH hL ha hd hl hr
    case iload k =>
      obtain ⟨⟨⟨ht, ha⟩, hx⟩, hl⟩ := hnr
      rw [ht] at hr
      have hl := beq_of hl
      have hq : len = e.2.2.2.2.2.1 := hlen.symm
      rw [hl] at hq
      subst hq
      exact ok_iload hC hI hA he hH hL (beq_of ha) (beq_of hx) hd hl hr
    case iload_n k =>
      obtain ⟨⟨⟨ht, ha⟩, hx⟩, hl⟩ := hnr
      rw [ht] at hr
      have hl := beq_of hl
      have hq : len = e.2.2.2.2.2.1 := hlen.symm
      rw [hl] at hq
      subst hq
      exact ok_iload_n hC hI hA he hH hL (beq_of ha) (beq_of hx) hd hl hr
    case lload k =>
      obtain ⟨⟨⟨ht, ha⟩, hx⟩, hl⟩ := hnr
      rw [ht] at hr
      have hl := beq_of hl
      have hq : len = e.2.2.2.2.2.1 := hlen.symm
      rw [hl] at hq
      subst hq
      exact ok_lload hC hI hA he hH hL (beq_of ha) (beq_of hx) hd hl hr
    case lload_n k =>
      obtain ⟨⟨⟨ht, ha⟩, hx⟩, hl⟩ := hnr
      rw [ht] at hr
      have hl := beq_of hl
      have hq : len = e.2.2.2.2.2.1 := hlen.symm
      rw [hl] at hq
      subst hq
      exact ok_lload_n hC hI hA he hH hL (beq_of ha) (beq_of hx) hd hl hr
    case aload k =>
      obtain ⟨⟨⟨ht, ha⟩, hx⟩, hl⟩ := hnr
      rw [ht] at hr
      have hl := beq_of hl
      have hq : len = e.2.2.2.2.2.1 := hlen.symm
      rw [hl] at hq
      subst hq
      exact ok_aload hC hI hA he hH hL (beq_of ha) (beq_of hx) hd hl hr
    case aload_n k =>
      obtain ⟨⟨⟨ht, ha⟩, hx⟩, hl⟩ := hnr
      rw [ht] at hr
      have hl := beq_of hl
      have hq : len = e.2.2.2.2.2.1 := hlen.symm
      rw [hl] at hq
      subst hq
      exact ok_aload_n hC hI hA he hH hL (beq_of ha) (beq_of hx) hd hl hr
    case istore k =>
      obtain ⟨⟨⟨⟨ht, ha⟩, hx⟩, hl⟩, hk⟩ := hnr
      rw [ht] at hr
      have hl := beq_of hl
      have hq : len = e.2.2.2.2.2.1 := hlen.symm
      rw [hl] at hq
      subst hq
      exact ok_istore hC hI hA he hH hL (beq_of ha) (beq_of hx) (blt_iff.mp hk) hd hl hr
    case istore_n k =>
      obtain ⟨⟨⟨⟨ht, ha⟩, hx⟩, hl⟩, hk⟩ := hnr
      rw [ht] at hr
      have hl := beq_of hl
      have hq : len = e.2.2.2.2.2.1 := hlen.symm
      rw [hl] at hq
      subst hq
      exact ok_istore_n hC hI hA he hH hL (beq_of ha) (beq_of hx) (blt_iff.mp hk) hd hl hr
    case astore k =>
      obtain ⟨⟨⟨⟨ht, ha⟩, hx⟩, hl⟩, hk⟩ := hnr
      rw [ht] at hr
      have hl := beq_of hl
      have hq : len = e.2.2.2.2.2.1 := hlen.symm
      rw [hl] at hq
      subst hq
      exact ok_astore hC hI hA he hH hL (beq_of ha) (beq_of hx) (blt_iff.mp hk) hd hl hr
    case astore_n k =>
      obtain ⟨⟨⟨⟨ht, ha⟩, hx⟩, hl⟩, hk⟩ := hnr
      rw [ht] at hr
      have hl := beq_of hl
      have hq : len = e.2.2.2.2.2.1 := hlen.symm
      rw [hl] at hq
      subst hq
      exact ok_astore_n hC hI hA he hH hL (beq_of ha) (beq_of hx) (blt_iff.mp hk) hd hl hr
    case lstore k =>
      obtain ⟨⟨⟨⟨ht, ha⟩, hx⟩, hl⟩, hk⟩ := hnr
      rw [ht] at hr
      have hl := beq_of hl
      have hq : len = e.2.2.2.2.2.1 := hlen.symm
      rw [hl] at hq
      subst hq
      exact ok_lstore hC hI hA he hH hL (beq_of ha) (blt_iff.mp hk) hd hl hr
    case lstore_n k =>
      obtain ⟨⟨⟨⟨ht, ha⟩, hx⟩, hl⟩, hk⟩ := hnr
      rw [ht] at hr
      have hl := beq_of hl
      have hq : len = e.2.2.2.2.2.1 := hlen.symm
      rw [hl] at hq
      subst hq
      exact ok_lstore_n hC hI hA he hH hL (beq_of ha) (blt_iff.mp hk) hd hl hr
    case iinc k m =>
      obtain ⟨⟨⟨⟨ht, ha⟩, hb⟩, hl⟩, hk⟩ := hnr
      rw [ht] at hr
      have hl := beq_of hl
      have hq : len = e.2.2.2.2.2.1 := hlen.symm
      rw [hl] at hq
      subst hq
      exact ok_iinc hC hI hA he hH hL (beq_of ha) hb (blt_iff.mp hk) hd hl hr
    case iadd =>
      obtain ⟨ht, hl⟩ := hnr
      rw [ht] at hr
      have hl := beq_of hl
      have hq : len = e.2.2.2.2.2.1 := hlen.symm
      rw [hl] at hq
      subst hq
      exact ok_iadd hC hI hA he hH hL hd hl hr
    case isub =>
      obtain ⟨ht, hl⟩ := hnr
      rw [ht] at hr
      have hl := beq_of hl
      have hq : len = e.2.2.2.2.2.1 := hlen.symm
      rw [hl] at hq
      subst hq
      exact ok_isub hC hI hA he hH hL hd hl hr
    case imul =>
      obtain ⟨ht, hl⟩ := hnr
      rw [ht] at hr
      have hl := beq_of hl
      have hq : len = e.2.2.2.2.2.1 := hlen.symm
      rw [hl] at hq
      subst hq
      exact ok_imul hC hI hA he hH hL hd hl hr
    case idiv =>
      obtain ⟨ht, hl⟩ := hnr
      rw [ht] at hr
      have hl := beq_of hl
      have hq : len = e.2.2.2.2.2.1 := hlen.symm
      rw [hl] at hq
      subst hq
      exact ok_idiv hC hI hA he hH hL hd hl hr
    case irem =>
      obtain ⟨ht, hl⟩ := hnr
      rw [ht] at hr
      have hl := beq_of hl
      have hq : len = e.2.2.2.2.2.1 := hlen.symm
      rw [hl] at hq
      subst hq
      exact ok_irem hC hI hA he hH hL hd hl hr
    case ineg =>
      obtain ⟨ht, hl⟩ := hnr
      rw [ht] at hr
      have hl := beq_of hl
      have hq : len = e.2.2.2.2.2.1 := hlen.symm
      rw [hl] at hq
      subst hq
      exact ok_ineg hC hI hA he hH hL hd hl hr
    case ior =>
      obtain ⟨ht, hl⟩ := hnr
      rw [ht] at hr
      have hl := beq_of hl
      have hq : len = e.2.2.2.2.2.1 := hlen.symm
      rw [hl] at hq
      subst hq
      exact ok_ior hC hI hA he hH hL hd hl hr
    case ixor =>
      obtain ⟨ht, hl⟩ := hnr
      rw [ht] at hr
      have hl := beq_of hl
      have hq : len = e.2.2.2.2.2.1 := hlen.symm
      rw [hl] at hq
      subst hq
      exact ok_ixor hC hI hA he hH hL hd hl hr
    case ishl =>
      obtain ⟨ht, hl⟩ := hnr
      rw [ht] at hr
      have hl := beq_of hl
      have hq : len = e.2.2.2.2.2.1 := hlen.symm
      rw [hl] at hq
      subst hq
      exact ok_ishl hC hI hA he hH hL hd hl hr
    case ishr =>
      obtain ⟨ht, hl⟩ := hnr
      rw [ht] at hr
      have hl := beq_of hl
      have hq : len = e.2.2.2.2.2.1 := hlen.symm
      rw [hl] at hq
      subst hq
      exact ok_ishr hC hI hA he hH hL hd hl hr
    case ladd =>
      obtain ⟨ht, hl⟩ := hnr
      rw [ht] at hr
      have hl := beq_of hl
      have hq : len = e.2.2.2.2.2.1 := hlen.symm
      rw [hl] at hq
      subst hq
      exact ok_ladd hC hI hA he hH hL hd hl hr
    case lsub =>
      obtain ⟨ht, hl⟩ := hnr
      rw [ht] at hr
      have hl := beq_of hl
      have hq : len = e.2.2.2.2.2.1 := hlen.symm
      rw [hl] at hq
      subst hq
      exact ok_lsub hC hI hA he hH hL hd hl hr
    case lmul =>
      obtain ⟨ht, hl⟩ := hnr
      rw [ht] at hr
      have hl := beq_of hl
      have hq : len = e.2.2.2.2.2.1 := hlen.symm
      rw [hl] at hq
      subst hq
      exact ok_lmul hC hI hA he hH hL hd hl hr
    case ldiv =>
      obtain ⟨ht, hl⟩ := hnr
      rw [ht] at hr
      have hl := beq_of hl
      have hq : len = e.2.2.2.2.2.1 := hlen.symm
      rw [hl] at hq
      subst hq
      exact ok_ldiv hC hI hA he hH hL hd hl hr
    case lcmp =>
      obtain ⟨ht, hl⟩ := hnr
      rw [ht] at hr
      have hl := beq_of hl
      have hq : len = e.2.2.2.2.2.1 := hlen.symm
      rw [hl] at hq
      subst hq
      exact ok_lcmp hC hI hA he hH hL hd hl hr
    case i2l =>
      obtain ⟨ht, hl⟩ := hnr
      rw [ht] at hr
      have hl := beq_of hl
      have hq : len = e.2.2.2.2.2.1 := hlen.symm
      rw [hl] at hq
      subst hq
      exact ok_i2l hC hI hA he hH hL hd hl hr
    case l2i =>
      obtain ⟨ht, hl⟩ := hnr
      rw [ht] at hr
      have hl := beq_of hl
      have hq : len = e.2.2.2.2.2.1 := hlen.symm
      rw [hl] at hq
      subst hq
      exact ok_l2i hC hI hA he hH hL hd hl hr
    case dup =>
      obtain ⟨ht, hl⟩ := hnr
      rw [ht] at hr
      have hl := beq_of hl
      have hq : len = e.2.2.2.2.2.1 := hlen.symm
      rw [hl] at hq
      subst hq
      exact ok_dup hC hI hA he hH hL hd hl hr
    case dup2 =>
      obtain ⟨ht, hl⟩ := hnr
      rw [ht] at hr
      have hl := beq_of hl
      have hq : len = e.2.2.2.2.2.1 := hlen.symm
      rw [hl] at hq
      subst hq
      exact ok_dup2 hC hI hA he hH hL hd hl hr
    case pop =>
      obtain ⟨ht, hl⟩ := hnr
      rw [ht] at hr
      have hl := beq_of hl
      have hq : len = e.2.2.2.2.2.1 := hlen.symm
      rw [hl] at hq
      subst hq
      exact ok_pop hC hI hA he hH hL hd hl hr
    case iaload =>
      obtain ⟨ht, hl⟩ := hnr
      rw [ht] at hr
      have hl := beq_of hl
      have hq : len = e.2.2.2.2.2.1 := hlen.symm
      rw [hl] at hq
      subst hq
      exact ok_iaload hC hI hA he hH hL hd hl hr
    case iastore =>
      obtain ⟨ht, hl⟩ := hnr
      rw [ht] at hr
      have hl := beq_of hl
      have hq : len = e.2.2.2.2.2.1 := hlen.symm
      rw [hl] at hq
      subst hq
      exact ok_iastore hC hI hA he hH hL hd hl hr
    case aaload =>
      obtain ⟨ht, hl⟩ := hnr
      rw [ht] at hr
      have hl := beq_of hl
      have hq : len = e.2.2.2.2.2.1 := hlen.symm
      rw [hl] at hq
      subst hq
      exact ok_aaload hC hI hA he hH hL hd hl hr
    case aastore =>
      obtain ⟨ht, hl⟩ := hnr
      rw [ht] at hr
      have hl := beq_of hl
      have hq : len = e.2.2.2.2.2.1 := hlen.symm
      rw [hl] at hq
      subst hq
      exact ok_aastore hC hI hA he hH hL hd hl hr
    case arraylength =>
      obtain ⟨ht, hl⟩ := hnr
      rw [ht] at hr
      have hl := beq_of hl
      have hq : len = e.2.2.2.2.2.1 := hlen.symm
      rw [hl] at hq
      subst hq
      exact ok_alen hC hI hA he hH hL hd hl hr
    case iand =>
      obtain ⟨ht, hl⟩ := hnr
      rw [ht] at hr
      have hl := beq_of hl
      have hq : len = e.2.2.2.2.2.1 := hlen.symm
      rw [hl] at hq
      subst hq
      exact ok_iand hC hI hA he hH hL hσ hd hl hr
    case goto o =>
      obtain ⟨⟨ht, hl⟩, hj⟩ := hnr
      rw [ht] at hr
      rw [hpc] at hj
      have hl := beq_of hl
      have hq : len = e.2.2.2.2.2.1 := hlen.symm
      rw [hl] at hq
      subst hq
      exact ok_goto hC hI hA he hH hL hj hd hl hr
    case ifnonnull o =>
      obtain ⟨⟨ht, hl⟩, hj⟩ := hnr
      rw [ht] at hr
      rw [hpc] at hj
      have hl := beq_of hl
      have hq : len = e.2.2.2.2.2.1 := hlen.symm
      rw [hl] at hq
      subst hq
      exact ok_ifnonnull hC hI hA he hH hL hj hd hl hr
    case ifCond cd o =>
      obtain ⟨⟨ht, hl⟩, hj⟩ := hnr
      rw [ht] at hr
      rw [hpc] at hj
      have hl := beq_of hl
      have hq : len = e.2.2.2.2.2.1 := hlen.symm
      rw [hl] at hq
      subst hq
      cases cd
      case eq => exact ok_if_eq hC hI hA he hH hL hj hd hl hr
      case ne => exact ok_if_ne hC hI hA he hH hL hj hd hl hr
      case lt => exact ok_if_lt hC hI hA he hH hL hj hd hl hr
      case ge => exact ok_if_ge hC hI hA he hH hL hj hd hl hr
      case gt => exact ok_if_gt hC hI hA he hH hL hj hd hl hr
      case le => exact ok_if_le hC hI hA he hH hL hj hd hl hr
    case if_icmp cd o =>
      obtain ⟨⟨ht, hl⟩, hj⟩ := hnr
      rw [ht] at hr
      rw [hpc] at hj
      have hl := beq_of hl
      have hq : len = e.2.2.2.2.2.1 := hlen.symm
      rw [hl] at hq
      subst hq
      cases cd
      case eq => exact ok_icmp_eq hC hI hA he hH hL hj hd hl hr
      case ne => exact ok_icmp_ne hC hI hA he hH hL hj hd hl hr
      case lt => exact ok_icmp_lt hC hI hA he hH hL hj hd hl hr
      case ge => exact ok_icmp_ge hC hI hA he hH hL hj hd hl hr
      case gt => exact ok_icmp_gt hC hI hA he hH hL hj hd hl hr
      case le => exact ok_icmp_le hC hI hA he hH hL hj hd hl hr
    case tableswitch df lo hi offs =>
      obtain ⟨ht, hs⟩ := hnr
      rw [ht] at hr
      rw [hpc] at hs
      exact ok_switch hI hA he hH hL hs hd hr
    case getfield ix =>
      obtain ⟨⟨ht, ha⟩, hl⟩ := hnr
      rw [ht] at hr
      have hl := beq_of hl
      have hq : len = e.2.2.2.2.2.1 := hlen.symm
      rw [hl] at hq
      subst hq
      exact ok_getfield hC hI hA he hH hL ha hd hl hr
    case putfield ix =>
      obtain ⟨⟨⟨ht, ha⟩, hl⟩, hb⟩ := hnr
      rw [ht] at hr
      have hl := beq_of hl
      have hq : len = e.2.2.2.2.2.1 := hlen.symm
      rw [hl] at hq
      subst hq
      exact ok_putfield hC hI hA he hH hL ha hb hd hl hr
    case newarray ty =>
      obtain ⟨⟨ht, ha⟩, hl⟩ := hnr
      rw [ht] at hr
      subst ha
      have hl := beq_of hl
      have hq : len = e.2.2.2.2.2.1 := hlen.symm
      rw [hl] at hq
      subst hq
      exact ok_newarray hC hI hA he hH hL hd hl hr
    case anewarray ix =>
      obtain ⟨⟨⟨ht, ha⟩, hb⟩, hl⟩ := hnr
      rw [ht] at hr
      have hl := beq_of hl
      have hq : len = e.2.2.2.2.2.1 := hlen.symm
      rw [hl] at hq
      subst hq
      exact ok_anewarray hC hI hA he hH hL ha hb hd hl hr
    case new ix =>
      obtain ⟨⟨ht, ha⟩, hl⟩ := hnr
      rw [ht] at hr
      have hl := beq_of hl
      have hq : len = e.2.2.2.2.2.1 := hlen.symm
      rw [hl] at hq
      subst hq
      exact ok_new hC hI hA he hH hL ha hd hl hr
    case getstatic ix =>
      obtain ⟨⟨ht, ha⟩, hl⟩ := hnr
      rw [ht] at hr
      have hl := beq_of hl
      have hq : len = e.2.2.2.2.2.1 := hlen.symm
      rw [hl] at hq
      subst hq
      exact ok_getstatic hC hI hA he hH hL ha hd hl hr
    case invokespecial ix =>
      obtain ⟨hl, hb⟩ := hnr
      have hl := beq_of hl
      have hq : len = e.2.2.2.2.2.1 := hlen.symm
      rw [hl] at hq
      subst hq
      cases hz : decide (e.2.1 = .nop) with
      | true =>
        rw [hz, cond_true] at hb
        simp only [Bool.and_eq_true, decide_eq_true_eq] at hb hz
        rw [hz] at hr
        exact ok_objinit hC hI hA he hH hL hb.1.1 hb.1.2 hb.2 hd hl hr
      | false =>
        rw [hz, cond_false] at hb
        simp only [Bool.and_eq_true, decide_eq_true_eq, Bool.or_eq_true, Bool.not_eq_true'] at hb
        obtain ⟨⟨ht, ha⟩, hm⟩ := hb
        rw [ht] at hr
        exact ok_special hC hI hA he hH hL hm (fun z => by rw [z] at ha; cases ha) hd hl hr
    case invokestatic ix =>
      obtain ⟨hl, hb⟩ := hnr
      have hl := beq_of hl
      have hq : len = e.2.2.2.2.2.1 := hlen.symm
      rw [hl] at hq
      subst hq
      cases hz : decide (e.2.1 = .swap) with
      | true =>
        rw [hz, cond_true] at hb
        simp only [Bool.and_eq_true, decide_eq_true_eq] at hb hz
        rw [hz] at hr
        exact ok_copy hC hI hA he hH hL hb.1 hb.2 hd hl hr
      | false =>
        rw [hz, cond_false] at hb
        simp only [Bool.and_eq_true, decide_eq_true_eq, Bool.not_eq_true'] at hb
        obtain ⟨⟨ht, ha⟩, hm⟩ := hb
        rw [ht] at hr
        exact ok_static hC hI hA he hH hL hm (fun z => by rw [z] at ha; cases ha) hd hl hr
    case invokevirtual ix =>
      obtain ⟨⟨⟨hl, ha⟩, hm⟩, hb⟩ := hnr
      have hl := beq_of hl
      have hq : len = e.2.2.2.2.2.1 := hlen.symm
      rw [hl] at hq
      subst hq
      have hk0 : e.2.2.1 ≠ 0 := fun z => by rw [z] at ha; cases ha
      cases hz : decide (e.2.1 = .monitorenter) with
      | true =>
        rw [hz, cond_true] at hb
        simp only [Bool.and_eq_true, decide_eq_true_eq] at hb hz
        obtain ⟨hy, hb⟩ := hb
        split at hb
        case h_2 => cases hb
        rename_i q hq
        simp only [Bool.and_eq_true, decide_eq_true_eq] at hb
        rw [hz] at hr
        exact ok_copies hP hC hI hA he hH hL hm hk0 hy hq (blt_iff.mp hb.1) hb.2 hd hl hr
      | false =>
        rw [hz, cond_false] at hb
        rw [of_decide_eq_true hb] at hr
        exact ok_virtual hC hI hA he hH hL hm hk0 hd hl hr
    case return_ =>
      obtain ⟨⟨ht, hl⟩, ha⟩ := hnr
      rw [ht] at hr
      have hl := beq_of hl
      have hq : len = e.2.2.2.2.2.1 := hlen.symm
      rw [hl] at hq
      subst hq
      exact ok_return (ih := cx B n) (lv := lv) hA he hH (beq_of ha) hd hr
    case ireturn =>
      obtain ⟨⟨ht, hl⟩, ha⟩ := hnr
      rw [ht] at hr
      have hl := beq_of hl
      have hq : len = e.2.2.2.2.2.1 := hlen.symm
      rw [hl] at hq
      subst hq
      exact ok_ireturn (ih := cx B n) (lv := lv) hA he hH (beq_of ha) hd hr
    case lreturn =>
      obtain ⟨⟨ht, hl⟩, ha⟩ := hnr
      rw [ht] at hr
      have hl := beq_of hl
      have hq : len = e.2.2.2.2.2.1 := hlen.symm
      rw [hl] at hq
      subst hq
      exact ok_lreturn (ih := cx B n) (lv := lv) hA he hH (beq_of ha) hd hr
    case areturn =>
      obtain ⟨⟨ht, hl⟩, ha⟩ := hnr
      rw [ht] at hr
      have hl := beq_of hl
      have hq : len = e.2.2.2.2.2.1 := hlen.symm
      rw [hl] at hq
      subst hq
      exact ok_areturn (ih := cx B n) (lv := lv) hA he hH (beq_of ha) hd hr
    all_goals first | (cases hnr; done) | (rw [hnr.1] at hr; cases hr)
end OX

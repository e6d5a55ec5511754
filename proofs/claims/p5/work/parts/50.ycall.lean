/-! ===== the abstract machine: calls ===== -/
def fitAs (len : Nat) : List FT → List Value → Prop
  | [], [] => True
  | p :: ps, x :: xs => fitT len p x ∧ fitAs len ps xs
  | _, _ => False
def fitO (len : Nat) (p : Option FT) (v : Option Value) : Prop := match p, v with
  | none, none => True
  | some q, some x => fitT len q x
  | _, _ => False
/-- a contract holds -/
def CtH (GI : PH → Prop) (k : Nat) (c : CT) : Prop := ∀ (d : Nat) (ph : PH) (as : List Value), c.2.2.2 ≤ d → WT ph → GI ph → fitAs ph.length c.1 as → ∃ (m : Nat) (v : Option Value) (ph' : PH) (nc ns : Nat), run m d k (0, lv_args 0 as, [], ph, 0, 0) = some (v, ph', nc, ns) ∧ WT ph' ∧ GI ph' ∧ Fr c.2.2.1 ph ph' ∧ ∃ q ∈ c.2.1, fitO ph'.length q v
def CtAll (GI : PH → Prop) (D : Nat) : Prop := ∀ k c, ctT[k]? = some (some c) → c.2.2.2 < D → CtH GI k c
theorem SRY_app {σ : List Value} : ∀ {xs r : List YV} {cst : List Value}, SRY σ (xs ++ r) cst → ∃ cx cr, cst = cx ++ cr ∧ cx.length = xs.length ∧ SRY σ xs cx ∧ SRY σ r cr
  | [], r, cst, h => ⟨[], cst, rfl, rfl, trivial, h⟩
  | v :: xs, r, x :: cst, h => by
    obtain ⟨cx, cr, rfl, h2, h3, h4⟩ := SRY_app (xs := xs) h.2
    exact ⟨x :: cx, cr, rfl, by rw [List.length_cons, List.length_cons, h2], ⟨h.1, h3⟩, h4⟩
  | v :: xs, r, [], h => h.elim
theorem SRY_snoc {σ : List Value} : ∀ {as : List YV} {cs : List Value} {v : YV} {x : Value}, SRY σ as cs → valR σ v x → SRY σ (as ++ [v]) (cs ++ [x])
  | [], [], _, _, _, hv => ⟨hv, trivial⟩
  | _ :: _, _ :: _, _, _, h, hv => ⟨h.1, SRY_snoc h.2 hv⟩
  | [], _ :: _, _, _, h, _ => h.elim
  | _ :: _, [], _, _, h, _ => h.elim
theorem SRY_rev {σ : List Value} : ∀ {xs : List YV} {cx : List Value}, SRY σ xs cx → SRY σ xs.reverse cx.reverse
  | [], [], _ => trivial
  | v :: xs, x :: cx, h => by
    rw [List.reverse_cons, List.reverse_cons]
    exact SRY_snoc (SRY_rev h.2) h.1
  | [], _ :: _, h => h.elim
  | _ :: _, [], h => h.elim
theorem splY_ok : ∀ {n : Nat} {acc st : List YV} {K : List YV → List YV → YR} {l : List YO}, splY n acc st K = some l → ∃ xs r, st = xs ++ r ∧ xs.length = n ∧ K (xs.reverse ++ acc) r = some l
  | 0, acc, st, K, l, h => ⟨[], st, rfl, rfl, h⟩
  | n + 1, acc, [], K, l, h => by cases h
  | n + 1, acc, v :: st, K, l, h => by
    have h : splY n (v :: acc) st K = some l := h
    obtain ⟨xs, r, e1, e2, e3⟩ := splY_ok h
    refine ⟨v :: xs, r, by rw [e1]; rfl, by rw [List.length_cons, e2], ?_⟩
    rw [List.reverse_cons, List.append_assoc]
    exact e3
theorem ybnL_ok {f : YO → YR} : ∀ {l1 : List YO} {l : List YO}, ybnL f l1 = some l → ∀ o ∈ l1, ∃ l', f o = some l' ∧ ∀ p ∈ l', p ∈ l
  | [], _, _, o, ho => by cases ho
  | [a], l, h, o, ho => by
    rw [List.mem_singleton] at ho
    subst ho
    exact ⟨l, h, fun p hp => hp⟩
  | a :: b :: t, l, h, o, ho => by
    rw [ybnL] at h
    · obtain ⟨x, y, hx, hy, rfl⟩ := yapp_ok h
      rcases List.mem_cons.mp ho with rfl | ho
      · exact ⟨x, hx, fun p hp => List.mem_append_left _ hp⟩
      · obtain ⟨l', e1, e2⟩ := ybnL_ok hy o ho
        exact ⟨l', e1, fun p hp => List.mem_append_right _ (e2 p hp)⟩
    · simp
theorem ybnd_ok {x : YR} {f : YO → YR} {l : List YO} (h : ybnd x f = some l) : ∃ l1, x = some l1 ∧ ∀ o ∈ l1, ∃ l', f o = some l' ∧ ∀ p ∈ l', p ∈ l := by
  unfold ybnd at h
  cases x with
  | none => cases h
  | some l1 => exact ⟨l1, rfl, ybnL_ok h⟩
def okA (E : List (Nat × FT)) (as : List YV) : Prop := ∀ v ∈ as, cat1 E v = true ∨ (knd E v).1 = 1
theorem locK_ok {E : List (Nat × FT)} : ∀ {as : List YV} {K : List (Option YV) → YR} {l : List YO}, locK E as K = some l → K (locS E as) = some l ∧ okA E as
  | [], K, l, h => ⟨h, fun v hv => by cases hv⟩
  | v :: r, K, l, h => by
    rw [locK] at h
    rw [locS]
    cases hc : cat1 E v with
    | true =>
      rw [hc, cond_true] at h
      obtain ⟨h1, h2⟩ := locK_ok h
      refine ⟨by rw [cond_true]; exact h1, fun w hw => ?_⟩
      rcases List.mem_cons.mp hw with rfl | hw
      · exact Or.inl hc
      · exact h2 w hw
    | false =>
      rw [hc, cond_false] at h
      cases hk : Nat.beq (knd E v).1 1 with
      | false => rw [hk] at h; cases h
      | true =>
        rw [hk, cond_true] at h
        obtain ⟨h1, h2⟩ := locK_ok h
        refine ⟨by rw [cond_false]; exact h1, fun w hw => ?_⟩
        rcases List.mem_cons.mp hw with rfl | hw
        · exact Or.inr (beq_of hk)
        · exact h2 w hw
section YI
variable {GI : PH → Prop} {mk D : Nat} {σ : List Value} {ih : YB} {e : CE} {full rest : List CE} {lv : List (Option YV)} {st : List YV} {Y : YE} {d mi pc nc ns : Nat} {l : List YO} {M : MR} {clv : PV} {cst : List Value} {ph : PH}
theorem cat1_E {len : Nat} {E : List (Nat × FT)} (he : eOKY σ len E) {v : YV} {x : Value} (hv : valR σ v x) (h : cat1 E v = true) : x.category = 1 := by
  unfold cat1 at h
  split at h
  · rename_i a b hk
    obtain ⟨z, rfl, -⟩ := knd_ok he hv hk (show (0 : Nat) ≠ 9 by decide)
    rfl
  · rename_i a b hk
    obtain ⟨z, rfl, -⟩ := knd_ok he hv hk (show (2 : Nat) ≠ 9 by decide)
    rfl
  · cases h
theorem cat2_E {len : Nat} {E : List (Nat × FT)} (he : eOKY σ len E) {v : YV} {x : Value} (hv : valR σ v x) (h : (knd E v).1 = 1) : x.category = 2 := by
  obtain ⟨z, rfl, -⟩ := knd_kind he hv h (by decide)
  rfl
theorem locS_len {len : Nat} {E : List (Nat × FT)} (he : eOKY σ len E) : ∀ {as : List YV} {cs : List Value}, SRY σ as cs → okA E as → (lg_sl cs).length = (locS E as).length
  | [], [], _, _ => rfl
  | v :: as, x :: cs, h, ho => by
    have ih := locS_len he h.2 (fun w hw => ho w (List.mem_cons_of_mem _ hw))
    unfold lg_sl at ih ⊢
    rw [List.flatMap_cons, List.length_append, ih, locS]
    cases hc : cat1 E v with
    | true =>
      rw [cond_true, List.length_cons]
      have := cat1_E he h.1 hc
      simp [this]
      omega
    | false =>
      rw [cond_false, List.length_cons, List.length_cons]
      rcases ho v List.mem_cons_self with z | z
      · rw [hc] at z; cases z
      · have := cat2_E he h.1 z
        simp [this]
        omega
  | [], _ :: _, h, _ => h.elim
  | _ :: _, [], h, _ => h.elim
theorem locS_get {len : Nat} {E : List (Nat × FT)} (he : eOKY σ len E) : ∀ {as : List YV} {cs : List Value} (i0 i : Nat) {v : YV}, SRY σ as cs → okA E as → (locS E as)[i]? = some (some v) → ∃ x, gl (lv_args i0 cs) (i0 + i) = some x ∧ valR σ v x
  | [], [], i0, i, v, _, _, h => by simp [locS] at h
  | w :: as, x :: cs, i0, i, v, hs, ho, h => by
    have hrec : ∀ (i1 i : Nat), (locS E as)[i]? = some (some v) → ∃ x, gl (lv_args i1 cs) (i1 + i) = some x ∧ valR σ v x := fun i1 i h => locS_get he i1 i hs.2 (fun w hw => ho w (List.mem_cons_of_mem _ hw)) h
    rw [locS] at h
    cases hc : cat1 E w with
    | true =>
      rw [hc, cond_true] at h
      have hcat := cat1_E he hs.1 hc
      rw [lv_args, if_neg (by omega)]
      cases i with
      | zero =>
        rw [List.getElem?_cons_zero] at h
        cases h
        exact ⟨x, gl_cons_self _ _ _, hs.1⟩
      | succ i =>
        rw [List.getElem?_cons_succ] at h
        rw [gl_cons_ne _ _ (by omega), show i0 + (i + 1) = i0 + 1 + i by omega]
        exact hrec _ _ h
    | false =>
      rw [hc, cond_false] at h
      rcases ho w List.mem_cons_self with z | z
      · rw [hc] at z; cases z
      have hcat := cat2_E he hs.1 z
      rw [lv_args, if_pos hcat]
      cases i with
      | zero =>
        rw [List.getElem?_cons_zero] at h
        cases h
        exact ⟨x, gl_cons_self _ _ _, hs.1⟩
      | succ i =>
        cases i with
        | zero => simp at h
        | succ i =>
          rw [List.getElem?_cons_succ, List.getElem?_cons_succ] at h
          rw [gl_cons_ne _ _ (by omega), show i0 + (i + 1 + 1) = i0 + 2 + i by omega]
          exact hrec _ _ h
  | [], _ :: _, _, _, _, h, _, _ => h.elim
  | _ :: _, [], _, _, _, h, _, _ => h.elim
theorem fitL_ok {len : Nat} {E : List (Nat × FT)} (he : eOKY σ len E) : ∀ {as : List YV} {ps : List FT} {cs : List Value}, fitL E as ps = true → SRY σ as cs → fitAs len ps cs
  | [], [], [], _, _ => trivial
  | v :: as, p :: ps, x :: cs, h, hs => by
    rw [fitL, Bool.and_eq_true] at h
    exact ⟨subT_ok h.1 (knd_ok he hs.1 rfl (subT_9 h.1)), fitL_ok he h.2 hs.2⟩
  | [], _ :: _, _, h, _ => by cases h
  | _ :: _, [], _, h, _ => by cases h
  | [], [], _ :: _, _, hs => hs.elim
  | _ :: _, _ :: _, [], _, hs => hs.elim
theorem gy_call {len k d nc1 ns1 m1 : Nat} {i : Instr} {as r0 : List Value} {K : MR} {v : Option Value} {ph1 : PH} {σ' : List Value} (hM : mT[mi]? = some M) (hd : decode (mC M) pc = .ok (i, len)) (hc : x_ca (mO M) i len cst ph = some (k, as, r0)) (hK : mT[k]? = some K) (hl : (lg_sl as).length ≤ mL K)
    (h1 : run m1 d k (0, lv_args 0 as, [], ph, 0, 0) = some (v, ph1, nc1, ns1)) (hp : σ <+: σ') (hF : Fr mk ph ph1) (h2 : GoodY GI mk σ' (d + 1) mi (pc + 3) clv (v.toList ++ r0) ph1 (nc + nc1) (ns + ns1) l) : GoodY GI mk σ (d + 1) mi pc clv cst ph nc ns l := by
  obtain ⟨o, ho, m, v2, ph2, nc2, ns2, σ2, e1, e2, e3, e4, e5, e6, e7, e8, e9⟩ := h2
  refine ⟨o, ho, (m1 + m) + 1, v2, ph2, nc2, ns2, σ2, ?_, hp.trans e2, e3, e4, e5, e6, e7, hF.trans e8, e9⟩
  rw [run, hM]
  dsimp only
  rw [hd]
  dsimp only
  rw [hc]
  dsimp only
  rw [hK]
  dsimp only
  rw [if_pos hl, run_add h1 m]
  dsimp only
  rw [Nat.add_comm m1 m]
  exact run_add e1 m1
/-- what is left after a call by contract -/
theorem YS.call (hS : YS GI σ Y lv st clv cst ph) {ph' : PH} {mm : Nat} {C : List (Nat × Nat × YV)} (hW : WT ph') (hGI : GI ph') (hF : Fr mm ph ph') (hC : ∀ q ∈ C, q ∈ Y.2.2 ∧ ∃ u w, look q.1 Y.2.1 = (2, u, w) ∧ Nat.testBit mm u = false) : YS GI σ (Y.1, Y.2.1, C) lv st clv cst ph' := by
  obtain ⟨g1, g2, g3, g4, g5, g6, g7⟩ := hS
  refine ⟨g1, g2.mono List.prefix_rfl hF.1, fun q hq => ?_, g4, g5, hW, hGI⟩
  obtain ⟨m1, u, w, m2, m3⟩ := hC q hq
  obtain ⟨a, c, x, k1, k2, k3, k4⟩ := g3 q m1
  obtain ⟨y, y1, y2⟩ := g2 _ (look_ok m2 (show (2 : Nat) ≠ 9 by decide))
  rw [k1] at y1
  cases y1
  obtain ⟨b, b1, b2, b3, b4⟩ := y2
  cases b1
  obtain ⟨c', c1, c2, -⟩ := hF.2 a c k2
  have := c2 (by rw [b4]; exact m3)
  subst this
  exact ⟨a, c', x, k1, c1, k3, k4⟩
theorem postK_ok (hS : YS GI σ Y lv st clv cst ph) : ∀ {qs : List (Option FT)} {l : List YO}, postK ih full rest lv st Y d qs = some l → ∀ q ∈ qs, ∀ v : Option Value, fitO ph.length q v → ∃ σ' Y' st' l', σ <+: σ' ∧ YS GI σ' Y' lv st' clv (v.toList ++ cst) ph ∧ ih full rest lv st' Y' d = some l' ∧ ∀ o ∈ l', o ∈ l
  | [], _, _, q, hq, _, _ => by cases hq
  | p :: ps, l, h, q, hq, v, hv => by
    have h : yapp (post1 ih full rest lv st Y d p) (postK ih full rest lv st Y d ps) = some l := h
    obtain ⟨l1, l2, h1, h2, rfl⟩ := yapp_ok h
    rcases List.mem_cons.mp hq with rfl | hq
    · match q, v, hv, h1 with
      | none, none, _, h1 => exact ⟨σ, Y, st, l1, List.prefix_rfl, hS, h1, fun o ho => List.mem_append_left _ ho⟩
      | some f, some x, hv, h1 =>
        have h1 : frK f Y (fun w Y => ih full rest lv (w :: st) Y d) = some l1 := h1
        rw [frK_eq] at h1
        obtain ⟨hS3, hw⟩ := hS.fresh (p := f) (x := x) hv
        exact ⟨_, _, _, l1, pre_app _ _, hS3.push hw, h1, fun o ho => List.mem_append_left _ ho⟩
    · obtain ⟨σ', Y', st', l', e1, e2, e3, e4⟩ := postK_ok hS h2 q hq v hv
      exact ⟨σ', Y', st', l', e1, e2, e3, fun o ho => List.mem_append_right _ (e4 o ho)⟩
theorem yk_enter (hC : CertAll) (hK0 : CtAll GI D) (hI : IHy GI mk D ih) (hA : AtC mi M full (e :: rest) pc) (hD : d ≤ D) {i : Instr} {k : Nat} {K : MR} {as r : List YV} {cas cr : List Value} (hS : YS GI σ Y lv r clv cr ph) (has : SRY σ as cas) (hd : decode (mC M) pc = .ok (i, 3)) (hlen : e.2.2.2.2.2.1 = 3) (hca : catS cr ≤ 8 → x_ca (mO M) i 3 cst ph = some (k, cas, cr)) (hK : mT[k]? = some K) (hk0 : k ≠ 0)
    (hp : y_enter mk ih k (tget CM 8 k mTab) as full rest lv r Y d = some l) : GoodY GI mk σ d mi pc clv cst ph nc ns l := by
  obtain ⟨-, -, ⟨e0, r0, hc1, hc2⟩, hinf⟩ := hC k K hK
  have hinf := hinf hk0
  unfold infOK at hinf
  simp only [Bool.and_eq_true] at hinf
  have hmL := beq_of hinf.1.1.1
  unfold y_enter at hp
  cases d with
  | zero => cases hp
  | succ d' =>
    have hp : (locK Y.2.1 as fun loc => bif Nat.ble loc.length (tget CM 8 k mTab).2.1 && Nat.ble r.length 4 then y_body mk ih (ctT[k]?) (tget CM 8 k mTab) as loc full rest lv r Y d' else none) = some l := hp
    obtain ⟨hp, hoA⟩ := locK_ok hp
    cases hc : (Nat.ble (locS Y.2.1 as).length (tget CM 8 k mTab).2.1 && Nat.ble r.length 4) with
    | false => rw [hc] at hp; cases hp
    | true =>
    rw [hc, cond_true] at hp
    rw [Bool.and_eq_true] at hc
    have hcat : catS cr ≤ 8 := Nat.le_trans (catS_le hS.2.2.2.2.1) (Nat.mul_le_mul_left 2 (ble_of hc.2))
    have hca := hca hcat
    have hll : (lg_sl cas).length ≤ mL K := by rw [locS_len hS.env has hoA, ← hmL]; exact ble_of hc.1
    unfold y_body at hp
    split at hp
    · rename_i ct hct
      unfold y_ctr at hp
      cases hb : (fitL Y.2.1 as ct.1 && Nat.beq (Nat.land ct.2.2.1 mk) ct.2.2.1 && Nat.ble ct.2.2.2 d') with
      | false => rw [hb] at hp; cases hp
      | true =>
      rw [hb, cond_true] at hp
      simp only [Bool.and_eq_true] at hb
      obtain ⟨⟨b1, b2⟩, b3⟩ := hb
      obtain ⟨m1, v, ph1, nc1, ns1, r1, r2, r3, r4, q, q1, q2⟩ := hK0 k ct hct (Nat.lt_of_le_of_lt (ble_of b3) (by omega)) d' ph cas (ble_of b3) hS.wt hS.2.2.2.2.2.2 (fitL_ok hS.env b1 has)
      obtain ⟨C', hp, hC'⟩ := cmsk_ok hp
      have hS2 := hS.call r2 r3 r4 hC'
      obtain ⟨σ', Y', st', l', e1, e2, e3, e4⟩ := postK_ok hS2 hp q q1 v q2
      exact gy_call hA.1 hd hca hK hll r1 e1 (r4.widen (beq_of b2)) ((gy_next hC hI hA hlen hD e3 e2).mono e4)
    · obtain ⟨l1, hl1, hl2⟩ := ybnd_ok hp
      have hGood := hI.2 k K _ _ _ _ _ _ _ hl1 σ 0 (lv_args 0 cas) [] ph 0 0 ⟨hK, rfl, 0, e0, r0, hc1, rfl, hc2⟩ (by omega) ⟨hS.1, hS.2.1, hS.2.2.1, fun i v hv => by have := locS_get hS.env 0 i has hoA hv; rwa [Nat.zero_add] at this, trivial, hS.2.2.2.2.2⟩
      obtain ⟨o, ho, m1, v, ph1, nc1, ns1, σ1, r1, r2, r3, r4, r5, r6, r7, r8, r9⟩ := hGood
      obtain ⟨l', e1, e2⟩ := hl2 o ho
      have hS2 : YS GI σ1 o.2 lv (pushY o.1 r) clv (v.toList ++ cr) ph1 := by
        refine ⟨r3, r4, r5, hS.2.2.2.1.mono r2, ?_, r6, r7⟩
        have hsr := SRY.mono r2 hS.2.2.2.2.1
        match o.1, v, r9 with
        | none, none, _ => exact hsr
        | some a, some x, hax => exact ⟨hax, hsr⟩
      exact gy_call hA.1 hd hca hK hll r1 r2 r8 ((gy_next hC hI hA hlen hD e1 hS2).mono e2)
theorem yk_virtual (hC : CertAll) (hK0 : CtAll GI D) (hI : IHy GI mk D ih) (hA : AtC mi M full (e :: rest) pc) (hD : d ≤ D) (hS : YS GI σ Y lv st clv cst ph) {ix : Nat} (hm : mlF (mO M) ix = some e.2.2.1) (hk0 : e.2.2.1 ≠ 0) (hd : decode (mC M) pc = .ok (.invokevirtual ix, 3)) (hlen : e.2.2.2.2.2.1 = 3) (hp : y_virtual mk ih e full rest lv st Y d = some l) : GoodY GI mk σ d mi pc clv cst ph nc ns l := by
  obtain ⟨K, hK⟩ := mlF_some hm
  have hinf := (hC _ K hK).2.2.2 hk0
  unfold infOK at hinf
  simp only [Bool.and_eq_true] at hinf
  obtain ⟨⟨⟨i1, i2⟩, i3⟩, i4⟩ := hinf
  unfold y_virtual at hp
  dsimp only at hp
  have hsp := splY_ok hp
  clear hp
  obtain ⟨xs, r, rfl, hxl, hp⟩ := hsp
  rw [List.append_nil] at hp
  split at hp
  case h_2 => cases hp
  rename_i v r
  obtain ⟨g1, g2, g3, g4, g5, g6⟩ := hS
  obtain ⟨cx, cr0, rfl, hcl, hsx, hsr⟩ := SRY_app g5
  have hS0 : YS GI σ Y lv (v :: r) clv cr0 ph := ⟨g1, g2, g3, g4, hsr, g6⟩
  obtain ⟨x0, cr, rfl, hv, hS1⟩ := hS0.pop
  obtain ⟨rr, t, a, rfl, rfl, a1, a2, a3, -, -, hp⟩ := refK_ok hp g2 hv
  split at hp
  case h_2 => cases hp
  rename_i ci fts ht
  obtain ⟨c, hob, fs, rfl, -⟩ := hS1.wt.get a1 a2 a3 ht
  cases hc : (Nat.beq ci (tget CM 8 e.2.2.1 mTab).2.2.2.2.1 && Nat.beq (tget CM 8 e.2.2.1 mTab).2.2.2.1 0 && !(Nat.beq t 1)) with
  | false => rw [hc] at hp; cases hp
  | true =>
  rw [hc, cond_true] at hp
  simp only [Bool.and_eq_true, Bool.not_eq_true'] at hc
  obtain ⟨⟨c1, c2⟩, c3⟩ := hc
  have h2 : 2 ≤ a := two_le a1 (by rw [a3]; intro z; rw [z] at c3; cases c3)
  have hN : mN K = cx.length := by rw [hcl, hxl, beq_of i2]
  refine yk_enter hC hK0 hI hA hD (as := .inr rr :: xs.reverse) (cas := .ref a :: cx.reverse) hS1 ⟨hv, SRY_rev hsx⟩ hd hlen (fun hcat => ?_) hK hk0 hp
  have hdr : (cx ++ Value.ref a :: cr).drop (mN K) = Value.ref a :: cr := by rw [hN, List.drop_left' rfl]
  have htk : (cx ++ Value.ref a :: cr).take (mN K) = cx := by rw [hN, List.take_left' rfl]
  unfold x_ca
  rw [if_pos rfl]
  simp only [hm, hK, hdr, hob]
  rw [if_pos ⟨hk0, by rw [← beq_of i3]; exact beq_of c2, by rw [← beq_of i4]; exact (beq_of c1).symm, h2, hcat⟩, htk]
theorem yk_static (hC : CertAll) (hK0 : CtAll GI D) (hI : IHy GI mk D ih) (hA : AtC mi M full (e :: rest) pc) (hD : d ≤ D) (hS : YS GI σ Y lv st clv cst ph) {ix : Nat} (hm : mlF (mO M) ix = some e.2.2.1) (hk0 : e.2.2.1 ≠ 0) (hd : decode (mC M) pc = .ok (.invokestatic ix, 3)) (hlen : e.2.2.2.2.2.1 = 3) (hp : y_static mk ih e full rest lv st Y d = some l) : GoodY GI mk σ d mi pc clv cst ph nc ns l := by
  obtain ⟨K, hK⟩ := mlF_some hm
  have hinf := (hC _ K hK).2.2.2 hk0
  unfold infOK at hinf
  simp only [Bool.and_eq_true] at hinf
  obtain ⟨⟨⟨i1, i2⟩, i3⟩, i4⟩ := hinf
  unfold y_static at hp
  dsimp only at hp
  cases c4 : Nat.beq (tget CM 8 e.2.2.1 mTab).2.2.2.1 1 with
  | false => rw [c4] at hp; cases hp
  | true =>
  rw [c4, cond_true] at hp
  have hsp := splY_ok hp
  clear hp
  obtain ⟨xs, r, rfl, hxl, hp⟩ := hsp
  rw [List.append_nil] at hp
  obtain ⟨g1, g2, g3, g4, g5, g6⟩ := hS
  obtain ⟨cx, cr, rfl, hcl, hsx, hsr⟩ := SRY_app g5
  have hN : mN K = cx.length := by rw [hcl, hxl, beq_of i2]
  refine yk_enter hC hK0 hI hA hD (as := xs.reverse) (cas := cx.reverse) ⟨g1, g2, g3, g4, hsr, g6⟩ (SRY_rev hsx) hd hlen (fun hcat => ?_) hK hk0 hp
  have hdr : (cx ++ cr).drop (mN K) = cr := by rw [hN, List.drop_left' rfl]
  have htk : (cx ++ cr).take (mN K) = cx := by rw [hN, List.take_left' rfl]
  unfold x_ca
  rw [if_pos rfl]
  simp only [hm, hK, hdr]
  rw [if_pos ⟨hk0, by rw [← beq_of i3]; exact beq_of c4, by rw [hN]; simp, hcat⟩, htk]
end YI

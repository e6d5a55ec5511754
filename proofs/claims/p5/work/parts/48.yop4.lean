/-! ===== the abstract machine: the heap ===== -/
theorem psi_one : psi 1 = 1 := by decide
theorem ty_one : tyT[1]? = some (.inl (5, [], 0, 0)) := rfl
theorem two_le {a : Nat} (h1 : 1 ≤ a) (hne : psi a ≠ 1) : 2 ≤ a := by
  by_cases h : a = 1
  · subst h
    exact absurd psi_one hne
  · omega
theorem WT.get {ph : PH} (h : WT ph) {a : Nat} (h1 : 1 ≤ a) (h2 : a < ph.length) {t : Nat} (hp : psi a = t) {T : TT} (ht : tyT[t]? = some T) : ∃ c, ph[a]? = some c ∧ cellT ph.length T c := h a h1 h2 T (by rw [hp]; exact ht)
theorem WT.set {ph : PH} (h : WT ph) {a : Nat} {c' : PE} (ha : a < ph.length) (hc : ∀ T, tyT[psi a]? = some T → cellT ph.length T c') : WT (ph.set a c') := by
  intro b h1 h2 T hT
  rw [List.length_set] at h2 ⊢
  by_cases e : a = b
  · subst e
    exact ⟨c', List.getElem?_set_self ha, hc T hT⟩
  · rw [List.getElem?_set_ne e]
    exact h b h1 h2 T hT
theorem Fr_set {mk : Nat} {ph : PH} {a : Nat} {c c' : PE} (ha : ph[a]? = some c) (hb : Nat.testBit mk (psi a) = true) (ho : okSet (psi a) c c') : Fr mk ph (ph.set a c') := by
  have hlt := (List.getElem?_eq_some_iff.mp ha).1
  refine ⟨by rw [List.length_set]; exact Nat.le_refl _, fun x p hp => ?_⟩
  by_cases e : a = x
  · subst e
    rw [ha] at hp
    cases hp
    refine ⟨c', List.getElem?_set_self hlt, fun z => ?_, fun _ => okSet_stay ho⟩
    rw [hb] at z
    cases z
  · exact ⟨p, by rw [List.getElem?_set_ne e]; exact hp, fun _ => rfl, fun _ => stay.rfl' _ _⟩
/-- what is always true stays so, whatever the machine itself changes -/
def GOK (GI : PH → Prop) : Prop := ∀ (ph : PH) (a : Nat) (c c' : PE), WT ph → GI ph → 1 ≤ a → ph[a]? = some c → okSet (psi a) c c' → GI (ph.set a c')
theorem cget_ok {r j : Nat} : ∀ {C : List (Nat × Nat × YV)} {w : YV}, cget r j C = some w → (r, j, w) ∈ C
  | [], _, h => by cases h
  | q :: C, w, h => by
    rw [cget] at h
    cases hb : (Nat.beq q.1 r && Nat.beq q.2.1 j) with
    | true =>
      rw [hb, cond_true] at h
      rw [Bool.and_eq_true] at hb
      have b1 := beq_of hb.1
      have b2 := beq_of hb.2
      subst b1 b2
      cases h
      exact List.mem_cons_self
    | false =>
      rw [hb, cond_false] at h
      exact List.mem_cons_of_mem _ (cget_ok h)
theorem cdel_ok {E : List (Nat × FT)} {t j : Nat} : ∀ {C : List (Nat × Nat × YV)} {K : List (Nat × Nat × YV) → YR} {l : List YO}, cdel E t j C K = some l → ∃ C', K C' = some l ∧ ∀ q ∈ C', q ∈ C ∧ (q.2.1 ≠ j ∨ ∃ u w, look q.1 E = (2, u, w) ∧ u ≠ t)
  | [], K, l, h => ⟨[], h, fun q hq => by cases hq⟩
  | q :: C, K, l, h => by
    rw [cdel] at h
    cases hb : (Nat.beq q.2.1 j && !(notT (look q.1 E) t)) with
    | true =>
      rw [hb, cond_true] at h
      obtain ⟨C', h1, h2⟩ := cdel_ok h
      exact ⟨C', h1, fun p hp => ⟨List.mem_cons_of_mem _ (h2 p hp).1, (h2 p hp).2⟩⟩
    | false =>
      rw [hb, cond_false] at h
      obtain ⟨C', h1, h2⟩ := cdel_ok h
      refine ⟨q :: C', h1, fun p hp => ?_⟩
      rcases List.mem_cons.mp hp with rfl | hp
      · refine ⟨List.mem_cons_self, ?_⟩
        rw [Bool.and_eq_false_iff] at hb
        rcases hb with z | z
        · exact Or.inl fun e => by rw [e] at z; simp at z
        · right
          unfold notT at z
          split at z
          · rename_i u w hl
            refine ⟨u, w, hl, fun e => ?_⟩
            subst e
            simp at z
          · cases z
      · exact ⟨List.mem_cons_of_mem _ (h2 p hp).1, (h2 p hp).2⟩
theorem cmsk_ok {E : List (Nat × FT)} {mk : Nat} : ∀ {C : List (Nat × Nat × YV)} {K : List (Nat × Nat × YV) → YR} {l : List YO}, cmsk E mk C K = some l → ∃ C', K C' = some l ∧ ∀ q ∈ C', q ∈ C ∧ ∃ u w, look q.1 E = (2, u, w) ∧ Nat.testBit mk u = false
  | [], K, l, h => ⟨[], h, fun q hq => by cases hq⟩
  | q :: C, K, l, h => by
    rw [cmsk] at h
    cases hb : outM (look q.1 E) mk with
    | false =>
      rw [hb, cond_false] at h
      obtain ⟨C', h1, h2⟩ := cmsk_ok h
      exact ⟨C', h1, fun p hp => ⟨List.mem_cons_of_mem _ (h2 p hp).1, (h2 p hp).2⟩⟩
    | true =>
      rw [hb, cond_true] at h
      obtain ⟨C', h1, h2⟩ := cmsk_ok h
      refine ⟨q :: C', h1, fun p hp => ?_⟩
      rcases List.mem_cons.mp hp with rfl | hp
      · refine ⟨List.mem_cons_self, ?_⟩
        unfold outM at hb
        split at hb
        · rename_i u w hl
          exact ⟨u, w, hl, by simpa using hb⟩
        · cases hb
      · exact ⟨List.mem_cons_of_mem _ (h2 p hp).1, (h2 p hp).2⟩
theorem cwin_ok {E : List (Nat × FT)} {t a b : Nat} : ∀ {C : List (Nat × Nat × YV)} {K : List (Nat × Nat × YV) → YR} {l : List YO}, cwin E t a b C K = some l → ∃ C', K C' = some l ∧ ∀ q ∈ C', q ∈ C ∧ (q.2.1 < a ∨ b < q.2.1 ∨ ∃ u w, look q.1 E = (2, u, w) ∧ u ≠ t)
  | [], K, l, h => ⟨[], h, fun q hq => by cases hq⟩
  | q :: C, K, l, h => by
    rw [cwin] at h
    cases hb : (Nat.blt q.2.1 a || Nat.blt b q.2.1 || notT (look q.1 E) t) with
    | false =>
      rw [hb, cond_false] at h
      obtain ⟨C', h1, h2⟩ := cwin_ok h
      exact ⟨C', h1, fun p hp => ⟨List.mem_cons_of_mem _ (h2 p hp).1, (h2 p hp).2⟩⟩
    | true =>
      rw [hb, cond_true] at h
      obtain ⟨C', h1, h2⟩ := cwin_ok h
      refine ⟨q :: C', h1, fun p hp => ?_⟩
      rcases List.mem_cons.mp hp with rfl | hp
      · refine ⟨List.mem_cons_self, ?_⟩
        simp only [Bool.or_eq_true] at hb
        rcases hb with (z | z) | z
        · exact Or.inl (blt_iff.mp z)
        · exact Or.inr (Or.inl (blt_iff.mp z))
        · unfold notT at z
          split at z
          · rename_i u w hl
            refine Or.inr (Or.inr ⟨u, w, hl, fun e => ?_⟩)
            subst e
            simp at z
          · cases z
      · exact ⟨List.mem_cons_of_mem _ (h2 p hp).1, (h2 p hp).2⟩
theorem putK_fit {len : Nat} {ft : FieldType} {x : Nat} {p : FT} {v : Value} (hk : kindT ft = x) (hp : putK x p = true) (hv : fitT len p v) : fitV ft v = true := by
  subst hk
  cases ft with
  | int =>
    have hp : Nat.beq p.1 0 = true := hp
    obtain ⟨c, a, b⟩ := p
    have h0 : c = 0 := beq_of hp
    subst h0
    obtain ⟨z, rfl, -⟩ := hv
    exact fit_i _
  | boolean =>
    have hp : subT p (0, 2147483648, 2147483649) = true := hp
    obtain ⟨z, rfl, z1, z2⟩ := subT_ok hp hv
    have hz : cI' z = oZ ∨ cI' z = oZ + 1 := by unfold oZ; omega
    rw [← oI_cI z]
    rcases hz with e | e
    · rw [e, oI_z]; decide
    · rw [e, oI_one]; decide
  | long =>
    have hp : Nat.beq p.1 1 = true := hp
    obtain ⟨c, a, b⟩ := p
    have h0 : c = 1 := beq_of hp
    subst h0
    obtain ⟨z, rfl, -⟩ := hv
    exact fit_l _
  | _ => cases hp
section YG
variable {GI : PH → Prop} {mk D : Nat} {σ : List Value} {ih : YB} {e : CE} {full rest : List CE} {lv : List (Option YV)} {st : List YV} {Y : YE} {d mi pc nc ns : Nat} {l : List YO} {M : MR} {clv : PV} {cst : List Value} {ph : PH}
theorem YS.wt (hS : YS GI σ Y lv st clv cst ph) : WT ph := hS.2.2.2.2.2.1
theorem YS.cadd (hS : YS GI σ Y lv st clv cst ph) {r j a : Nat} {v : YV} {c : PE} {x : Value} (h1 : σ[r]? = some (.ref a)) (h2 : ph[a]? = some c) (h3 : atC σ c j x) (h4 : valR σ v x) : YS GI σ (Y.1, Y.2.1, (r, j, v) :: Y.2.2) lv st clv cst ph := by
  obtain ⟨g1, g2, g3, g4⟩ := hS
  refine ⟨g1, g2, fun q hq => ?_, g4⟩
  rcases List.mem_cons.mp hq with rfl | hq
  · exact ⟨a, c, x, h1, h2, h3, h4⟩
  · exact g3 q hq
theorem yk_getfield (hC : CertAll) (hI : IHy GI mk D ih) (hA : AtC mi M full (e :: rest) pc) (hD : d ≤ D) (hS : YS GI σ Y lv st clv cst ph) {ix : Nat} (hf : flF (mO M) ix = some (e.2.2.1, e.2.2.2.1)) (hd : decode (mC M) pc = .ok (.getfield ix, 3)) (hlen : e.2.2.2.2.2.1 = 3) (hp : y_getfield ih e full rest lv st Y d = some l) : GoodY GI mk σ d mi pc clv cst ph nc ns l := by
  unfold y_getfield at hp
  split at hp
  case h_2 => cases hp
  rename_i v s
  obtain ⟨x0, c1, rfl, hv, hS1⟩ := hS.pop
  obtain ⟨r, t, a, rfl, rfl, a1, a2, a3, -, -, hp⟩ := refK_ok hp hS.env hv
  split at hp
  case h_2 => cases hp
  rename_i ci fts ht
  obtain ⟨c, hc, fs, rfl, hl, hfs⟩ := hS.wt.get a1 a2 a3 ht
  have h2 : 2 ≤ a := two_le a1 (by rw [a3]; intro z; rw [z, ty_one] at ht; cases ht)
  cases hq : Nat.beq ci e.2.2.1 with
  | false => rw [hq] at hp; cases hp
  | true =>
  rw [hq, cond_true] at hp
  have hq := beq_of hq
  subst hq
  split at hp
  · rename_i w hw
    obtain ⟨a', c', x, q1, q2, q3, q4⟩ := hS.2.2.1 _ (cget_ok hw)
    have hv : σ[r]? = some (.ref a) := hv
    rw [hv] at q1
    cases q1
    rw [hc] at q2
    cases q2
    exact gy_plain hC hI hA hD hlen hd rfl rfl (st_get hf hc h2 q3) List.prefix_rfl (hS1.push q4) hp
  · split at hp
    case h_2 => cases hp
    rename_i p hpf
    cases hk : Nat.ble p.1 2 with
    | false => rw [hk] at hp; cases hp
    | true =>
    rw [hk, cond_true, frK_eq] at hp
    obtain ⟨x, x1, x2⟩ := hfs _ p hpf
    obtain ⟨hS3, hw⟩ := hS1.fresh x2
    cases hk1 : Nat.beq p.1 1 with
    | true =>
      rw [hk1, cond_true] at hp
      exact gy_plain hC hI hA hD hlen hd rfl rfl (st_get hf hc h2 x1) (pre_app _ _) (hS3.push hw) hp
    | false =>
      rw [hk1, cond_false, cadd_eq] at hp
      have hS4 := hS3.cadd (r := r) (j := e.2.2.2.1) (a := a) (v := .inr Y.1) (x := x) (pre_get (pre_app _ _) hv) hc x1 hw
      exact gy_plain hC hI hA hD hlen hd rfl rfl (st_get hf hc h2 x1) (pre_app _ _) (hS4.push hw) hp
/-- after a change of a cell -/
theorem YS.chg (hG : GOK GI) (hS : YS GI σ Y lv st clv cst ph) {a : Nat} {c c' : PE} {C : List (Nat × Nat × YV)} (h1 : 1 ≤ a) (hc : ph[a]? = some c) (ho : okSet (psi a) c c') (ht : ∀ T, tyT[psi a]? = some T → cellT ph.length T c')
    (hC : ∀ q ∈ C, q ∈ Y.2.2 ∧ ∀ x, σ[q.1]? = some (.ref a) → atC σ c q.2.1 x → atC σ c' q.2.1 x) : YS GI σ (Y.1, Y.2.1, C) lv st clv cst (ph.set a c') := by
  obtain ⟨g1, g2, g3, g4, g5, g6, g7⟩ := hS
  have hlt := (List.getElem?_eq_some_iff.mp hc).1
  refine ⟨g1, by rw [List.length_set]; exact g2, fun q hq => ?_, g4, g5, g6.set hlt ht, hG _ _ _ _ g6 g7 h1 hc ho⟩
  obtain ⟨m1, m2⟩ := hC q hq
  obtain ⟨b, cb, x, k1, k2, k3, k4⟩ := g3 q m1
  by_cases e : a = b
  · subst e
    rw [hc] at k2
    cases k2
    exact ⟨a, c', x, k1, List.getElem?_set_self hlt, m2 x k1 k3, k4⟩
  · exact ⟨b, cb, x, k1, by rw [List.getElem?_set_ne e]; exact k2, k3, k4⟩
/-- a reference of another type is to another cell -/
theorem other (hS : YS GI σ Y lv st clv cst ph) {r u w a t : Nat} (hl : look r Y.2.1 = (2, u, w)) (hne : u ≠ t) (hr : σ[r]? = some (.ref a)) (ha : psi a = t) : False := by
  obtain ⟨y, y1, y2⟩ := hS.env _ (look_ok hl (show (2 : Nat) ≠ 9 by decide))
  rw [hr] at y1
  cases y1
  obtain ⟨b, b1, b2, b3, b4⟩ := y2
  cases b1
  exact hne (b4.symm.trans ha)
theorem yk_putfield (hG : GOK GI) (hC : CertAll) (hI : IHy GI mk D ih) (hA : AtC mi M full (e :: rest) pc) (hD : d ≤ D) (hS : YS GI σ Y lv st clv cst ph) {ix : Nat} (hf : flF (mO M) ix = some (e.2.2.1, e.2.2.2.1)) (hb : putB M e.2.2.1 e.2.2.2.1 e.2.2.2.2.1 = true) (hd : decode (mC M) pc = .ok (.putfield ix, 3)) (hlen : e.2.2.2.2.2.1 = 3) (hp : y_putfield mk ih e full rest lv st Y d = some l) : GoodY GI mk σ d mi pc clv cst ph nc ns l := by
  unfold y_putfield at hp
  split at hp
  case h_2 => cases hp
  rename_i vx v s
  obtain ⟨x, c1, rfl, hx, hS0⟩ := hS.pop
  obtain ⟨x0, c2, rfl, hv, hS1⟩ := hS0.pop
  obtain ⟨r, t, a, rfl, rfl, a1, a2, a3, -, hlk, hp⟩ := refK_ok hp hS.env hv
  split at hp
  case h_2 => cases hp
  rename_i ci fts ht
  obtain ⟨c, hc, fs, rfl, hl, hfs⟩ := hS.wt.get a1 a2 a3 ht
  have h2 : 2 ≤ a := two_le a1 (by rw [a3]; intro z; rw [z, ty_one] at ht; cases ht)
  split at hp
  case h_2 => cases hp
  rename_i p hpf
  cases hq : (Nat.beq ci e.2.2.1 && Nat.testBit mk t && putK e.2.2.2.2.1 p && !(prW t e.2.2.2.1) && subT (knd Y.2.1 vx) p) with
  | false => rw [hq] at hp; cases hp
  | true =>
  rw [hq, cond_true] at hp
  simp only [Bool.and_eq_true, Bool.not_eq_true'] at hq
  obtain ⟨⟨⟨⟨q1, q2⟩, q3⟩, q4⟩, q5⟩ := hq
  have q1 := beq_of q1
  subst q1
  have hfit : fitT ph.length p x := subT_ok q5 (knd_ok hS.env hx rfl (subT_9 q5))
  unfold putB at hb
  split at hb
  case h_2 => cases hb
  rename_i qc tl hq1 hq2
  simp only [Bool.and_eq_true, Bool.or_eq_true, Bool.not_eq_true'] at hb
  obtain ⟨⟨b1, b2⟩, b3⟩ := hb
  have hjlt : e.2.2.2.1 < fs.length := by rw [hl]; exact (List.getElem?_eq_some_iff.mp hpf).1
  have hstp := st_put (M := M) (d := d) (pc := pc) (clv := clv) (nc := nc) (ns := ns) (r := c2) hf hc h2 hq1 hq2 hjlt (blt_iff.mp b1) (putK_fit (beq_of b2) q3 hfit) (fun z => by
    rcases b3 with w | w
    · rw [w] at z; cases z
    · exact ⟨beq_of w.1, beq_of w.2⟩)
  have ho : okSet (psi a) (.inr (.inr (e.2.2.1, fs))) (.inr (.inr (e.2.2.1, fs.set e.2.2.2.1 x))) := by
    unfold okSet
    rw [a3, ht]
    exact ⟨fs, e.2.2.2.1, x, rfl, rfl, q4⟩
  have hty : ∀ T, tyT[psi a]? = some T → cellT ph.length T (.inr (.inr (e.2.2.1, fs.set e.2.2.2.1 x))) := by
    intro T hT
    rw [a3, ht] at hT
    cases hT
    refine ⟨_, rfl, by rw [List.length_set]; exact hl, fun j p' hj => ?_⟩
    by_cases ej : e.2.2.2.1 = j
    · subst ej
      rw [hpf] at hj
      cases hj
      exact ⟨x, List.getElem?_set_self hjlt, hfit⟩
    · rw [List.getElem?_set_ne ej]
      exact hfs j p' hj
  obtain ⟨C', hp, hC'⟩ := cdel_ok hp
  have hS2 := hS1.chg hG (C := C') a1 hc ho hty (fun q hq => ⟨(hC' q hq).1, fun y hr hy => by
    rcases (hC' q hq).2 with z | ⟨u, w, z1, z2⟩
    · show (fs.set e.2.2.2.1 x)[q.2.1]? = some y
      rw [List.getElem?_set_ne (fun w => z w.symm)]
      exact hy
    · exact (other hS z1 z2 hr a3).elim⟩)
  have hFr := Fr_set (mk := mk) hc (by rw [a3]; exact q2) ho
  cases hk : Nat.beq p.1 0 with
  | true =>
    rw [hk, cond_true, cadd_eq] at hp
    have hS3 := hS2.cadd (r := r) (j := e.2.2.2.1) (a := a) (v := vx) (x := x) hv (List.getElem?_set_self (List.getElem?_eq_some_iff.mp hc).1) (show (fs.set e.2.2.2.1 x)[e.2.2.2.1]? = some x from List.getElem?_set_self hjlt) hx
    exact gy_step hA.1 hd rfl rfl hstp List.prefix_rfl hFr (gy_next hC hI hA hlen hD hp hS3)
  | false =>
    rw [hk, cond_false] at hp
    exact gy_step hA.1 hd rfl rfl hstp List.prefix_rfl hFr (gy_next hC hI hA hlen hD hp hS2)
end YG

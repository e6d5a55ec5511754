/-! ===== the heap of the evaluator ===== -/
theorem HR.put {σ : Nat → Int32} {h : HT} {hn : Nat} {ph : PH} (hH : HR σ h hn ph) {v : Nat} {x : AC} {c : PE} (hv : v < hn) (hx : cellR σ x c) : HR σ (tput AC 8 v x h) hn (ph.set v c) := by
  obtain ⟨h1, h2, h3, h4⟩ := hH
  refine ⟨h1, h2, by rw [List.length_set]; exact h3, fun w hw => ?_⟩
  rw [tget_put AC 8 v w x h (by omega) (by omega)]
  by_cases e : w = v
  · subst e
    rw [if_pos rfl]
    exact ⟨c, by rw [List.getElem?_set_self (by omega)], hx⟩
  · rw [if_neg e]
    obtain ⟨c', a, b⟩ := h4 w hw
    exact ⟨c', by rw [List.getElem?_set_ne (fun z => e z.symm)]; exact a, b⟩
theorem HR.push {σ : Nat → Int32} {h : HT} {hn : Nat} {ph : PH} (hH : HR σ h hn ph) {x : AC} {c : PE} (hv : hn < 256) (hx : cellR σ x c) : HR σ (tput AC 8 hn x h) (hn + 1) (ph ++ [c]) := by
  obtain ⟨h1, h2, h3, h4⟩ := hH
  refine ⟨by omega, by omega, by simp; omega, fun w hw => ?_⟩
  rw [tget_put AC 8 hn w x h (by omega) (by omega)]
  by_cases e : w = hn
  · subst e
    rw [if_pos rfl]
    exact ⟨c, by rw [List.getElem?_append_right (by omega), h3, Nat.sub_self]; rfl, hx⟩
  · rw [if_neg e]
    obtain ⟨c', a, b⟩ := h4 w (by omega)
    exact ⟨c', by rw [List.getElem?_append_left (by omega)]; exact a, b⟩
theorem HR.ob {σ : Nat → Int32} {h : HT} {hn : Nat} {ph : PH} (hH : HR σ h hn ph) {v ci : Nat} {fs : List AV} (hv : v < hn) (hx : tget AC 8 v h = .inr (.inr (ci, fs))) : ph[v]? = some (.inr (.inr (ci, fs.map (cvV σ)))) := by
  obtain ⟨c, a, b⟩ := hH.2.2.2 v hv
  rw [hx] at b
  match c, b with
  | .inr (.inr (cj, gs)), b =>
    obtain ⟨b1, b2⟩ := b
    dsimp only at b1 b2
    rw [a, b1, b2]
theorem HR.ar {σ : Nat → Int32} {h : HT} {hn : Nat} {ph : PH} (hH : HR σ h hn ph) {v n : Nat} {t : Sigma (TTy AV)} (hv : v < hn) (hx : tget AC 8 v h = .inl (n, t)) : ∃ f, ph[v]? = some (.inl (n, f)) ∧ n ≤ 2 ^ t.1 ∧ ∀ j, j < n → cvV σ (tget AV t.1 j t.2) = .int (f j) := by
  obtain ⟨c, a, b⟩ := hH.2.2.2 v hv
  rw [hx] at b
  match c, b with
  | .inl (m, f), b =>
    obtain ⟨b1, b2, b3⟩ := b
    dsimp only at b1 b2 b3
    subst b1
    exact ⟨f, a, b2, b3⟩
theorem HR.rf {σ : Nat → Int32} {h : HT} {hn : Nat} {ph : PH} (hH : HR σ h hn ph) {v ci : Nat} {l : List (Option Nat)} (hv : v < hn) (hx : tget AC 8 v h = .inr (.inl (ci, l))) : ∃ f, ph[v]? = some (.inr (.inl (ci, l.length, f))) ∧ aoK ci = true ∧ ∀ j, j < l.length → l[j]? = some (f j) := by
  obtain ⟨c, a, b⟩ := hH.2.2.2 v hv
  rw [hx] at b
  match c, b with
  | .inr (.inl (cj, n, f)), b =>
    obtain ⟨b1, b2, b3, b4⟩ := b
    dsimp only at b1 b2 b3 b4
    subst b1
    subst b2
    exact ⟨f, a, b3, b4⟩
theorem cv_rf (σ : Nat → Int32) (o : Option Nat) : cvV σ (.inr (.inr (.inr o))) = va_rf o := by cases o <;> rfl
theorem fA_eq (v : AV) (K : AV → CR) : fA v K = K v := by
  match v with
  | .inl _ => rfl
  | .inr (.inl _) => rfl
  | .inr (.inr (.inl _)) => rfl
  | .inr (.inr (.inr _)) => rfl
theorem catA_eq (σ : Nat → Int32) : ∀ r : List AV, catS (r.map (cvV σ)) = catA r
  | [] => rfl
  | v :: r => by
    have ih := catA_eq σ r
    unfold catS at ih ⊢
    rw [List.map_cons, List.map_cons, List.sum_cons, ih]
    match v with
    | .inl _ => show 1 + catA r = catA r + 1; omega
    | .inr (.inl _) => show 1 + catA r = catA r + 1; omega
    | .inr (.inr (.inl _)) => show 2 + catA r = catA r + 2; omega
    | .inr (.inr (.inr (some _))) => show 1 + catA r = catA r + 1; omega
    | .inr (.inr (.inr none)) => show 1 + catA r = catA r + 1; omega
theorem isInt_ok (σ : Nat → Int32) {v : AV} (h : isInt v = true) : ∃ y, cvV σ v = .int y := by
  match v, h with
  | .inl a, _ => exact ⟨oI a, rfl⟩
  | .inr (.inl k), _ => exact ⟨σ k, rfl⟩
theorem fit_i (x : Int32) : fitV .int (.int x) = true := by simp [fitV, narrow, fits]
theorem fit_l (x : Int64) : fitV .long (.long x) = true := by simp [fitV, narrow, fits]
theorem fit_o (n : String) (v : Nat) : fitV (.object n) (.ref v) = true := by simp [fitV, narrow, fits]
theorem fit_on (n : String) : fitV (.object n) .null = true := by simp [fitV, narrow, fits]
theorem fit_a (t : FieldType) (v : Nat) : fitV (.array t) (.ref v) = true := by simp [fitV, narrow, fits]
theorem fit_an (t : FieldType) : fitV (.array t) .null = true := by simp [fitV, narrow, fits]
theorem fitA1 {v : AV} (h : fitA 1 v = true) : ∃ a, v = .inl a ∧ (a = oZ ∨ a = oZ + 1) := by
  match v, h with
  | .inl a, h =>
    have h : (Nat.beq a oZ || Nat.beq a (oZ + 1)) = true := h
    rw [Bool.or_eq_true] at h
    exact ⟨a, rfl, h.imp beq_of beq_of⟩
theorem fitA_ok {σ : Nat → Int32} {x : Nat} {v : AV} {t : FieldType} (hx : kindT t = x) (hf : fitA x v = true) : fitV t (cvV σ v) = true := by
  subst hx
  cases t with
  | int =>
    match v, hf with
    | .inl _, _ => exact fit_i _
    | .inr (.inl _), _ => exact fit_i _
  | boolean =>
    obtain ⟨a, rfl, rfl | rfl⟩ := fitA1 hf
    · show fitV .boolean (.int (oI oZ)) = true
      rw [oI_z]
      decide
    · show fitV .boolean (.int (oI (oZ + 1))) = true
      rw [oI_one]
      decide
  | long =>
    match v, hf with
    | .inr (.inr (.inl _)), _ => exact fit_l _
  | object =>
    match v, hf with
    | .inr (.inr (.inr (some _))), _ => exact fit_o _ _
    | .inr (.inr (.inr none)), _ => exact fit_on _
  | array =>
    match v, hf with
    | .inr (.inr (.inr (some _))), _ => exact fit_a _ _
    | .inr (.inr (.inr none)), _ => exact fit_an _
  | _ => cases hf
section OT
variable {σ : Nat → Int32}
variable {ih : CB} {e : CE} {full rest : List CE} {lv : List (Option AV)} {st : List AV} {h : HT} {hn nc ns d mi pc : Nat} {env : EV} {l : List CO} {M : MR} {clv : PV} {ph : PH}
theorem st_get {ix ci k v : Nat} {fs r : List Value} {x : Value} (hf : flF (mO M) ix = some (ci, k)) (hv : ph[v]? = some (.inr (.inr (ci, fs)))) (h2 : 2 ≤ v) (hk : fs[k]? = some x) : stp M d (.getfield ix) 3 (pc, clv, .ref v :: r, ph, nc, ns) = some (pc + 3, clv, x :: r, ph, nc, ns) := by
  simp [stp, x_ld, x_st, x_ar, x_br, x_hp, hf, hv, h2, hk]
theorem st_put {ix ci k v : Nat} {fs r : List Value} {x : Value} {q : vw_C} {t : Nat → FieldType} (hf : flF (mO M) ix = some (ci, k)) (hv : ph[v]? = some (.inr (.inr (ci, fs)))) (h2 : 2 ≤ v) (hq : cls[ci]? = some q) (ht : tyL[ci]? = some t) (hk : k < fs.length) (hk2 : k < q.2.2) (hfit : fitV (t k) x = true) (hfin : (q.2.1 k).2.2.2 = true → mK M = 2 ∧ ci = mO M) :
    stp M d (.putfield ix) 3 (pc, clv, x :: .ref v :: r, ph, nc, ns) = some (pc + 3, clv, r, ph.set v (.inr (.inr (ci, fs.set k x))), nc, ns) := by
  have hfin' : (q.2.1 k).2.2.2 = true → (mK M == 2) = true ∧ ci = mO M := fun z => ⟨by simpa using (hfin z).1, (hfin z).2⟩
  simp only [stp, x_ld, x_st, x_ar, x_br, x_hp]
  simp only [hf, hv, hq, ht]
  simp [h2, hk, hk2, hfit]
  rw [if_pos hfin]
theorem st_iald {v n : Nat} {f : Nat → Int32} {j : Int32} {r : List Value} (hv : ph[v]? = some (.inl (n, f))) (h0 : 0 ≤ j) (h1 : j.toNatClampNeg < n) : stp M d .iaload 1 (pc, clv, .int j :: .ref v :: r, ph, nc, ns) = some (pc + 1, clv, .int (f j.toNatClampNeg) :: r, ph, nc, ns) := by
  simp [stp, x_ld, x_st, x_ar, x_br, x_hp, hv, h0, h1]
theorem st_iast {v n : Nat} {f : Nat → Int32} {j x : Int32} {r : List Value} (hv : ph[v]? = some (.inl (n, f))) (h0 : 0 ≤ j) (h1 : j.toNatClampNeg < n) (h2 : 2 ≤ v) : stp M d .iastore 1 (pc, clv, .int x :: .int j :: .ref v :: r, ph, nc, ns) = some (pc + 1, clv, r, ph.set v (.inl (n, upd f j.toNatClampNeg x)), nc, ns) := by
  simp [stp, x_ld, x_st, x_ar, x_br, x_hp, hv, h0, h1, h2]
theorem st_aald {v n ci : Nat} {f : Nat → Option Nat} {j : Int32} {r : List Value} (hv : ph[v]? = some (.inr (.inl (ci, n, f)))) (h0 : 0 ≤ j) (h1 : j.toNatClampNeg < n) (h2 : 2 ≤ v) (ha : aoK ci = true) : stp M d .aaload 1 (pc, clv, .int j :: .ref v :: r, ph, nc, ns) = some (pc + 1, clv, va_rf (f j.toNatClampNeg) :: r, ph, nc, ns) := by
  simp [stp, x_ld, x_st, x_ar, x_br, x_hp, hv, h0, h1, h2, ha]
theorem st_aast {v w n ci : Nat} {f : Nat → Option Nat} {j : Int32} {r fs : List Value} (hv : ph[v]? = some (.inr (.inl (ci, n, f)))) (hw : ph[w]? = some (.inr (.inr (ci, fs)))) (h0 : 0 ≤ j) (h1 : j.toNatClampNeg < n) (h2 : 2 ≤ v) (h3 : 2 ≤ w) (ha : aoK ci = true) : stp M d .aastore 1 (pc, clv, .ref w :: .int j :: .ref v :: r, ph, nc, ns) = some (pc + 1, clv, r, ph.set v (.inr (.inl (ci, n, va_up f j.toNatClampNeg (some w)))), nc, ns) := by
  simp [stp, x_ld, x_st, x_ar, x_br, x_hp, hv, hw, h0, h1, h2, h3, ha]
theorem st_alen {v n : Nat} {f : Nat → Int32} {r : List Value} (hv : ph[v]? = some (.inl (n, f))) : stp M d .arraylength 1 (pc, clv, .ref v :: r, ph, nc, ns) = some (pc + 1, clv, .int (Int32.ofNat n) :: r, ph, nc, ns) := by
  simp [stp, x_ld, x_st, x_ar, x_br, x_hp, hv]
theorem st_alenR {v n ci : Nat} {f : Nat → Option Nat} {r : List Value} (hv : ph[v]? = some (.inr (.inl (ci, n, f)))) (h2 : 2 ≤ v) (ha : aoK ci = true) : stp M d .arraylength 1 (pc, clv, .ref v :: r, ph, nc, ns) = some (pc + 1, clv, .int (Int32.ofNat n) :: r, ph, nc, ns) := by
  simp [stp, x_ld, x_st, x_ar, x_br, x_hp, hv, h2, ha]
theorem st_newa {n : Int32} {r : List Value} (h0 : 0 ≤ n) (h1 : n.toNatClampNeg ≤ 100000) : stp M d (.newarray .int) 2 (pc, clv, .int n :: r, ph, nc, ns) = some (pc + 2, clv, .ref ph.length :: r, ph ++ [.inl (n.toNatClampNeg, fun _ => 0)], nc + 1, ns + n.toNatClampNeg) := by
  simp [stp, x_ld, x_st, x_ar, x_br, x_hp, h0, h1]
theorem st_anew {ix ci : Nat} {n : Int32} {r : List Value} (hf : clF (mO M) ix = some ci) (ha : aoK ci = true) (h0 : 0 ≤ n) (h1 : n.toNatClampNeg ≤ 100000) : stp M d (.anewarray ix) 3 (pc, clv, .int n :: r, ph, nc, ns) = some (pc + 3, clv, .ref ph.length :: r, ph ++ [.inr (.inl (ci, n.toNatClampNeg, fun _ => none))], nc + 1, ns + n.toNatClampNeg) := by
  simp [stp, x_ld, x_st, x_ar, x_br, x_hp, hf, ha, h0, h1]
theorem st_new {ix ci : Nat} {q : vw_C} {fs r : List Value} (hf : clF (mO M) ix = some ci) (hq : cls[ci]? = some q) (hfs : dfL[ci]? = some fs) : stp M d (.new ix) 3 (pc, clv, r, ph, nc, ns) = some (pc + 3, clv, .ref ph.length :: r, ph ++ [.inr (.inr (ci, fs))], nc + 1, ns + q.2.2) := by
  simp [stp, x_ld, x_st, x_ar, x_br, x_hp, hf, hq, hfs]
theorem ok_getfield (hC : CertAll) (hI : IHok σ ih) (hA : AtC mi M full (e :: rest) pc) (he : eOK σ env) (hH : HR σ h hn ph) (hL : LR σ lv clv) {ix : Nat} (hf : flF (mO M) ix = some (e.2.2.1, e.2.2.2.1)) (hd : decode (mC M) pc = .ok (.getfield ix, 3)) (hlen : e.2.2.2.2.2.1 = 3) (hp : p_getfield ih e full rest lv st h hn nc ns env d = some l) : GoodR σ d mi pc clv (st.map (cvV σ)) ph nc ns l := by
  unfold p_getfield at hp
  split at hp
  case h_2 => cases hp
  rename_i a r
  split at hp
  case h_2 => cases hp
  rename_i ci fs hx
  cases hc : (Nat.beq ci e.2.2.1 && Nat.ble 2 a && Nat.blt a hn) with
  | false => rw [hc] at hp; cases hp
  | true =>
  rw [hc, cond_true] at hp
  simp only [Bool.and_eq_true] at hc
  obtain ⟨⟨c1, c2⟩, c3⟩ := hc
  split at hp
  case h_2 => cases hp
  rename_i v hv
  have c1 := beq_of c1
  subst c1
  have hob := hH.ob (blt_iff.mp c3) hx
  refine good_step hA.1 hd rfl rfl (pc' := pc + 3) (clv' := clv) (st' := cvV σ v :: r.map (cvV σ)) (ph' := ph) (nc' := nc) (ns' := ns) (by rw [List.map_cons]; exact st_get hf hob (ble_of c2) (by rw [List.getElem?_map, hv]; rfl)) ?_
  exact go_len (st' := v :: r) hC hI hA hlen hp he hH hL (fun o ho => ho)
theorem ok_putfield (hC : CertAll) (hI : IHok σ ih) (hA : AtC mi M full (e :: rest) pc) (he : eOK σ env) (hH : HR σ h hn ph) (hL : LR σ lv clv) {ix : Nat} (hf : flF (mO M) ix = some (e.2.2.1, e.2.2.2.1)) (hpb : putB M e.2.2.1 e.2.2.2.1 e.2.2.2.2.1 = true) (hd : decode (mC M) pc = .ok (.putfield ix, 3)) (hlen : e.2.2.2.2.2.1 = 3) (hp : p_putfield ih e full rest lv st h hn nc ns env d = some l) : GoodR σ d mi pc clv (st.map (cvV σ)) ph nc ns l := by
  unfold p_putfield at hp
  split at hp
  case h_2 => cases hp
  rename_i v a r
  split at hp
  case h_2 => cases hp
  rename_i ci fs hx
  cases hc : (Nat.beq ci e.2.2.1 && Nat.ble 2 a && Nat.blt a hn && Nat.blt e.2.2.2.1 fs.length && fitA e.2.2.2.2.1 v) with
  | false => rw [hc] at hp; cases hp
  | true =>
  rw [hc, cond_true, tset_put] at hp
  simp only [Bool.and_eq_true] at hc
  obtain ⟨⟨⟨⟨c1, c2⟩, c3⟩, c4⟩, c5⟩ := hc
  have c1 := beq_of c1
  subst c1
  have hob := hH.ob (blt_iff.mp c3) hx
  unfold putB at hpb
  split at hpb
  case h_2 => cases hpb
  rename_i q t hq ht
  simp only [Bool.and_eq_true, Bool.or_eq_true] at hpb
  obtain ⟨⟨g1, g2⟩, g3⟩ := hpb
  have hfin : (q.2.1 e.2.2.2.1).2.2.2 = true → mK M = 2 ∧ e.2.2.1 = mO M := fun z => by
    rcases g3 with w | w
    · rw [z] at w; cases w
    · exact ⟨beq_of w.1, beq_of w.2⟩
  refine good_step hA.1 hd rfl rfl (pc' := pc + 3) (clv' := clv) (st' := r.map (cvV σ)) (ph' := ph.set a (.inr (.inr (e.2.2.1, (fs.map (cvV σ)).set e.2.2.2.1 (cvV σ v))))) (nc' := nc) (ns' := ns) (by rw [List.map_cons, List.map_cons]; exact st_put hf hob (ble_of c2) hq ht (by rw [List.length_map]; exact blt_iff.mp c4) (blt_iff.mp g1) (fitA_ok (beq_of g2) c5) hfin) ?_
  refine go_len (st' := r) hC hI hA hlen hp he (hH.put (blt_iff.mp c3) ?_) hL (fun o ho => ho)
  exact ⟨rfl, by rw [List.map_set]⟩
theorem ixK_ok {v : AV} {K : Nat → EV → CR} (hp : ixK v env K = some l) (he : eOK σ env) : ∃ j env' l' x, cvV σ v = .int x ∧ 0 ≤ x ∧ x.toNatClampNeg = j ∧ eOK σ env' ∧ K j env' = some l' ∧ ∀ o ∈ l', o ∈ l := by
  obtain ⟨a, env', l', h1, h2, h3, h4, h5⟩ := exK_ok hp he
  cases hb : Nat.ble oZ a with
  | false => rw [hb] at h4; cases h4
  | true =>
    rw [hb, cond_true, fN_eq] at h4
    obtain ⟨g1, g2⟩ := oI_clamp (ble_of hb) h2
    exact ⟨a - oZ, env', l', oI a, h1, g2, g1, h3, h4, h5⟩
theorem ok_iaload (hC : CertAll) (hI : IHok σ ih) (hA : AtC mi M full (e :: rest) pc) (he : eOK σ env) (hH : HR σ h hn ph) (hL : LR σ lv clv)  (hd : decode (mC M) pc = .ok (.iaload, 1)) (hlen : e.2.2.2.2.2.1 = 1) (hp : p_iaload ih e full rest lv st h hn nc ns env d = some l) : GoodR σ d mi pc clv (st.map (cvV σ)) ph nc ns l := by
  unfold p_iaload at hp
  split at hp
  case h_2 => cases hp
  rename_i jv a r
  split at hp
  case h_2 => cases hp
  rename_i n t hx
  cases hc : Nat.blt a hn with
  | false => rw [hc] at hp; cases hp
  | true =>
  rw [hc, cond_true] at hp
  obtain ⟨j, env', l', x, h1, h2, h3, h4, h5, h6⟩ := ixK_ok hp he
  cases hb : Nat.blt j n with
  | false => rw [hb] at h5; cases h5
  | true =>
  rw [hb, cond_true, fA_eq] at h5
  obtain ⟨f, q1, q2, q3⟩ := hH.ar (blt_iff.mp hc) hx
  have hj := blt_iff.mp hb
  refine good_step hA.1 hd rfl rfl (pc' := pc + 1) (clv' := clv) (st' := .int (f x.toNatClampNeg) :: r.map (cvV σ)) (ph' := ph) (nc' := nc) (ns' := ns) (by rw [List.map_cons, List.map_cons, h1]; exact st_iald q1 h2 (by rw [h3]; exact hj)) ?_
  rw [h3, ← q3 j hj]
  exact go_len (st' := _ :: r) hC hI hA hlen h5 h4 hH hL h6
theorem ok_iastore (hC : CertAll) (hI : IHok σ ih) (hA : AtC mi M full (e :: rest) pc) (he : eOK σ env) (hH : HR σ h hn ph) (hL : LR σ lv clv)  (hd : decode (mC M) pc = .ok (.iastore, 1)) (hlen : e.2.2.2.2.2.1 = 1) (hp : p_iastore ih e full rest lv st h hn nc ns env d = some l) : GoodR σ d mi pc clv (st.map (cvV σ)) ph nc ns l := by
  unfold p_iastore at hp
  split at hp
  case h_2 => cases hp
  rename_i v jv a r
  split at hp
  case h_2 => cases hp
  rename_i n t hx
  cases hc : (Nat.ble 2 a && Nat.blt a hn && isInt v) with
  | false => rw [hc] at hp; cases hp
  | true =>
  rw [hc, cond_true] at hp
  simp only [Bool.and_eq_true] at hc
  obtain ⟨⟨c1, c2⟩, c3⟩ := hc
  obtain ⟨j, env', l', x, h1, h2, h3, h4, h5, h6⟩ := ixK_ok hp he
  cases hb : Nat.blt j n with
  | false => rw [hb] at h5; cases h5
  | true =>
  rw [hb, cond_true, tset_put, tset_put] at h5
  obtain ⟨f, q1, q2, q3⟩ := hH.ar (blt_iff.mp c2) hx
  have hj := blt_iff.mp hb
  obtain ⟨y, hy⟩ := isInt_ok σ c3
  refine good_step hA.1 hd rfl rfl (pc' := pc + 1) (clv' := clv) (st' := r.map (cvV σ)) (ph' := ph.set a (.inl (n, upd f x.toNatClampNeg y))) (nc' := nc) (ns' := ns) (by rw [List.map_cons, List.map_cons, List.map_cons, h1, hy]; exact st_iast q1 h2 (by rw [h3]; exact hj) (ble_of c1)) ?_
  rw [h3]
  refine go_len (st' := r) hC hI hA hlen h5 h4 (hH.put (blt_iff.mp c2) ⟨rfl, q2, fun i hi => ?_⟩) hL h6
  show cvV σ (tget AV t.1 i (tput AV t.1 j v t.2)) = .int (upd f j y i)
  rw [tget_put AV t.1 j i v t.2 (Nat.lt_of_lt_of_le hj q2) (Nat.lt_of_lt_of_le hi q2)]
  by_cases e1 : i = j
  · subst e1
    rw [if_pos rfl, hy]
    simp [upd]
  · rw [if_neg e1, q3 i hi]
    simp [upd, e1]
theorem ok_aaload (hC : CertAll) (hI : IHok σ ih) (hA : AtC mi M full (e :: rest) pc) (he : eOK σ env) (hH : HR σ h hn ph) (hL : LR σ lv clv)  (hd : decode (mC M) pc = .ok (.aaload, 1)) (hlen : e.2.2.2.2.2.1 = 1) (hp : p_aaload ih e full rest lv st h hn nc ns env d = some l) : GoodR σ d mi pc clv (st.map (cvV σ)) ph nc ns l := by
  unfold p_aaload at hp
  split at hp
  case h_2 => cases hp
  rename_i jv a r
  split at hp
  case h_2 => cases hp
  rename_i ci lr hx
  cases hc : (Nat.ble 2 a && Nat.blt a hn) with
  | false => rw [hc] at hp; cases hp
  | true =>
  rw [hc, cond_true] at hp
  simp only [Bool.and_eq_true] at hc
  obtain ⟨j, env', l', x, h1, h2, h3, h4, h5, h6⟩ := ixK_ok hp he
  split at h5
  case h_2 => cases h5
  rename_i ov hv
  obtain ⟨f, q1, q2, q3⟩ := hH.rf (blt_iff.mp hc.2) hx
  have hj : j < lr.length := (List.getElem?_eq_some_iff.mp hv).1
  have hf : f j = ov := Option.some.inj ((q3 j hj).symm.trans hv)
  refine good_step hA.1 hd rfl rfl (pc' := pc + 1) (clv' := clv) (st' := va_rf (f x.toNatClampNeg) :: r.map (cvV σ)) (ph' := ph) (nc' := nc) (ns' := ns) (by rw [List.map_cons, List.map_cons, h1]; exact st_aald q1 h2 (by rw [h3]; exact hj) (ble_of hc.1) q2) ?_
  rw [h3, hf, ← cv_rf σ ov]
  exact go_len (st' := .inr (.inr (.inr ov)) :: r) hC hI hA hlen h5 h4 hH hL h6
theorem ok_aastore (hC : CertAll) (hI : IHok σ ih) (hA : AtC mi M full (e :: rest) pc) (he : eOK σ env) (hH : HR σ h hn ph) (hL : LR σ lv clv)  (hd : decode (mC M) pc = .ok (.aastore, 1)) (hlen : e.2.2.2.2.2.1 = 1) (hp : p_aastore ih e full rest lv st h hn nc ns env d = some l) : GoodR σ d mi pc clv (st.map (cvV σ)) ph nc ns l := by
  unfold p_aastore at hp
  split at hp
  case h_2 => cases hp
  rename_i w j a r
  split at hp
  case h_2 => cases hp
  rename_i ci lr cj fs hx hw
  cases hc : (Nat.ble 2 a && Nat.blt a hn && Nat.ble 2 w && Nat.blt w hn && Nat.beq ci cj && Nat.ble oZ j && Nat.blt (j - oZ) lr.length && Nat.blt j oM) with
  | false => rw [hc] at hp; cases hp
  | true =>
  rw [hc, cond_true, tset_put] at hp
  simp only [Bool.and_eq_true] at hc
  obtain ⟨⟨⟨⟨⟨⟨⟨c1, c2⟩, c3⟩, c4⟩, c5⟩, c6⟩, c7⟩, c8⟩ := hc
  have c5 := beq_of c5
  subst c5
  have hj := blt_iff.mp c7
  obtain ⟨f, q1, q2, q3⟩ := hH.rf (blt_iff.mp c2) hx
  have hob := hH.ob (blt_iff.mp c4) hw
  have hjm : j < oM := blt_iff.mp c8
  obtain ⟨g1, g2⟩ := oI_clamp (ble_of c6) hjm
  refine good_step hA.1 hd rfl rfl (pc' := pc + 1) (clv' := clv) (st' := r.map (cvV σ)) (ph' := ph.set a (.inr (.inl (ci, lr.length, va_up f (oI j).toNatClampNeg (some w))))) (nc' := nc) (ns' := ns) (by rw [List.map_cons, List.map_cons, List.map_cons]; exact st_aast q1 hob g2 (by rw [g1]; exact hj) (ble_of c1) (ble_of c3) q2) ?_
  rw [g1]
  refine go_len (st' := r) hC hI hA hlen hp he (hH.put (blt_iff.mp c2) ⟨rfl, by rw [List.length_set], q2, fun i hi => ?_⟩) hL (fun o ho => ho)
  show (lr.set (j - oZ) (some w))[i]? = some (va_up f (j - oZ) (some w) i)
  rw [List.getElem?_set]
  by_cases e1 : j - oZ = i
  · subst e1
    rw [if_pos rfl, if_pos hj]
    simp [va_up]
  · rw [if_neg e1, q3 i hi]
    have e2 : ¬ i = j - oZ := fun z => e1 z.symm
    simp [va_up, e2]
end OT

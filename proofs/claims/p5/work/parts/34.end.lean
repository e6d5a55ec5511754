/-! ===== ends and switches; the evaluator is right ===== -/
section OW
variable {σ : Nat → Int32}
variable {ih : CB} {e : CE} {full rest : List CE} {lv : List (Option AV)} {st : List AV} {h : HT} {hn nc ns d mi pc : Nat} {env : EV} {l : List CO} {M : MR} {clv : PV} {ph : PH}
theorem retT_0 {r : Option FieldType} (h : retT r = 0) : r = none := by
  match r, h with
  | none, _ => rfl
  | some .int, h => cases h
  | some .boolean, h => cases h
  | some .long, h => cases h
  | some (.object _), h => cases h
  | some .byte, h => cases h
  | some .char, h => cases h
  | some .short, h => cases h
  | some .float, h => cases h
  | some .double, h => cases h
  | some (.array _), h => cases h
theorem retT_1 {r : Option FieldType} (h : retT r = 1) : r = some .int := by
  match r, h with
  | none, h => cases h
  | some .int, _ => rfl
  | some .boolean, h => cases h
  | some .long, h => cases h
  | some (.object _), h => cases h
  | some .byte, h => cases h
  | some .char, h => cases h
  | some .short, h => cases h
  | some .float, h => cases h
  | some .double, h => cases h
  | some (.array _), h => cases h
theorem retT_2 {r : Option FieldType} (h : retT r = 2) : r = some .boolean := by
  match r, h with
  | none, h => cases h
  | some .int, h => cases h
  | some .boolean, _ => rfl
  | some .long, h => cases h
  | some (.object _), h => cases h
  | some .byte, h => cases h
  | some .char, h => cases h
  | some .short, h => cases h
  | some .float, h => cases h
  | some .double, h => cases h
  | some (.array _), h => cases h
theorem retT_3 {r : Option FieldType} (h : retT r = 3) : r = some .long := by
  match r, h with
  | none, h => cases h
  | some .int, h => cases h
  | some .boolean, h => cases h
  | some .long, _ => rfl
  | some (.object _), h => cases h
  | some .byte, h => cases h
  | some .char, h => cases h
  | some .short, h => cases h
  | some .float, h => cases h
  | some .double, h => cases h
  | some (.array _), h => cases h
theorem retT_4 {r : Option FieldType} (h : retT r = 4) : ∃ n, r = some (.object n) := by
  match r, h with
  | none, h => cases h
  | some .int, h => cases h
  | some .boolean, h => cases h
  | some .long, h => cases h
  | some (.object n), _ => exact ⟨n, rfl⟩
  | some .byte, h => cases h
  | some .char, h => cases h
  | some .short, h => cases h
  | some .float, h => cases h
  | some .double, h => cases h
  | some (.array _), h => cases h
theorem ok_return (hA : AtC mi M full (e :: rest) pc) (he : eOK σ env) (hH : HR σ h hn ph) (ha : e.2.2.1 = retT (mR M)) (hd : decode (mC M) pc = .ok (.return_, 1)) (hp : p_ret 0 ih e full rest lv st h hn nc ns env d = some l) : GoodR σ d mi pc clv (st.map (cvV σ)) ph nc ns l := by
  unfold p_ret at hp
  cases st with
  | cons _ _ => cases hp
  | nil =>
    have hp : (bif Nat.beq e.2.2.1 0 then some [(none, h, hn, nc, ns, env)] else none) = some l := hp
    cases hc : Nat.beq e.2.2.1 0 with
    | false => rw [hc] at hp; cases hp
    | true =>
      rw [hc] at hp
      cases hp
      have hr := retT_0 (ha.symm.trans (beq_of hc))
      exact good_ret hA.1 hd rfl (by simp [x_re, hr]) hH he List.mem_cons_self
theorem ok_ireturn (hA : AtC mi M full (e :: rest) pc) (he : eOK σ env) (hH : HR σ h hn ph) (ha : e.2.2.1 = retT (mR M)) (hd : decode (mC M) pc = .ok (.ireturn, 1)) (hp : p_ret 1 ih e full rest lv st h hn nc ns env d = some l) : GoodR σ d mi pc clv (st.map (cvV σ)) ph nc ns l := by
  unfold p_ret at hp
  match st, hp with
  | [], hp => cases hp
  | _ :: _ :: _, hp => cases hp
  | [v], hp =>
    have hp : (bif Nat.beq e.2.2.1 1 && isInt v then some [(some v, h, hn, nc, ns, env)] else bif Nat.beq e.2.2.1 2 then (match (generalizing := false) v with
      | .inl a => bif Nat.beq a oZ || Nat.beq a (oZ + 1) then some [(some v, h, hn, nc, ns, env)] else none
      | _ => none) else none) = some l := hp
    cases hc : (Nat.beq e.2.2.1 1 && isInt v) with
    | true =>
      rw [hc, cond_true] at hp
      rw [Bool.and_eq_true] at hc
      cases hp
      have hr := retT_1 (ha.symm.trans (beq_of hc.1))
      obtain ⟨y, hy⟩ := isInt_ok σ hc.2
      refine good_ret hA.1 hd rfl ?_ hH he List.mem_cons_self
      show x_re M .ireturn 1 [cvV σ v] = some (some (cvV σ v))
      rw [hy]
      simp [x_re, hr]
    | false =>
      rw [hc, cond_false] at hp
      cases hc2 : Nat.beq e.2.2.1 2 with
      | false => rw [hc2] at hp; cases hp
      | true =>
        rw [hc2, cond_true] at hp
        have hr := retT_2 (ha.symm.trans (beq_of hc2))
        match v, hp with
        | .inr _, hp => cases hp
        | .inl a, hp =>
          have hp : (bif Nat.beq a oZ || Nat.beq a (oZ + 1) then some [(some (.inl a), h, hn, nc, ns, env)] else none) = some l := hp
          cases hb : (Nat.beq a oZ || Nat.beq a (oZ + 1)) with
          | false => rw [hb] at hp; cases hp
          | true =>
            rw [hb, cond_true] at hp
            cases hp
            have hv : oI a = 0 ∨ oI a = 1 := by
              rw [Bool.or_eq_true] at hb
              rcases hb with z | z
              · left; rw [beq_of z, oI_z]
              · right; rw [beq_of z, oI_one]
            refine good_ret hA.1 hd rfl ?_ hH he List.mem_cons_self
            show x_re M .ireturn 1 [.int (oI a)] = some (some (.int (oI a)))
            generalize oI a = y at hv
            simp [x_re, hr, hv]
theorem ok_lreturn (hA : AtC mi M full (e :: rest) pc) (he : eOK σ env) (hH : HR σ h hn ph) (ha : e.2.2.1 = retT (mR M)) (hd : decode (mC M) pc = .ok (.lreturn, 1)) (hp : p_ret 3 ih e full rest lv st h hn nc ns env d = some l) : GoodR σ d mi pc clv (st.map (cvV σ)) ph nc ns l := by
  unfold p_ret at hp
  match st, hp with
  | [.inr (.inr (.inl w))], hp =>
    have hp : (bif Nat.beq e.2.2.1 3 then some [(some (.inr (.inr (.inl w))), h, hn, nc, ns, env)] else none) = some l := hp
    cases hc : Nat.beq e.2.2.1 3 with
    | false => rw [hc] at hp; cases hp
    | true =>
      rw [hc] at hp
      cases hp
      have hr := retT_3 (ha.symm.trans (beq_of hc))
      refine good_ret hA.1 hd rfl ?_ hH he List.mem_cons_self
      show x_re M .lreturn 1 [.long (oL w)] = some (some (.long (oL w)))
      simp [x_re, hr]
  | [], hp => cases hp
  | .inl _ :: _ :: _, hp => cases hp
  | .inr (.inl _) :: _ :: _, hp => cases hp
  | .inr (.inr (.inl _)) :: _ :: _, hp => cases hp
  | .inr (.inr (.inr none)) :: _ :: _, hp => cases hp
  | .inr (.inr (.inr (some _))) :: _ :: _, hp => cases hp
  | [.inl _], hp => cases hp
  | [.inr (.inl _)], hp => cases hp
  | [.inr (.inr (.inr _))], hp => cases hp
theorem ok_areturn (hA : AtC mi M full (e :: rest) pc) (he : eOK σ env) (hH : HR σ h hn ph) (ha : e.2.2.1 = retT (mR M)) (hd : decode (mC M) pc = .ok (.areturn, 1)) (hp : p_ret 4 ih e full rest lv st h hn nc ns env d = some l) : GoodR σ d mi pc clv (st.map (cvV σ)) ph nc ns l := by
  unfold p_ret at hp
  match st, hp with
  | [.inr (.inr (.inr (some a)))], hp =>
    have hp : (bif Nat.beq e.2.2.1 4 then some [(some (.inr (.inr (.inr (some a)))), h, hn, nc, ns, env)] else none) = some l := hp
    cases hc : Nat.beq e.2.2.1 4 with
    | false => rw [hc] at hp; cases hp
    | true =>
      rw [hc] at hp
      cases hp
      obtain ⟨n, hr⟩ := retT_4 (ha.symm.trans (beq_of hc))
      refine good_ret hA.1 hd rfl ?_ hH he List.mem_cons_self
      show x_re M .areturn 1 [.ref a] = some (some (.ref a))
      simp [x_re, hr]
  | [.inr (.inr (.inr none))], hp => cases hp
  | [], hp => cases hp
  | .inl _ :: _ :: _, hp => cases hp
  | .inr (.inl _) :: _ :: _, hp => cases hp
  | .inr (.inr (.inl _)) :: _ :: _, hp => cases hp
  | .inr (.inr (.inr none)) :: _ :: _, hp => cases hp
  | .inr (.inr (.inr (some _))) :: _ :: _, hp => cases hp
  | [.inl _], hp => cases hp
  | [.inr (.inl _)], hp => cases hp
  | [.inr (.inr (.inl _))], hp => cases hp
theorem swG_s (x : AV) (r : List AV) (df n v : Nat) (ts : List Nat) (env : EV) : swG ih full lv x r h hn nc ns d df (n + 1) v ts env = (match ts with
      | [] => ih full (full.drop df) lv r h hn nc ns env d
      | t :: ts => eqK x (.inl v) env (fun env => ih full (full.drop t) lv r h hn nc ns env d) (fun env => fN (v + 1) fun w => swG ih full lv x r h hn nc ns d df n w ts env)) := rfl
theorem swG_ok {x : AV} {r : List AV} {df : Nat} {X : Int32} (hx : cvV σ x = .int X) : ∀ {n v : Nat} {ts : List Nat} {env : EV} {l : List CO}, swG ih full lv x r h hn nc ns d df n v ts env = some l → eOK σ env → v + ts.length < oM → ∃ env' l', eOK σ env' ∧ (∀ o ∈ l', o ∈ l) ∧ ((∃ j b, ts[j]? = some b ∧ X.toInt = ((v + j : Nat) : Int) - 2147483648 ∧ ih full (full.drop b) lv r h hn nc ns env' d = some l') ∨ ((∀ j, j < ts.length → X.toInt ≠ ((v + j : Nat) : Int) - 2147483648) ∧ ih full (full.drop df) lv r h hn nc ns env' d = some l'))
  | 0, _, _, _, _, hp, _, _ => by cases hp
  | n + 1, v, [], env, l, hp, he, _ => by
    rw [swG_s] at hp
    exact ⟨env, l, he, fun o ho => ho, Or.inr ⟨fun j hj => by simp at hj, hp⟩⟩
  | n + 1, v, t :: ts, env, l, hp, he, hv => by
    rw [swG_s] at hp
    rw [List.length_cons] at hv
    obtain ⟨X', Y, h1, h2, h3⟩ := eqK_ok hp he
    have e1 : X' = X := Value.int.inj (h1.symm.trans hx)
    have e2 : Y = oI v := (Value.int.inj h2).symm
    subst e1
    subst e2
    have hvt := oI_toInt (v := v) (by omega)
    rcases h3 with ⟨h4, env', l', h5, h6, h7⟩ | ⟨h4, env', l', h5, h6, h7⟩
    · exact ⟨env', l', h5, h7, Or.inl ⟨0, t, rfl, by rw [h4, hvt]; rfl, h6⟩⟩
    · rw [fN_eq] at h6
      obtain ⟨env2, l2, g1, g2, g3⟩ := swG_ok hx h6 h5 (by omega)
      refine ⟨env2, l2, g1, fun o ho => h7 o (g2 o ho), ?_⟩
      rcases g3 with ⟨j, b, k1, k2, k3⟩ | ⟨k1, k2⟩
      · exact Or.inl ⟨j + 1, b, by rw [List.getElem?_cons_succ]; exact k1, by rw [k2, show v + 1 + j = v + (j + 1) by omega], k3⟩
      · refine Or.inr ⟨fun j hj => ?_, k2⟩
        cases j with
        | zero =>
          intro z
          apply h4
          apply Int32.toInt.inj
          rw [hvt]
          exact z
        | succ j =>
          have := k1 j (by rw [List.length_cons] at hj; omega)
          rwa [show v + 1 + j = v + (j + 1) by omega] at this
theorem st_sw_out {df lo hi : Int} {offs : Array Int} {len t : Nat} {X : Int32} {r : List Value} (h1 : X.toInt < lo ∨ hi < X.toInt) (ht : tg pc df = some t) : stp M d (.tableswitch df lo hi offs) len (pc, clv, .int X :: r, ph, nc, ns) = some (t, clv, r, ph, nc, ns) := by
  simp [stp, x_ld, x_st, x_ar, x_br, h1, ht]
theorem st_sw_in {df lo hi o : Int} {offs : Array Int} {len t : Nat} {X : Int32} {r : List Value} (h1 : ¬ (X.toInt < lo ∨ hi < X.toInt)) (ho : offs[(X.toInt - lo).toNat]? = some o) (ht : tg pc o = some t) : stp M d (.tableswitch df lo hi offs) len (pc, clv, .int X :: r, ph, nc, ns) = some (t, clv, r, ph, nc, ns) := by
  simp only [stp, x_ld, x_st, x_ar, x_br]
  simp only [if_neg h1, ho, ht]
  by_cases hl : len = 1 <;> simp [hl]
theorem xca_sw (c : Nat) (df lo hi : Int) (offs : Array Int) (len : Nat) (st : List Value) (ph : PH) : x_ca c (.tableswitch df lo hi offs) len st ph = none := by
  unfold x_ca
  split <;> rfl
theorem xre_sw (M : MR) (df lo hi : Int) (offs : Array Int) (len : Nat) (st : List Value) : x_re M (.tableswitch df lo hi offs) len st = none := by
  unfold x_re
  split <;> rfl
theorem ok_switch (hI : IHok σ ih) (hA : AtC mi M full (e :: rest) pc) (he : eOK σ env) (hH : HR σ h hn ph) (hL : LR σ lv clv) {df lo hi : Int} {offs : Array Int} {len : Nat} (hs : swB full pc df lo hi offs e.2.2.1 e.2.2.2.2.2.2 = true) (hd : decode (mC M) pc = .ok (.tableswitch df lo hi offs, len)) (hp : p_switch ih e full rest lv st h hn nc ns env d = some l) : GoodR σ d mi pc clv (st.map (cvV σ)) ph nc ns l := by
  unfold p_switch at hp
  split at hp
  case h_2 => cases hp
  rename_i x r
  cases hc : isInt x with
  | false => rw [hc] at hp; cases hp
  | true =>
  rw [hc, cond_true] at hp
  obtain ⟨X, hX⟩ := isInt_ok σ hc
  generalize e.2.2.1 = a at hs hp
  generalize e.2.2.2.2.2.2 = ts at hs hp
  cases ts with
  | nil => cases hs
  | cons b0 ts =>
    unfold swB at hs
    simp only [Bool.and_eq_true, decide_eq_true_eq, List.all_eq_true, List.mem_range] at hs
    obtain ⟨⟨⟨⟨⟨⟨⟨s1, s2⟩, s3⟩, s4⟩, s5⟩, s6⟩, s7⟩, s8⟩ := hs
    have s5 := beq_of s5
    have s6 := ble_of s6
    have s7 := blt_iff.mp s7
    have hp : swG ih full lv x r h hn nc ns d b0 64 a ts env = some l := hp
    obtain ⟨env', l', g1, g2, ⟨j, b, k1, k2, k3⟩ | ⟨k1, k2⟩⟩ := swG_ok hX hp he (by omega)
    · have hj : j < ts.length := (List.getElem?_eq_some_iff.mp k1).1
      have h8 := s8 j hj
      rw [k1] at h8
      have hjo : j < offs.size := by omega
      have hoj : offs[j]? = some offs[j] := Array.getElem?_eq_getElem hjo
      rw [hoj] at h8
      obtain ⟨t, ht⟩ := jB_tg h8
      refine good_step hA.1 hd (xca_sw _ _ _ _ _ _ _ _) (xre_sw _ _ _ _ _ _ _) (pc' := t) (clv' := clv) (st' := r.map (cvV σ)) (ph' := ph) (nc' := nc) (ns' := ns) ?_ ((go_jump hI hA.1 hA.2.1 h8 ht k3 g1 hH hL).mono g2)
      rw [List.map_cons, hX]
      refine st_sw_in (by omega) (o := offs[j]) ?_ ht
      rw [show (X.toInt - lo).toNat = j by omega]
      exact hoj
    · obtain ⟨t, ht⟩ := jB_tg s1
      refine good_step hA.1 hd (xca_sw _ _ _ _ _ _ _ _) (xre_sw _ _ _ _ _ _ _) (pc' := t) (clv' := clv) (st' := r.map (cvV σ)) (ph' := ph) (nc' := nc) (ns' := ns) ?_ ((go_jump hI hA.1 hA.2.1 s1 ht k2 g1 hH hL).mono g2)
      rw [List.map_cons, hX]
      refine st_sw_out ?_ ht
      by_cases z1 : X.toInt < lo
      · exact Or.inl z1
      · right
        have hz := k1 (X.toInt - lo).toNat
        omega
end OW

/-! ===== calls, ends and switches of the evaluator ===== -/
theorem bndL_ok {f : CO → CR} : ∀ {l1 : List CO} {l : List CO}, bndL f l1 = some l → ∀ o ∈ l1, ∃ l', f o = some l' ∧ ∀ p ∈ l', p ∈ l
  | [], _, _, o, ho => by cases ho
  | [a], l, h, o, ho => by
    rw [List.mem_singleton] at ho
    subst ho
    exact ⟨l, h, fun p hp => hp⟩
  | a :: b :: t, l, h, o, ho => by
    rw [bndL] at h
    · obtain ⟨x, y, hx, hy, rfl⟩ := app2_ok h
      rcases List.mem_cons.mp ho with rfl | ho
      · exact ⟨x, hx, fun p hp => List.mem_append_left _ hp⟩
      · obtain ⟨l', e1, e2⟩ := bndL_ok hy o ho
        exact ⟨l', e1, fun p hp => List.mem_append_right _ (e2 p hp)⟩
    · simp
theorem bnd_ok {x : CR} {f : CO → CR} {l : List CO} (h : bnd x f = some l) : ∃ l1, x = some l1 ∧ ∀ o ∈ l1, ∃ l', f o = some l' ∧ ∀ p ∈ l', p ∈ l := by
  unfold bnd at h
  cases x with
  | none => cases h
  | some l1 => exact ⟨l1, rfl, bndL_ok h⟩
theorem locA_len (σ : Nat → Int32) : ∀ as : List AV, (lg_sl (as.map (cvV σ))).length = (locA as).length
  | [] => rfl
  | v :: as => by
    have ih := locA_len σ as
    unfold lg_sl at ih ⊢
    rw [List.map_cons, List.flatMap_cons, List.length_append, ih]
    match v with
    | .inl _ => show 1 + _ = (locA as).length + 1; omega
    | .inr (.inl _) => show 1 + _ = (locA as).length + 1; omega
    | .inr (.inr (.inl _)) => show 2 + _ = (locA as).length + 1 + 1; omega
    | .inr (.inr (.inr (some _))) => show 1 + _ = (locA as).length + 1; omega
    | .inr (.inr (.inr none)) => show 1 + _ = (locA as).length + 1; omega
theorem gl_cons_self (i : Nat) (v : Value) (l : PV) : gl ((i, v) :: l) i = some v := by
  unfold gl
  rw [List.find?_cons]
  simp
theorem gl_cons_ne {i j : Nat} (v : Value) (l : PV) (h : i ≠ j) : gl ((i, v) :: l) j = gl l j := by
  unfold gl
  rw [List.find?_cons, show ((i, v).1 == j) = false by simpa using h]
theorem locA_get (σ : Nat → Int32) : ∀ (as : List AV) (i0 i : Nat) (v : AV), (locA as)[i]? = some (some v) → gl (lv_args i0 (as.map (cvV σ))) (i0 + i) = some (cvV σ v)
  | [], _, _, _, h => by simp [locA] at h
  | w :: as, i0, i, v, h => by
    have key : ∀ (i : Nat), (cvV σ w).category = 1 → (some w :: locA as)[i]? = some (some v) → gl (lv_args i0 ((w :: as).map (cvV σ))) (i0 + i) = some (cvV σ v) := by
      intro i hc h
      rw [List.map_cons, lv_args, if_neg (by omega)]
      cases i with
      | zero =>
        rw [List.getElem?_cons_zero] at h
        cases h
        exact gl_cons_self _ _ _
      | succ i =>
        rw [List.getElem?_cons_succ] at h
        rw [gl_cons_ne _ _ (by omega), show i0 + (i + 1) = i0 + 1 + i by omega]
        exact locA_get σ as (i0 + 1) i v h
    match w, key, h with
    | .inl a, key, h => exact key i rfl h
    | .inr (.inl k), key, h => exact key i rfl h
    | .inr (.inr (.inl x)), _, h =>
      rw [locA] at h
      rw [List.map_cons, lv_args, if_pos (show (cvV σ (.inr (.inr (.inl x)))).category = 2 from rfl)]
      cases i with
      | zero =>
        rw [List.getElem?_cons_zero] at h
        cases h
        exact gl_cons_self _ _ _
      | succ i =>
        cases i with
        | zero => simp at h
        | succ i =>
          rw [List.getElem?_cons_succ, List.getElem?_cons_succ] at h
          rw [gl_cons_ne _ _ (by omega), show i0 + (i + 1 + 1) = i0 + 2 + i by omega]
          exact locA_get σ as (i0 + 2) i v h
    | .inr (.inr (.inr (some a))), key, h => exact key i rfl h
    | .inr (.inr (.inr none)), key, h => exact key i rfl h
theorem splK_s (n : Nat) (acc : List AV) (v : AV) (r : List AV) (K : List AV → List AV → CR) : splK (n + 1) acc (v :: r) K = splK n (v :: acc) r K := rfl
theorem splK_ok : ∀ {n : Nat} {acc st : List AV} {K : List AV → List AV → CR} {l : List CO}, splK n acc st K = some l → ∃ xs r, st = xs ++ r ∧ xs.length = n ∧ K (xs.reverse ++ acc) r = some l
  | 0, acc, st, K, l, h => ⟨[], st, rfl, rfl, h⟩
  | n + 1, acc, [], K, l, h => by cases h
  | n + 1, acc, v :: st, K, l, h => by
    rw [splK_s] at h
    obtain ⟨xs, r, e1, e2, e3⟩ := splK_ok h
    refine ⟨v :: xs, r, by rw [e1]; rfl, by rw [List.length_cons, e2], ?_⟩
    rw [List.reverse_cons, List.append_assoc]
    exact e3
theorem nlT_some : nlT.all (fun q => (mT[q.2.2.1]?).isSome) = true := by decide +kernel
theorem mlF_some {c ix k : Nat} (h : mlF c ix = some k) : ∃ K, mT[k]? = some K := by
  unfold mlF at h
  obtain ⟨q, hq, he⟩ := Option.map_eq_some_iff.mp h
  have h3 := List.all_eq_true.mp mlT_ok q (List.mem_of_find?_eq_some hq)
  rw [he] at h3
  cases hK : mT[k]? with
  | none => rw [hK] at h3; cases h3
  | some K => exact ⟨K, rfl⟩
theorem nlF_some {c ix k : Nat} (h : nlF c ix = some k) : ∃ K, mT[k]? = some K := by
  obtain ⟨q, hq, -, -, e⟩ := nlF_ok h
  have h3 := List.all_eq_true.mp nlT_some q hq
  rw [e] at h3
  exact Option.isSome_iff_exists.mp h3
section OV
variable {σ : Nat → Int32}
variable {ih : CB} {e : CE} {full rest : List CE} {lv : List (Option AV)} {st : List AV} {h : HT} {hn nc ns d mi pc : Nat} {env : EV} {l : List CO} {M : MR} {clv : PV} {ph : PH}
theorem ok_enter (hC : CertAll) (hI : IHok σ ih) (hA : AtC mi M full (e :: rest) pc) (he : eOK σ env) (hH : HR σ h hn ph) (hL : LR σ lv clv) {i : Instr} {k : Nat} {K : MR} {as r : List AV} (hd : decode (mC M) pc = .ok (i, 3)) (hlen : e.2.2.2.2.2.1 = 3) (hca : x_ca (mO M) i 3 (st.map (cvV σ)) ph = some (k, as.map (cvV σ), r.map (cvV σ))) (hK : mT[k]? = some K) (hk0 : k ≠ 0)
    (hp : p_enter ih (tget CM 8 k mTab) as full rest lv r h hn nc ns env d = some l) : GoodR σ d mi pc clv (st.map (cvV σ)) ph nc ns l := by
  obtain ⟨-, -, ⟨e0, r0, hc1, hc2⟩, hinf⟩ := hC k K hK
  have hinf := hinf hk0
  unfold p_enter at hp
  cases d with
  | zero => cases hp
  | succ d' =>
    have hp : (bif Nat.ble (locA as).length (tget CM 8 k mTab).2.1 && Nat.ble (catA r) 8 then bnd (ih (tget CM 8 k mTab).1 (tget CM 8 k mTab).1 (locA as) [] h hn 0 0 env d') (fun o => fN (nc + o.2.2.2.1) fun nc => fN (ns + o.2.2.2.2.1) fun ns => ih full rest lv (pushR o.1 r) o.2.1 o.2.2.1 nc ns o.2.2.2.2.2 (Nat.succ d')) else none) = some l := hp
    cases hc : (Nat.ble (locA as).length (tget CM 8 k mTab).2.1 && Nat.ble (catA r) 8) with
    | false => rw [hc] at hp; cases hp
    | true =>
      rw [hc, cond_true] at hp
      rw [Bool.and_eq_true] at hc
      obtain ⟨l1, hl1, hl2⟩ := bnd_ok hp
      unfold infOK at hinf
      simp only [Bool.and_eq_true] at hinf
      have hmL := beq_of hinf.1.1.1
      have hGood := hI.2 k K _ _ _ _ _ _ _ _ _ _ _ hl1 0 (lv_args 0 (as.map (cvV σ))) ph ⟨hK, rfl, 0, e0, r0, hc1, rfl, hc2⟩ he hH (fun i v hv => by have := locA_get σ as 0 i v hv; rwa [Nat.zero_add] at this)
      refine good_call hA.1 hd hca hK (by rw [locA_len, ← hmL]; exact ble_of hc.1) hGood (fun o ho ph' hH' he' => ?_)
      obtain ⟨l', e1, e2⟩ := hl2 o ho
      rw [fN_eq, fN_eq] at e1
      have hgo := go_len (l := l) hC hI hA hlen e1 he' hH' hL e2
      have hst : (pushR o.1 r).map (cvV σ) = (o.1.map (cvV σ)).toList ++ r.map (cvV σ) := by
        cases o.1 <;> rfl
      rw [hst] at hgo
      exact hgo
theorem ok_virtual (hC : CertAll) (hI : IHok σ ih) (hA : AtC mi M full (e :: rest) pc) (he : eOK σ env) (hH : HR σ h hn ph) (hL : LR σ lv clv) {ix : Nat} (hm : mlF (mO M) ix = some e.2.2.1) (hk0 : e.2.2.1 ≠ 0) (hd : decode (mC M) pc = .ok (.invokevirtual ix, 3)) (hlen : e.2.2.2.2.2.1 = 3) (hp : p_virtual ih e full rest lv st h hn nc ns env d = some l) : GoodR σ d mi pc clv (st.map (cvV σ)) ph nc ns l := by
  obtain ⟨K, hK⟩ := mlF_some hm
  have hinf := (hC _ K hK).2.2.2 hk0
  unfold infOK at hinf
  simp only [Bool.and_eq_true] at hinf
  obtain ⟨⟨⟨i1, i2⟩, i3⟩, i4⟩ := hinf
  unfold p_virtual at hp
  dsimp only at hp
  have hsp := splK_ok hp
  clear hp
  obtain ⟨xs, r, rfl, hxl, hp⟩ := hsp
  rw [List.append_nil] at hp
  split at hp
  case h_2 => cases hp
  rename_i a r
  split at hp
  case h_2 => cases hp
  rename_i ci fs hx
  cases hc : (Nat.beq ci (tget CM 8 e.2.2.1 mTab).2.2.2.2.1 && Nat.ble 2 a && Nat.blt a hn && Nat.beq (tget CM 8 e.2.2.1 mTab).2.2.2.1 0) with
  | false => rw [hc] at hp; cases hp
  | true =>
  rw [hc, cond_true] at hp
  simp only [Bool.and_eq_true] at hc
  obtain ⟨⟨⟨c1, c2⟩, c3⟩, c4⟩ := hc
  have hob := hH.ob (blt_iff.mp c3) hx
  have hcr : Nat.ble (catA r) 8 = true := by
    unfold p_enter at hp
    cases d with
    | zero => cases hp
    | succ d' =>
      cases hz : Nat.ble (catA r) 8 with
      | true => rfl
      | false =>
        have hp : (bif Nat.ble (locA (.inr (.inr (.inr (some a))) :: xs.reverse)).length (tget CM 8 e.2.2.1 mTab).2.1 && Nat.ble (catA r) 8 then _ else none) = some l := hp
        rw [hz, Bool.and_false] at hp
        cases hp
  have hN : mN K = xs.length := by rw [hxl, beq_of i2]
  have hmap : (xs ++ .inr (.inr (.inr (some a))) :: r).map (cvV σ) = xs.map (cvV σ) ++ .ref a :: r.map (cvV σ) := by rw [List.map_append]; rfl
  have hdr : ((xs ++ .inr (.inr (.inr (some a))) :: r).map (cvV σ)).drop (mN K) = .ref a :: r.map (cvV σ) := by rw [hmap, hN, List.drop_left' (by rw [List.length_map])]
  have htk : ((xs ++ .inr (.inr (.inr (some a))) :: r).map (cvV σ)).take (mN K) = xs.map (cvV σ) := by rw [hmap, hN, List.take_left' (by rw [List.length_map])]
  refine ok_enter hC hI hA he hH hL (as := .inr (.inr (.inr (some a))) :: xs.reverse) (r := r) hd hlen ?_ hK hk0 hp
  unfold x_ca
  rw [if_pos rfl]
  simp only [hm, hK, hdr, hob]
  rw [if_pos ⟨hk0, by rw [← beq_of i3]; exact beq_of c4, by rw [← beq_of i4]; exact (beq_of c1).symm, ble_of c2, by rw [catA_eq]; exact ble_of hcr⟩, htk, List.map_cons, List.map_reverse]
  rfl
theorem enter_cat {c : CM} {as r : List AV} (hp : p_enter ih c as full rest lv r h hn nc ns env d = some l) : catA r ≤ 8 := by
  unfold p_enter at hp
  cases d with
  | zero => cases hp
  | succ d' =>
    cases hz : Nat.ble (catA r) 8 with
    | true => exact ble_of hz
    | false =>
      have hp : (bif Nat.ble (locA as).length c.2.1 && Nat.ble (catA r) 8 then _ else none) = some l := hp
      rw [hz, Bool.and_false] at hp
      cases hp
theorem ok_static (hC : CertAll) (hI : IHok σ ih) (hA : AtC mi M full (e :: rest) pc) (he : eOK σ env) (hH : HR σ h hn ph) (hL : LR σ lv clv) {ix : Nat} (hm : mlF (mO M) ix = some e.2.2.1) (hk0 : e.2.2.1 ≠ 0) (hd : decode (mC M) pc = .ok (.invokestatic ix, 3)) (hlen : e.2.2.2.2.2.1 = 3) (hp : p_static ih e full rest lv st h hn nc ns env d = some l) : GoodR σ d mi pc clv (st.map (cvV σ)) ph nc ns l := by
  obtain ⟨K, hK⟩ := mlF_some hm
  have hinf := (hC _ K hK).2.2.2 hk0
  unfold infOK at hinf
  simp only [Bool.and_eq_true] at hinf
  obtain ⟨⟨⟨i1, i2⟩, i3⟩, i4⟩ := hinf
  unfold p_static at hp
  dsimp only at hp
  cases c4 : Nat.beq (tget CM 8 e.2.2.1 mTab).2.2.2.1 1 with
  | false => rw [c4] at hp; cases hp
  | true =>
  rw [c4, cond_true] at hp
  have hsp := splK_ok hp
  clear hp
  obtain ⟨xs, r, rfl, hxl, hp⟩ := hsp
  rw [List.append_nil] at hp
  have hcr := enter_cat hp
  have hN : mN K = xs.length := by rw [hxl, beq_of i2]
  have hdr : ((xs ++ r).map (cvV σ)).drop (mN K) = r.map (cvV σ) := by rw [List.map_append, hN, List.drop_left' (by rw [List.length_map])]
  have htk : ((xs ++ r).map (cvV σ)).take (mN K) = xs.map (cvV σ) := by rw [List.map_append, hN, List.take_left' (by rw [List.length_map])]
  refine ok_enter hC hI hA he hH hL (as := xs.reverse) (r := r) hd hlen ?_ hK hk0 hp
  unfold x_ca
  rw [if_pos rfl]
  simp only [hm, hK, hdr]
  rw [if_pos ⟨hk0, by rw [← beq_of i3]; exact beq_of c4, by rw [hN]; simp, by rw [catA_eq]; exact hcr⟩, htk, List.map_reverse]
theorem ok_special (hC : CertAll) (hI : IHok σ ih) (hA : AtC mi M full (e :: rest) pc) (he : eOK σ env) (hH : HR σ h hn ph) (hL : LR σ lv clv) {ix : Nat} (hm : mlF (mO M) ix = some e.2.2.1 ∨ (mlF (mO M) ix = none ∧ nlF (mO M) ix = some e.2.2.1)) (hk0 : e.2.2.1 ≠ 0) (hd : decode (mC M) pc = .ok (.invokespecial ix, 3)) (hlen : e.2.2.2.2.2.1 = 3) (hp : p_special ih e full rest lv st h hn nc ns env d = some l) : GoodR σ d mi pc clv (st.map (cvV σ)) ph nc ns l := by
  obtain ⟨K, hK⟩ : ∃ K, mT[e.2.2.1]? = some K := by
    rcases hm with z | z
    · exact mlF_some z
    · exact nlF_some z.2
  have hinf := (hC _ K hK).2.2.2 hk0
  unfold infOK at hinf
  simp only [Bool.and_eq_true] at hinf
  obtain ⟨⟨⟨i1, i2⟩, i3⟩, i4⟩ := hinf
  unfold p_special at hp
  dsimp only at hp
  have hsp := splK_ok hp
  clear hp
  obtain ⟨xs, r, rfl, hxl, hp⟩ := hsp
  rw [List.append_nil] at hp
  split at hp
  case h_2 => cases hp
  rename_i a r
  cases c4 : Nat.beq (tget CM 8 e.2.2.1 mTab).2.2.2.1 2 with
  | false => rw [c4] at hp; cases hp
  | true =>
  rw [c4, cond_true] at hp
  have hcr := enter_cat hp
  have hN : mN K = xs.length := by rw [hxl, beq_of i2]
  have hmap : (xs ++ .inr (.inr (.inr (some a))) :: r).map (cvV σ) = xs.map (cvV σ) ++ .ref a :: r.map (cvV σ) := by rw [List.map_append]; rfl
  have hdr : ((xs ++ .inr (.inr (.inr (some a))) :: r).map (cvV σ)).drop (mN K) = .ref a :: r.map (cvV σ) := by rw [hmap, hN, List.drop_left' (by rw [List.length_map])]
  have htk : ((xs ++ .inr (.inr (.inr (some a))) :: r).map (cvV σ)).take (mN K) = xs.map (cvV σ) := by rw [hmap, hN, List.take_left' (by rw [List.length_map])]
  refine ok_enter hC hI hA he hH hL (as := .inr (.inr (.inr (some a))) :: xs.reverse) (r := r) hd hlen ?_ hK hk0 hp
  unfold x_ca
  rw [if_pos rfl]
  rcases hm with z | ⟨z, z2⟩
  · simp only [z, hK, hdr]
    rw [if_pos ⟨hk0, by rw [← beq_of i3]; exact beq_of c4, by rw [catA_eq]; exact hcr⟩, htk, List.map_cons, List.map_reverse]
    rfl
  · simp only [z, z2, hK, hdr]
    rw [if_pos ⟨hk0, by rw [← beq_of i3]; exact beq_of c4, by rw [catA_eq]; exact hcr⟩, htk, List.map_cons, List.map_reverse]
    rfl
end OV

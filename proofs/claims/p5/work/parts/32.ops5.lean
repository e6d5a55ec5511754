/-! ===== what is new, the machine's own calls, switches, ends ===== -/
theorem dep_ok {n : Nat} (h : n ≤ 16384) : n ≤ 2 ^ dep n := by
  unfold dep
  cases h1 : Nat.ble n 16 with
  | true => exact ble_of h1
  | false =>
    cases h2 : Nat.ble n 64 with
    | true => exact ble_of h2
    | false =>
      cases h3 : Nat.ble n 256 with
      | true => exact ble_of h3
      | false => exact h
theorem oI_lit : oI 2147483648 = 0 := by decide
theorem oL_lit : oL 9223372036854775808 = 0 := by decide
theorem dfA_map (σ : Nat → Int32) : dfA.map (fun fs => fs.map (cvV σ)) = dfL := by
  simp only [dfA, List.map_cons, List.map_nil, cvV, oI_lit, oL_lit]
  rfl
theorem dfA_len : dfA.map (fun fs => fs.length) = cls.map (fun q => q.2.2) := by decide +kernel
theorem dfA_ok {ci : Nat} {fs : List AV} (σ : Nat → Int32) (h : dfA[ci]? = some fs) : dfL[ci]? = some (fs.map (cvV σ)) ∧ ∃ q, cls[ci]? = some q ∧ q.2.2 = fs.length := by
  refine ⟨by rw [← dfA_map σ, List.getElem?_map, h]; rfl, ?_⟩
  have h1 : (cls.map (fun q => q.2.2))[ci]? = some fs.length := by rw [← dfA_len, List.getElem?_map, h]; rfl
  rw [List.getElem?_map] at h1
  obtain ⟨q, hq, he⟩ := Option.map_eq_some_iff.mp h1
  exact ⟨q, hq, he⟩
section OU
variable {σ : Nat → Int32}
variable {ih : CB} {e : CE} {full rest : List CE} {lv : List (Option AV)} {st : List AV} {h : HT} {hn nc ns d mi pc : Nat} {env : EV} {l : List CO} {M : MR} {clv : PV} {ph : PH}
theorem st_getstatic {ix : Nat} {r : List Value} (hg : gsF (mO M) ix = true) : stp M d (.getstatic ix) 3 (pc, clv, r, ph, nc, ns) = some (pc + 3, clv, .ref 1 :: r, ph, nc, ns) := by
  simp [stp, x_ld, x_st, x_ar, x_br, x_hp, hg]
theorem st_oi {ix v : Nat} {r : List Value} (hg : oiF (mO M) ix = true) (hd1 : 1 ≤ d) (hr : catS r ≤ 8) : stp M d (.invokespecial ix) 3 (pc, clv, .ref v :: r, ph, nc, ns) = some (pc + 3, clv, r, ph, nc, ns) := by
  simp [stp, x_ld, x_st, x_ar, x_br, x_hp, hg, hd1, hr]
theorem st_cpy {ix v w n0 n1 : Nat} {f g : Nat → Int32} {sp dp n : Int32} {r : List Value} (hf : acF (mO M) ix = true) (hd1 : 1 ≤ d) (hv : ph[v]? = some (.inl (n0, f))) (hw : ph[w]? = some (.inl (n1, g))) (h2 : 2 ≤ v) (h3 : 2 ≤ w) (h4 : 0 ≤ sp) (h5 : 0 ≤ dp) (h6 : 0 ≤ n) (h7 : sp.toNatClampNeg + n.toNatClampNeg ≤ n0) (h8 : dp.toNatClampNeg + n.toNatClampNeg ≤ n1) (hr : catS r ≤ 8) :
    stp M d (.invokestatic ix) 3 (pc, clv, .int n :: .int dp :: .ref w :: .int sp :: .ref v :: r, ph, nc, ns) = some (pc + 3, clv, r, ph.set w (.inl (n1, va_cpy f g sp.toNatClampNeg dp.toNatClampNeg n.toNatClampNeg)), nc, ns) := by
  simp [stp, x_ld, x_st, x_ar, x_br, x_hp, hf, hd1, hv, hw, h2, h3, h4, h5, h6, h7, h8, hr]
theorem ofNat_oI {n : Nat} (hn : n < 2147483648) : Int32.ofNat n = oI (n + oZ) := (oI_back hn).symm
theorem ok_alen (hC : CertAll) (hI : IHok σ ih) (hA : AtC mi M full (e :: rest) pc) (he : eOK σ env) (hH : HR σ h hn ph) (hL : LR σ lv clv)  (hd : decode (mC M) pc = .ok (.arraylength, 1)) (hlen : e.2.2.2.2.2.1 = 1) (hp : p_alen ih e full rest lv st h hn nc ns env d = some l) : GoodR σ d mi pc clv (st.map (cvV σ)) ph nc ns l := by
  unfold p_alen at hp
  split at hp
  case h_2 => cases hp
  rename_i a r
  split at hp
  · rename_i n t hx
    cases hc : Nat.blt a hn with
    | false => rw [hc] at hp; cases hp
    | true =>
    rw [hc, cond_true, fN_eq] at hp
    obtain ⟨f, q1, q2, q3⟩ := hH.ar (blt_iff.mp hc) hx
    refine good_step hA.1 hd rfl rfl (pc' := pc + 1) (clv' := clv) (st' := .int (Int32.ofNat n) :: r.map (cvV σ)) (ph' := ph) (nc' := nc) (ns' := ns) (by rw [List.map_cons]; exact st_alen q1) ?_
    have hv : Int32.ofNat n = oI (n + oZ) := by
      unfold oI
      rw [Nat.add_assoc, show oZ + oZ = oM from rfl, oI_per]
    rw [hv]
    generalize n + oZ = w at hp
    exact go_len (st' := .inl w :: r) hC hI hA hlen hp he hH hL (fun o ho => ho)
  · rename_i ci lr hx
    cases hc : (Nat.ble 2 a && Nat.blt a hn) with
    | false => rw [hc] at hp; cases hp
    | true =>
    rw [hc, cond_true, fN_eq] at hp
    rw [Bool.and_eq_true] at hc
    obtain ⟨f, q1, q2, q3⟩ := hH.rf (blt_iff.mp hc.2) hx
    refine good_step hA.1 hd rfl rfl (pc' := pc + 1) (clv' := clv) (st' := .int (Int32.ofNat lr.length) :: r.map (cvV σ)) (ph' := ph) (nc' := nc) (ns' := ns) (by rw [List.map_cons]; exact st_alenR q1 (ble_of hc.1) q2) ?_
    have hv : Int32.ofNat lr.length = oI (lr.length + oZ) := by
      unfold oI
      rw [Nat.add_assoc, show oZ + oZ = oM from rfl, oI_per]
    rw [hv]
    generalize lr.length + oZ = w at hp
    exact go_len (st' := .inl w :: r) hC hI hA hlen hp he hH hL (fun o ho => ho)
  · cases hp
theorem ok_newarray (hC : CertAll) (hI : IHok σ ih) (hA : AtC mi M full (e :: rest) pc) (he : eOK σ env) (hH : HR σ h hn ph) (hL : LR σ lv clv)  (hd : decode (mC M) pc = .ok (.newarray .int, 2)) (hlen : e.2.2.2.2.2.1 = 2) (hp : p_newarray ih e full rest lv st h hn nc ns env d = some l) : GoodR σ d mi pc clv (st.map (cvV σ)) ph nc ns l := by
  unfold p_newarray at hp
  split at hp
  case h_2 => cases hp
  rename_i n r
  cases hc : (Nat.ble oZ n && Nat.ble (n - oZ) 16384 && Nat.blt hn 256) with
  | false => rw [hc] at hp; cases hp
  | true =>
  rw [hc, cond_true] at hp
  simp only [Bool.and_eq_true] at hc
  obtain ⟨⟨c1, c2⟩, c3⟩ := hc
  have hnm : n < oM := by
    have h1 := ble_of c2
    unfold oZ at h1
    unfold oM
    omega
  obtain ⟨g1, g2⟩ := oI_clamp (ble_of c1) hnm
  have h16 := ble_of c2
  generalize n - oZ = k at hp g1 h16
  simp only [fN_eq] at hp
  rw [tset_put] at hp
  refine good_step hA.1 hd rfl rfl (pc' := pc + 2) (clv' := clv) (st' := .ref ph.length :: r.map (cvV σ)) (ph' := ph ++ [.inl ((oI n).toNatClampNeg, fun _ => 0)]) (nc' := nc + 1) (ns' := ns + (oI n).toNatClampNeg) (by rw [List.map_cons]; exact st_newa g2 (by rw [g1]; omega)) ?_
  rw [g1, hH.2.2.1]
  refine go_len (st' := .inr (.inr (.inr (some hn))) :: r) hC hI hA hlen hp he (hH.push (blt_iff.mp c3) ⟨rfl, dep_ok h16, fun j hj => ?_⟩) hL (fun o ho => ho)
  show cvV σ (tget AV (dep k) j (tall AV (.inl oZ) (dep k))) = .int 0
  rw [tget_all]
  show Value.int (oI oZ) = .int 0
  rw [oI_z]
theorem ok_anewarray (hC : CertAll) (hI : IHok σ ih) (hA : AtC mi M full (e :: rest) pc) (he : eOK σ env) (hH : HR σ h hn ph) (hL : LR σ lv clv) {ix : Nat} (hf : clF (mO M) ix = some e.2.2.1) (hao : aoK e.2.2.1 = true) (hd : decode (mC M) pc = .ok (.anewarray ix, 3)) (hlen : e.2.2.2.2.2.1 = 3) (hp : p_anewarray ih e full rest lv st h hn nc ns env d = some l) : GoodR σ d mi pc clv (st.map (cvV σ)) ph nc ns l := by
  unfold p_anewarray at hp
  split at hp
  case h_2 => cases hp
  rename_i n r
  cases hc : (Nat.ble oZ n && Nat.ble (n - oZ) 16384 && Nat.blt hn 256) with
  | false => rw [hc] at hp; cases hp
  | true =>
  rw [hc, cond_true] at hp
  simp only [Bool.and_eq_true] at hc
  obtain ⟨⟨c1, c2⟩, c3⟩ := hc
  have hnm : n < oM := by
    have h1 := ble_of c2
    unfold oZ at h1
    unfold oM
    omega
  obtain ⟨g1, g2⟩ := oI_clamp (ble_of c1) hnm
  have h16 := ble_of c2
  generalize n - oZ = k at hp g1 h16
  simp only [fN_eq] at hp
  rw [tset_put] at hp
  refine good_step hA.1 hd rfl rfl (pc' := pc + 3) (clv' := clv) (st' := .ref ph.length :: r.map (cvV σ)) (ph' := ph ++ [.inr (.inl (e.2.2.1, (oI n).toNatClampNeg, fun _ => none))]) (nc' := nc + 1) (ns' := ns + (oI n).toNatClampNeg) (by rw [List.map_cons]; exact st_anew hf hao g2 (by rw [g1]; omega)) ?_
  rw [g1, hH.2.2.1]
  refine go_len (st' := .inr (.inr (.inr (some hn))) :: r) hC hI hA hlen hp he (hH.push (blt_iff.mp c3) ⟨rfl, List.length_replicate, hao, fun j hj => ?_⟩) hL (fun o ho => ho)
  show (List.replicate k none)[j]? = some none
  rw [List.getElem?_replicate, if_pos hj]
theorem ok_new (hC : CertAll) (hI : IHok σ ih) (hA : AtC mi M full (e :: rest) pc) (he : eOK σ env) (hH : HR σ h hn ph) (hL : LR σ lv clv) {ix : Nat} (hf : clF (mO M) ix = some e.2.2.1) (hd : decode (mC M) pc = .ok (.new ix, 3)) (hlen : e.2.2.2.2.2.1 = 3) (hp : p_new ih e full rest lv st h hn nc ns env d = some l) : GoodR σ d mi pc clv (st.map (cvV σ)) ph nc ns l := by
  unfold p_new at hp
  split at hp
  case h_2 => cases hp
  rename_i fs hfs
  cases c3 : Nat.blt hn 256 with
  | false => rw [c3] at hp; cases hp
  | true =>
  rw [c3, cond_true, tset_put] at hp
  simp only [fN_eq] at hp
  obtain ⟨w1, q, w2, w3⟩ := dfA_ok σ hfs
  refine good_step hA.1 hd rfl rfl (pc' := pc + 3) (clv' := clv) (st' := .ref ph.length :: st.map (cvV σ)) (ph' := ph ++ [.inr (.inr (e.2.2.1, fs.map (cvV σ)))]) (nc' := nc + 1) (ns' := ns + q.2.2) (by exact st_new hf w2 w1) ?_
  rw [w3, hH.2.2.1]
  exact go_len (st' := .inr (.inr (.inr (some hn))) :: st) hC hI hA hlen hp he (hH.push (blt_iff.mp c3) ⟨rfl, rfl⟩) hL (fun o ho => ho)
theorem ok_getstatic (hC : CertAll) (hI : IHok σ ih) (hA : AtC mi M full (e :: rest) pc) (he : eOK σ env) (hH : HR σ h hn ph) (hL : LR σ lv clv) {ix : Nat} (hg : gsF (mO M) ix = true) (hd : decode (mC M) pc = .ok (.getstatic ix, 3)) (hlen : e.2.2.2.2.2.1 = 3) (hp : p_getstatic ih e full rest lv st h hn nc ns env d = some l) : GoodR σ d mi pc clv (st.map (cvV σ)) ph nc ns l := by
  unfold p_getstatic at hp
  refine good_step hA.1 hd rfl rfl (pc' := pc + 3) (clv' := clv) (st' := .ref 1 :: st.map (cvV σ)) (ph' := ph) (nc' := nc) (ns' := ns) (by exact st_getstatic hg) ?_
  exact go_len (st' := .inr (.inr (.inr (some 1))) :: st) hC hI hA hlen hp he hH hL (fun o ho => ho)
theorem ok_objinit (hC : CertAll) (hI : IHok σ ih) (hA : AtC mi M full (e :: rest) pc) (he : eOK σ env) (hH : HR σ h hn ph) (hL : LR σ lv clv) {ix : Nat} (hg : oiF (mO M) ix = true) (hm : mlF (mO M) ix = none) (hn2 : nlF (mO M) ix = none) (hd : decode (mC M) pc = .ok (.invokespecial ix, 3)) (hlen : e.2.2.2.2.2.1 = 3) (hp : p_objinit ih e full rest lv st h hn nc ns env d = some l) : GoodR σ d mi pc clv (st.map (cvV σ)) ph nc ns l := by
  unfold p_objinit at hp
  split at hp
  case h_2 => cases hp
  rename_i a r
  cases hc : (Nat.ble (catA r) 8 && Nat.ble 1 d) with
  | false => rw [hc] at hp; cases hp
  | true =>
  rw [hc, cond_true] at hp
  rw [Bool.and_eq_true] at hc
  refine good_step hA.1 hd (by simp [x_ca, hm, hn2]) rfl (pc' := pc + 3) (clv' := clv) (st' := r.map (cvV σ)) (ph' := ph) (nc' := nc) (ns' := ns) (by rw [List.map_cons]; exact st_oi hg (ble_of hc.2) (by rw [catA_eq]; exact ble_of hc.1)) ?_
  exact go_len (st' := r) hC hI hA hlen hp he hH hL (fun o ho => ho)
noncomputable def cpyT (src : Sigma (TTy AV)) (k n sp dp : Nat) (t : TTy AV k) : TTy AV k := match n with
  | 0 => t
  | n + 1 => cpyT src k n (sp + 1) (dp + 1) (tput AV k dp (tget AV src.1 sp src.2) t)
theorem cpyK_eq (src : Sigma (TTy AV)) (k : Nat) : ∀ (n sp dp : Nat) (t : TTy AV k) (K : TTy AV k → CR), cpyK src k n sp dp t K = K (cpyT src k n sp dp t)
  | 0, _, _, _, _ => rfl
  | n + 1, sp, dp, t, K => by
    show fA (tget AV src.1 sp src.2) (fun v => tset AV CR k dp v t fun t' => fN (sp + 1) fun sp => fN (dp + 1) fun dp => cpyK src k n sp dp t' K) = _
    rw [fA_eq, tset_put, fN_eq, fN_eq, cpyK_eq src k n]
    rfl
theorem cpyT_get (src : Sigma (TTy AV)) (k : Nat) : ∀ (n sp dp : Nat) (t : TTy AV k) (j : Nat), dp + n ≤ 2 ^ k → j < 2 ^ k → tget AV k j (cpyT src k n sp dp t) = if dp ≤ j ∧ j < dp + n then tget AV src.1 (sp + (j - dp)) src.2 else tget AV k j t
  | 0, sp, dp, t, j, _, _ => by
    rw [if_neg (by omega)]
    rfl
  | n + 1, sp, dp, t, j, h1, h2 => by
    show tget AV k j (cpyT src k n (sp + 1) (dp + 1) (tput AV k dp (tget AV src.1 sp src.2) t)) = _
    rw [cpyT_get src k n (sp + 1) (dp + 1) _ j (by omega) h2]
    by_cases e1 : dp + 1 ≤ j ∧ j < dp + 1 + n
    · rw [if_pos e1, if_pos (by omega), show sp + 1 + (j - (dp + 1)) = sp + (j - dp) by omega]
    · rw [if_neg e1, tget_put AV k dp j _ t (by omega) h2]
      by_cases e2 : j = dp
      · rw [if_pos e2, if_pos (by omega), e2, Nat.sub_self, Nat.add_zero]
      · rw [if_neg e2, if_neg (by omega)]
theorem cpy_cell {n0 n1 sp dp n : Nat} {t0 t1 : Sigma (TTy AV)} {f g : Nat → Int32} (a2 : ∀ j, j < n0 → cvV σ (tget AV t0.1 j t0.2) = .int (f j)) (b1 : n1 ≤ 2 ^ t1.1) (b2 : ∀ j, j < n1 → cvV σ (tget AV t1.1 j t1.2) = .int (g j)) (h1 : sp + n ≤ n0) (h2 : dp + n ≤ n1) : cellR σ (.inl (n1, ⟨t1.1, cpyT t0 t1.1 n sp dp t1.2⟩)) (.inl (n1, va_cpy f g sp dp n)) := by
  refine ⟨rfl, b1, fun j hj => ?_⟩
  have hj' : j < n1 := hj
  show cvV σ (tget AV t1.1 j (cpyT t0 t1.1 n sp dp t1.2)) = .int (va_cpy f g sp dp n j)
  rw [cpyT_get t0 t1.1 n sp dp t1.2 j (Nat.le_trans h2 b1) (Nat.lt_of_lt_of_le hj' b1)]
  unfold va_cpy
  by_cases e1 : dp ≤ j ∧ j < dp + n
  · rw [if_pos e1, if_pos e1]
    exact a2 _ (by omega)
  · rw [if_neg e1, if_neg e1]
    exact b2 j hj'
theorem ok_copy (hC : CertAll) (hI : IHok σ ih) (hA : AtC mi M full (e :: rest) pc) (he : eOK σ env) (hH : HR σ h hn ph) (hL : LR σ lv clv) {ix : Nat} (hg : acF (mO M) ix = true) (hm : mlF (mO M) ix = none) (hd : decode (mC M) pc = .ok (.invokestatic ix, 3)) (hlen : e.2.2.2.2.2.1 = 3) (hp : p_copy ih e full rest lv st h hn nc ns env d = some l) : GoodR σ d mi pc clv (st.map (cvV σ)) ph nc ns l := by
  unfold p_copy at hp
  split at hp
  case h_2 => cases hp
  rename_i n dp w sp v r
  split at hp
  case h_2 => cases hp
  rename_i n0 t0 n1 t1 hx hy
  cases hc : (Nat.ble 2 v && Nat.blt v hn && Nat.ble 2 w && Nat.blt w hn && Nat.ble oZ n && Nat.ble oZ dp && Nat.ble oZ sp && Nat.ble (sp - oZ + (n - oZ)) n0 && Nat.ble (dp - oZ + (n - oZ)) n1 && Nat.ble (catA r) 8 && Nat.ble 1 d && Nat.blt n oM && Nat.blt dp oM && Nat.blt sp oM) with
  | false => rw [hc] at hp; cases hp
  | true =>
  rw [hc, cond_true] at hp
  simp only [Bool.and_eq_true] at hc
  obtain ⟨⟨⟨⟨⟨⟨⟨⟨⟨⟨⟨⟨⟨c1, c2⟩, c3⟩, c4⟩, c5⟩, c6⟩, c7⟩, c8⟩, c9⟩, c10⟩, c11⟩, c12⟩, c13⟩, c14⟩ := hc
  obtain ⟨f, a1, a2, a3⟩ := hH.ar (blt_iff.mp c2) hx
  obtain ⟨g, b1, b2, b3⟩ := hH.ar (blt_iff.mp c4) hy
  obtain ⟨n1', n2'⟩ := oI_clamp (ble_of c5) (blt_iff.mp c12)
  obtain ⟨d1', d2'⟩ := oI_clamp (ble_of c6) (blt_iff.mp c13)
  obtain ⟨s1', s2'⟩ := oI_clamp (ble_of c7) (blt_iff.mp c14)
  have h8 := ble_of c8
  have h9 := ble_of c9
  simp only [fN_eq] at hp
  generalize n - oZ = kn at hp n1' h8 h9
  generalize dp - oZ = kd at hp d1' h9
  generalize sp - oZ = ks at hp s1' h8
  rw [cpyK_eq, tset_put] at hp
  refine good_step hA.1 hd (by simp [x_ca, hm]) rfl (pc' := pc + 3) (clv' := clv) (st' := r.map (cvV σ)) (ph' := ph.set w (.inl (n1, va_cpy f g (oI sp).toNatClampNeg (oI dp).toNatClampNeg (oI n).toNatClampNeg))) (nc' := nc) (ns' := ns) (by rw [List.map_cons, List.map_cons, List.map_cons, List.map_cons, List.map_cons]; exact st_cpy hg (ble_of c11) a1 b1 (ble_of c1) (ble_of c3) s2' d2' n2' (by rw [s1', n1']; exact h8) (by rw [d1', n1']; exact h9) (by rw [catA_eq]; exact ble_of c10)) ?_
  rw [n1', d1', s1']
  exact go_len (st' := r) hC hI hA hlen hp he (hH.put (blt_iff.mp c4) (cpy_cell a3 b2 b3 h8 h9)) hL (fun o ho => ho)
end OU

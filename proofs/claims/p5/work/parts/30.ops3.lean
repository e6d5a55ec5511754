/-! ===== bits, longs, the stack, branches of the evaluator ===== -/
section OS
variable {σ : Nat → Int32}
variable {ih : CB} {e : CE} {full rest : List CE} {lv : List (Option AV)} {st : List AV} {h : HT} {hn nc ns d mi pc : Nat} {env : EV} {l : List CO} {M : MR} {clv : PV} {ph : PH}
theorem nI_or (a b : Nat) : nI (a ||| b) = nI a ||| nI b := by
  apply Int32.toBitVec_inj.1
  simp [nI]
theorem nI_and (a b : Nat) : nI (a &&& b) = nI a &&& nI b := by
  apply Int32.toBitVec_inj.1
  simp [nI]
theorem nI_xor (a b : Nat) : nI (a ^^^ b) = nI a ^^^ nI b := by
  apply Int32.toBitVec_inj.1
  simp [nI]
theorem smod_tab : ∀ j, j < 32 → ((nI j).toBitVec.smod 32).toNat = j := by decide +kernel
theorem and31 (b : Nat) (hb : b < 2 ^ 31) : nI b &&& 31 = nI (b % 32) := pk_andN (by omega) 5 (by decide)
theorem nI_shl {a b : Nat} (hb : b < 2 ^ 31) (h : a * 2 ^ (b % 32) < 2 ^ 31) : nI a <<< (nI b &&& 31) = nI (a * 2 ^ (b % 32)) := by
  rw [and31 b hb]
  exact pk_shlN _ _ (smod_tab _ (Nat.mod_lt _ (by decide))) (by omega)
theorem nI_shr {a b : Nat} (ha : a < 2 ^ 31) (hb : b < 2 ^ 31) : nI a >>> (nI b &&& 31) = nI (a / 2 ^ (b % 32)) := by
  rw [and31 b hb]
  exact pk_shrN ha _ _ (smod_tab _ (Nat.mod_lt _ (by decide)))
/-- of two ints that are not negative, the result neither -/
theorem bit_inv {f : Nat → Nat → Nat} (hp : p_bit f ih e full rest lv st h hn nc ns env d = some l) (he : eOK σ env) : ∃ y x r a b env' l', st = y :: x :: r ∧ cvV σ x = .int (nI a) ∧ cvV σ y = .int (nI b) ∧ a < 2 ^ 31 ∧ b < 2 ^ 31 ∧ f a b < 2 ^ 31 ∧ eOK σ env' ∧ ih full rest lv (.inl (f a b + oZ) :: r) h hn nc ns env' d = some l' ∧ ∀ o ∈ l', o ∈ l := by
  unfold p_bit at hp
  split at hp
  case h_2 => cases hp
  rename_i y x r
  rcases bin_ok hp he with ⟨a, b, env', l', h1, h2, h3, h4, h5, h6, h7⟩ | ⟨q, h1, h2⟩
  · cases hc : (Nat.ble oZ a && Nat.ble oZ b && Nat.blt (f (a - oZ) (b - oZ)) oZ) with
    | false => rw [hc] at h6; cases h6
    | true =>
      rw [hc, cond_true, fN_eq] at h6
      rw [Bool.and_eq_true, Bool.and_eq_true] at hc
      obtain ⟨⟨c1, c2⟩, c3⟩ := hc
      refine ⟨y, x, r, a - oZ, b - oZ, env', l', rfl, ?_, ?_, pos_sub h2, pos_sub h4, blt_iff.mp c3, h5, h6, h7⟩
      · rw [h1, oI_pos (ble_of c1) h2]
      · rw [h3, oI_pos (ble_of c2) h4]
  · cases h1
theorem ok_ior (hC : CertAll) (hI : IHok σ ih) (hA : AtC mi M full (e :: rest) pc) (he : eOK σ env) (hH : HR σ h hn ph) (hL : LR σ lv clv)  (hd : decode (mC M) pc = .ok (.ior, 1)) (hlen : e.2.2.2.2.2.1 = 1) (hp : p_bit Nat.lor ih e full rest lv st h hn nc ns env d = some l) : GoodR σ d mi pc clv (st.map (cvV σ)) ph nc ns l := by
  obtain ⟨y, x, r, a, b, env', l', rfl, h1, h2, h3, h4, h5, h6, h7, h8⟩ := bit_inv hp he
  refine good_step hA.1 hd rfl rfl (pc' := pc + 1) (clv' := clv) (st' := .int (nI a ||| nI b) :: r.map (cvV σ)) (ph' := ph) (nc' := nc) (ns' := ns) (by rw [List.map_cons, List.map_cons, h1, h2]; simp [stp, x_ld, x_st, x_ar]) ?_
  have hv := oI_back h5
  rw [show Nat.lor a b = a ||| b from rfl, nI_or] at hv
  rw [← hv]
  exact go_len hC hI hA hlen h7 h6 hH hL h8
theorem ok_ixor (hC : CertAll) (hI : IHok σ ih) (hA : AtC mi M full (e :: rest) pc) (he : eOK σ env) (hH : HR σ h hn ph) (hL : LR σ lv clv)  (hd : decode (mC M) pc = .ok (.ixor, 1)) (hlen : e.2.2.2.2.2.1 = 1) (hp : p_bit Nat.xor ih e full rest lv st h hn nc ns env d = some l) : GoodR σ d mi pc clv (st.map (cvV σ)) ph nc ns l := by
  obtain ⟨y, x, r, a, b, env', l', rfl, h1, h2, h3, h4, h5, h6, h7, h8⟩ := bit_inv hp he
  refine good_step hA.1 hd rfl rfl (pc' := pc + 1) (clv' := clv) (st' := .int (nI a ^^^ nI b) :: r.map (cvV σ)) (ph' := ph) (nc' := nc) (ns' := ns) (by rw [List.map_cons, List.map_cons, h1, h2]; simp [stp, x_ld, x_st, x_ar]) ?_
  have hv := oI_back h5
  rw [show Nat.xor a b = a ^^^ b from rfl, nI_xor] at hv
  rw [← hv]
  exact go_len hC hI hA hlen h7 h6 hH hL h8
theorem ok_iandB (hC : CertAll) (hI : IHok σ ih) (hA : AtC mi M full (e :: rest) pc) (he : eOK σ env) (hH : HR σ h hn ph) (hL : LR σ lv clv)  (hd : decode (mC M) pc = .ok (.iand, 1)) (hlen : e.2.2.2.2.2.1 = 1) (hp : p_bit Nat.land ih e full rest lv st h hn nc ns env d = some l) : GoodR σ d mi pc clv (st.map (cvV σ)) ph nc ns l := by
  obtain ⟨y, x, r, a, b, env', l', rfl, h1, h2, h3, h4, h5, h6, h7, h8⟩ := bit_inv hp he
  refine good_step hA.1 hd rfl rfl (pc' := pc + 1) (clv' := clv) (st' := .int (nI a &&& nI b) :: r.map (cvV σ)) (ph' := ph) (nc' := nc) (ns' := ns) (by rw [List.map_cons, List.map_cons, h1, h2]; simp [stp, x_ld, x_st, x_ar]) ?_
  have hv := oI_back h5
  rw [show Nat.land a b = a &&& b from rfl, nI_and] at hv
  rw [← hv]
  exact go_len hC hI hA hlen h7 h6 hH hL h8
theorem ok_ishl (hC : CertAll) (hI : IHok σ ih) (hA : AtC mi M full (e :: rest) pc) (he : eOK σ env) (hH : HR σ h hn ph) (hL : LR σ lv clv)  (hd : decode (mC M) pc = .ok (.ishl, 1)) (hlen : e.2.2.2.2.2.1 = 1) (hp : p_bit (fun a b => a * 2 ^ (b % 32)) ih e full rest lv st h hn nc ns env d = some l) : GoodR σ d mi pc clv (st.map (cvV σ)) ph nc ns l := by
  obtain ⟨y, x, r, a, b, env', l', rfl, h1, h2, h3, h4, h5, h6, h7, h8⟩ := bit_inv hp he
  refine good_step hA.1 hd rfl rfl (pc' := pc + 1) (clv' := clv) (st' := .int (nI a <<< (nI b &&& 31)) :: r.map (cvV σ)) (ph' := ph) (nc' := nc) (ns' := ns) (by rw [List.map_cons, List.map_cons, h1, h2]; simp [stp, x_ld, x_st, x_ar]) ?_
  have hv := oI_back h5
  rw [← nI_shl h4 h5] at hv
  rw [← hv]
  exact go_len hC hI hA hlen h7 h6 hH hL h8
theorem ok_ishr (hC : CertAll) (hI : IHok σ ih) (hA : AtC mi M full (e :: rest) pc) (he : eOK σ env) (hH : HR σ h hn ph) (hL : LR σ lv clv)  (hd : decode (mC M) pc = .ok (.ishr, 1)) (hlen : e.2.2.2.2.2.1 = 1) (hp : p_bit (fun a b => a / 2 ^ (b % 32)) ih e full rest lv st h hn nc ns env d = some l) : GoodR σ d mi pc clv (st.map (cvV σ)) ph nc ns l := by
  obtain ⟨y, x, r, a, b, env', l', rfl, h1, h2, h3, h4, h5, h6, h7, h8⟩ := bit_inv hp he
  refine good_step hA.1 hd rfl rfl (pc' := pc + 1) (clv' := clv) (st' := .int (nI a >>> (nI b &&& 31)) :: r.map (cvV σ)) (ph' := ph) (nc' := nc) (ns' := ns) (by rw [List.map_cons, List.map_cons, h1, h2]; simp [stp, x_ld, x_st, x_ar]) ?_
  have hv := oI_back h5
  rw [← nI_shr h3 h4] at hv
  rw [← hv]
  exact go_len hC hI hA hlen h7 h6 hH hL h8
theorem ok_iand (hC : CertAll) (hI : IHok σ ih) (hA : AtC mi M full (e :: rest) pc) (he : eOK σ env) (hH : HR σ h hn ph) (hL : LR σ lv clv) (hσ : σ 4 = σ 0 &&& 31) (hd : decode (mC M) pc = .ok (.iand, 1)) (hlen : e.2.2.2.2.2.1 = 1) (hp : p_iand ih e full rest lv st h hn nc ns env d = some l) : GoodR σ d mi pc clv (st.map (cvV σ)) ph nc ns l := by
  unfold p_iand at hp
  split at hp
  · rename_i b r
    cases hz : Nat.beq b (oZ + 31) with
    | false => rw [hz] at hp; cases hp
    | true =>
      rw [hz] at hp
      have hb := beq_of hz
      subst hb
      refine good_step hA.1 hd rfl rfl (pc' := pc + 1) (clv' := clv) (st' := .int (σ 0 &&& 31) :: r.map (cvV σ)) (ph' := ph) (nc' := nc) (ns' := ns) (by rw [List.map_cons, List.map_cons]; show stp M d .iand 1 (pc, clv, .int (oI (oZ + 31)) :: .int (σ 0) :: r.map (cvV σ), ph, nc, ns) = _; rw [show oI (oZ + 31) = 31 by decide]; simp [stp, x_ld, x_st, x_ar]) ?_
      rw [← hσ]
      exact go_len (st' := .inr (.inl 4) :: r) hC hI hA hlen hp he hH hL (fun o ho => ho)
  · exact ok_iandB hC hI hA he hH hL hd hlen hp
theorem ok_ladd (hC : CertAll) (hI : IHok σ ih) (hA : AtC mi M full (e :: rest) pc) (he : eOK σ env) (hH : HR σ h hn ph) (hL : LR σ lv clv)  (hd : decode (mC M) pc = .ok (.ladd, 1)) (hlen : e.2.2.2.2.2.1 = 1) (hp : p_lbin (fun a b => some ((a + b + oY) % oN)) ih e full rest lv st h hn nc ns env d = some l) : GoodR σ d mi pc clv (st.map (cvV σ)) ph nc ns l := by
  unfold p_lbin at hp
  split at hp
  case h_2 => cases hp
  rename_i b a r
  dsimp only at hp
  rw [fN_eq] at hp
  refine good_step hA.1 hd rfl rfl (pc' := pc + 1) (clv' := clv) (st' := .long (oL a + oL b) :: r.map (cvV σ)) (ph' := ph) (nc' := nc) (ns' := ns) (by rw [List.map_cons, List.map_cons]; simp [stp, x_ld, x_st, x_ar, cvV]) ?_
  rw [← oL_add]
  exact go_len (st' := .inr (.inr (.inl _)) :: r) hC hI hA hlen hp he hH hL (fun o ho => ho)
theorem ok_lmul (hC : CertAll) (hI : IHok σ ih) (hA : AtC mi M full (e :: rest) pc) (he : eOK σ env) (hH : HR σ h hn ph) (hL : LR σ lv clv)  (hd : decode (mC M) pc = .ok (.lmul, 1)) (hlen : e.2.2.2.2.2.1 = 1) (hp : p_lbin (fun a b => some (((a + oY) * (b + oY) + oY) % oN)) ih e full rest lv st h hn nc ns env d = some l) : GoodR σ d mi pc clv (st.map (cvV σ)) ph nc ns l := by
  unfold p_lbin at hp
  split at hp
  case h_2 => cases hp
  rename_i b a r
  dsimp only at hp
  rw [fN_eq] at hp
  refine good_step hA.1 hd rfl rfl (pc' := pc + 1) (clv' := clv) (st' := .long (oL a * oL b) :: r.map (cvV σ)) (ph' := ph) (nc' := nc) (ns' := ns) (by rw [List.map_cons, List.map_cons]; simp [stp, x_ld, x_st, x_ar, cvV]) ?_
  rw [← oL_mul]
  exact go_len (st' := .inr (.inr (.inl _)) :: r) hC hI hA hlen hp he hH hL (fun o ho => ho)
theorem ok_lsub (hC : CertAll) (hI : IHok σ ih) (hA : AtC mi M full (e :: rest) pc) (he : eOK σ env) (hH : HR σ h hn ph) (hL : LR σ lv clv)  (hd : decode (mC M) pc = .ok (.lsub, 1)) (hlen : e.2.2.2.2.2.1 = 1) (hp : p_lbin (fun a b => bif Nat.ble b oN then some ((a + (oN - b) + oY) % oN) else none) ih e full rest lv st h hn nc ns env d = some l) : GoodR σ d mi pc clv (st.map (cvV σ)) ph nc ns l := by
  unfold p_lbin at hp
  split at hp
  case h_2 => cases hp
  rename_i b a r
  dsimp only at hp
  cases hb : Nat.ble b oN with
  | false => rw [hb] at hp; cases hp
  | true =>
  rw [hb, cond_true] at hp
  dsimp only at hp
  rw [fN_eq] at hp
  refine good_step hA.1 hd rfl rfl (pc' := pc + 1) (clv' := clv) (st' := .long (oL a - oL b) :: r.map (cvV σ)) (ph' := ph) (nc' := nc) (ns' := ns) (by rw [List.map_cons, List.map_cons]; simp [stp, x_ld, x_st, x_ar, cvV]) ?_
  rw [← oL_sub (ble_of hb)]
  exact go_len (st' := .inr (.inr (.inl _)) :: r) hC hI hA hlen hp he hH hL (fun o ho => ho)
theorem oL_back {q : Nat} (h : q < oY) : oL (q + oY) = Int64.ofNat q := by
  unfold oL
  rw [Nat.add_assoc, show oY + oY = oN from rfl, oL_per]
theorem oL_pos {a : Nat} (h : oY ≤ a) (ha : a < oN) : oL a = Int64.ofNat (a - oY) ∧ a - oY < 2 ^ 63 := by
  have h1 : a - oY < oY := by unfold oN at ha; unfold oY at *; omega
  have h2 := oL_back h1
  rw [Nat.sub_add_cancel h] at h2
  exact ⟨h2, h1⟩
theorem oL_div {a b : Nat} (ha : oY ≤ a) (hb : oY < b) (ha2 : a < oN) (hb2 : b < oN) : oL ((a - oY) / (b - oY) + oY) = oL a / oL b ∧ ¬ oL b = 0 := by
  obtain ⟨e1, e2⟩ := oL_pos ha ha2
  obtain ⟨e3, e4⟩ := oL_pos (Nat.le_of_lt hb) hb2
  have h3 : (a - oY) / (b - oY) < oY := Nat.lt_of_le_of_lt (Nat.div_le_self _ _) e2
  rw [oL_back h3, e1, e3]
  refine ⟨(pk_lDiv e2 (by omega) e4).symm, fun z => ?_⟩
  have := (pk_lEQ e4 (b := 0) (by decide)).mp z
  omega
theorem st_ldiv {X Y : Int64} {r : List Value} (hne : ¬ Y = 0) : stp M d .ldiv 1 (pc, clv, .long Y :: .long X :: r, ph, nc, ns) = some (pc + 1, clv, .long (X / Y) :: r, ph, nc, ns) := by
  simp [stp, x_ld, x_st, x_ar, hne]
theorem ok_ldiv (hC : CertAll) (hI : IHok σ ih) (hA : AtC mi M full (e :: rest) pc) (he : eOK σ env) (hH : HR σ h hn ph) (hL : LR σ lv clv)  (hd : decode (mC M) pc = .ok (.ldiv, 1)) (hlen : e.2.2.2.2.2.1 = 1) (hp : p_lbin lD ih e full rest lv st h hn nc ns env d = some l) : GoodR σ d mi pc clv (st.map (cvV σ)) ph nc ns l := by
  unfold p_lbin at hp
  split at hp
  case h_2 => cases hp
  rename_i b a r
  unfold lD at hp
  cases hc : (Nat.ble oY a && Nat.blt oY b && Nat.blt a oN && Nat.blt b oN) with
  | false => rw [hc] at hp; cases hp
  | true =>
  rw [hc, cond_true] at hp
  dsimp only at hp
  rw [fN_eq] at hp
  simp only [Bool.and_eq_true] at hc
  obtain ⟨⟨⟨c1, c2⟩, c3⟩, c4⟩ := hc
  obtain ⟨g1, g2⟩ := oL_div (ble_of c1) (blt_iff.mp c2) (blt_iff.mp c3) (blt_iff.mp c4)
  generalize (a - oY) / (b - oY) + oY = w at hp g1
  refine good_step hA.1 hd rfl rfl (pc' := pc + 1) (clv' := clv) (st' := .long (oL a / oL b) :: r.map (cvV σ)) (ph' := ph) (nc' := nc) (ns' := ns) (by rw [List.map_cons, List.map_cons]; exact st_ldiv g2) ?_
  rw [← g1]
  exact go_len (st' := .inr (.inr (.inl w)) :: r) hC hI hA hlen hp he hH hL (fun o ho => ho)
theorem lg_cmp_oL {a b : Nat} (ha : a < oN) (hb : b < oN) : lg_cmp (oL a) (oL b) = if a = b then 0 else if a < b then -1 else 1 := by
  unfold lg_cmp
  show (if oL b < oL a then (1 : Int32) else if oL a = oL b then 0 else -1) = _
  simp only [oL_lt hb ha, oL_inj ha hb]
  by_cases h1 : a = b
  · rw [if_pos h1, if_neg (by omega), if_pos h1]
  · rw [if_neg h1]
    by_cases h2 : a < b
    · rw [if_pos h2, if_neg (by omega), if_neg h1]
    · rw [if_neg h2, if_pos (by omega), if_neg h1]
theorem ok_lcmp (hC : CertAll) (hI : IHok σ ih) (hA : AtC mi M full (e :: rest) pc) (he : eOK σ env) (hH : HR σ h hn ph) (hL : LR σ lv clv)  (hd : decode (mC M) pc = .ok (.lcmp, 1)) (hlen : e.2.2.2.2.2.1 = 1) (hp : p_lcmp ih e full rest lv st h hn nc ns env d = some l) : GoodR σ d mi pc clv (st.map (cvV σ)) ph nc ns l := by
  unfold p_lcmp at hp
  split at hp
  case h_2 => cases hp
  rename_i b a r
  cases hc : (Nat.blt a oN && Nat.blt b oN) with
  | false => rw [hc] at hp; cases hp
  | true =>
  rw [hc] at hp
  simp only [Bool.not_true, cond_false] at hp
  rw [Bool.and_eq_true] at hc
  have hcm := lg_cmp_oL (blt_iff.mp hc.1) (blt_iff.mp hc.2)
  refine good_step hA.1 hd rfl rfl (pc' := pc + 1) (clv' := clv) (st' := .int (lg_cmp (oL a) (oL b)) :: r.map (cvV σ)) (ph' := ph) (nc' := nc) (ns' := ns) (by rw [List.map_cons, List.map_cons]; simp [stp, x_ld, x_st, x_ar, cvV]) ?_
  rw [hcm]
  cases h1 : Nat.beq a b with
  | true =>
    rw [h1] at hp
    rw [if_pos (beq_of h1), ← oI_z]
    exact go_len (st' := .inl oZ :: r) hC hI hA hlen hp he hH hL (fun o ho => ho)
  | false =>
    rw [h1] at hp
    rw [if_neg (fun z => by subst z; simp at h1)]
    cases h2 : Nat.blt a b with
    | true =>
      rw [h2] at hp
      rw [if_pos (blt_iff.mp h2), show (-1 : Int32) = oI 2147483647 by decide]
      exact go_len (st' := .inl 2147483647 :: r) hC hI hA hlen hp he hH hL (fun o ho => ho)
    | false =>
      rw [h2] at hp
      rw [if_neg (fun z => by rw [blt_iff.mpr z] at h2; exact absurd h2 (by decide)), show (1 : Int32) = oI 2147483649 by decide]
      exact go_len (st' := .inl 2147483649 :: r) hC hI hA hlen hp he hH hL (fun o ho => ho)
theorem oI_i2l {a : Nat} (h : a < oM) : (oI a).toInt64 = oL (a + 9223372034707292160) := by
  apply Int64.toInt.inj
  have h1 : a + 9223372034707292160 < oN := by unfold oM at h; unfold oN; omega
  rw [Int32.toInt_toInt64, oI_toInt h, oL_toInt h1]
  omega
theorem oL_l2i (w : Nat) : (oL w).toInt32 = oI ((w + oZ) % oM) := by
  rw [oI_mod]
  show (lN (w + oY)).toInt32 = _
  rw [lN_i]
  unfold nI oI
  rw [← ofNat_mod32 (w + oY), ← ofNat_mod32 (w + oZ + oZ)]
  have e : (w + oY) % oM = (w + oZ + oZ) % oM := by unfold oY oM oZ; omega
  rw [e]
theorem ok_i2l (hC : CertAll) (hI : IHok σ ih) (hA : AtC mi M full (e :: rest) pc) (he : eOK σ env) (hH : HR σ h hn ph) (hL : LR σ lv clv)  (hd : decode (mC M) pc = .ok (.i2l, 1)) (hlen : e.2.2.2.2.2.1 = 1) (hp : p_i2l ih e full rest lv st h hn nc ns env d = some l) : GoodR σ d mi pc clv (st.map (cvV σ)) ph nc ns l := by
  unfold p_i2l at hp
  split at hp
  case h_2 => cases hp
  rename_i x r
  obtain ⟨a, env', l', h1, h2, h3, h4, h5⟩ := exK_ok hp he
  rw [fN_eq] at h4
  refine good_step hA.1 hd rfl rfl (pc' := pc + 1) (clv' := clv) (st' := .long (oI a).toInt64 :: r.map (cvV σ)) (ph' := ph) (nc' := nc) (ns' := ns) (by rw [List.map_cons, h1]; simp [stp, x_ld, x_st, x_ar]) ?_
  rw [oI_i2l h2]
  generalize a + 9223372034707292160 = w at h4
  exact go_len (st' := .inr (.inr (.inl w)) :: r) hC hI hA hlen h4 h3 hH hL h5
theorem ok_l2i (hC : CertAll) (hI : IHok σ ih) (hA : AtC mi M full (e :: rest) pc) (he : eOK σ env) (hH : HR σ h hn ph) (hL : LR σ lv clv)  (hd : decode (mC M) pc = .ok (.l2i, 1)) (hlen : e.2.2.2.2.2.1 = 1) (hp : p_l2i ih e full rest lv st h hn nc ns env d = some l) : GoodR σ d mi pc clv (st.map (cvV σ)) ph nc ns l := by
  unfold p_l2i at hp
  split at hp
  case h_2 => cases hp
  rename_i w r
  rw [fN_eq] at hp
  refine good_step hA.1 hd rfl rfl (pc' := pc + 1) (clv' := clv) (st' := .int (oL w).toInt32 :: r.map (cvV σ)) (ph' := ph) (nc' := nc) (ns' := ns) (by rw [List.map_cons]; simp [stp, x_ld, x_st, x_ar, cvV]) ?_
  rw [oL_l2i]
  exact go_len (st' := .inl ((w + oZ) % oM) :: r) hC hI hA hlen hp he hH hL (fun o ho => ho)
theorem ok_dup (hC : CertAll) (hI : IHok σ ih) (hA : AtC mi M full (e :: rest) pc) (he : eOK σ env) (hH : HR σ h hn ph) (hL : LR σ lv clv)  (hd : decode (mC M) pc = .ok (.dup, 1)) (hlen : e.2.2.2.2.2.1 = 1) (hp : p_dup ih e full rest lv st h hn nc ns env d = some l) : GoodR σ d mi pc clv (st.map (cvV σ)) ph nc ns l := by
  unfold p_dup at hp
  split at hp
  case h_2 => cases hp
  rename_i a r
  cases hc : isLo (some a) with
  | true => rw [hc] at hp; cases hp
  | false =>
  rw [hc] at hp
  have h1 := cvV_cat (σ := σ) hc
  refine good_step hA.1 hd rfl rfl (pc' := pc + 1) (clv' := clv) (st' := (a :: a :: r).map (cvV σ)) (ph' := ph) (nc' := nc) (ns' := ns) (by rw [List.map_cons]; simp [stp, x_ld, x_st, x_ar, h1]) ?_
  exact go_len (st' := a :: a :: r) hC hI hA hlen hp he hH hL (fun o ho => ho)
theorem ok_pop (hC : CertAll) (hI : IHok σ ih) (hA : AtC mi M full (e :: rest) pc) (he : eOK σ env) (hH : HR σ h hn ph) (hL : LR σ lv clv)  (hd : decode (mC M) pc = .ok (.pop, 1)) (hlen : e.2.2.2.2.2.1 = 1) (hp : p_pop ih e full rest lv st h hn nc ns env d = some l) : GoodR σ d mi pc clv (st.map (cvV σ)) ph nc ns l := by
  unfold p_pop at hp
  split at hp
  case h_2 => cases hp
  rename_i a r
  cases hc : isLo (some a) with
  | true => rw [hc] at hp; cases hp
  | false =>
  rw [hc] at hp
  have h1 := cvV_cat (σ := σ) hc
  refine good_step hA.1 hd rfl rfl (pc' := pc + 1) (clv' := clv) (st' := (r).map (cvV σ)) (ph' := ph) (nc' := nc) (ns' := ns) (by rw [List.map_cons]; simp [stp, x_ld, x_st, x_ar, h1]) ?_
  exact go_len (st' := r) hC hI hA hlen hp he hH hL (fun o ho => ho)
theorem ok_dup2 (hC : CertAll) (hI : IHok σ ih) (hA : AtC mi M full (e :: rest) pc) (he : eOK σ env) (hH : HR σ h hn ph) (hL : LR σ lv clv)  (hd : decode (mC M) pc = .ok (.dup2, 1)) (hlen : e.2.2.2.2.2.1 = 1) (hp : p_dup2 ih e full rest lv st h hn nc ns env d = some l) : GoodR σ d mi pc clv (st.map (cvV σ)) ph nc ns l := by
  unfold p_dup2 at hp
  split at hp
  case h_2 => cases hp
  rename_i a b r
  cases hc : (isLo (some a) || isLo (some b)) with
  | true => rw [hc] at hp; cases hp
  | false =>
  rw [hc] at hp
  rw [Bool.or_eq_false_iff] at hc
  have h1 := cvV_cat (σ := σ) hc.1
  have h2 := cvV_cat (σ := σ) hc.2
  refine good_step hA.1 hd rfl rfl (pc' := pc + 1) (clv' := clv) (st' := (a :: b :: a :: b :: r).map (cvV σ)) (ph' := ph) (nc' := nc) (ns' := ns) (by rw [List.map_cons, List.map_cons]; simp [stp, x_ld, x_st, x_ar, h1, h2]) ?_
  exact go_len (st' := a :: b :: a :: b :: r) hC hI hA hlen hp he hH hL (fun o ho => ho)
theorem ok_goto (hC : CertAll) (hI : IHok σ ih) (hA : AtC mi M full (e :: rest) pc) (he : eOK σ env) (hH : HR σ h hn ph) (hL : LR σ lv clv) {o : Int} (hj : jB full e.2.2.2.1 pc o = true) (hd : decode (mC M) pc = .ok (.goto o, 3)) (hlen : e.2.2.2.2.2.1 = 3) (hp : p_goto ih e full rest lv st h hn nc ns env d = some l) : GoodR σ d mi pc clv (st.map (cvV σ)) ph nc ns l := by
  unfold p_goto at hp
  obtain ⟨t, ht⟩ := jB_tg hj
  refine good_step hA.1 hd rfl rfl (pc' := t) (clv' := clv) (st' := st.map (cvV σ)) (ph' := ph) (nc' := nc) (ns' := ns) (by simp [stp, x_ld, x_st, x_ar, x_br, ht]) ?_
  exact go_jump hI hA.1 hA.2.1 hj ht hp he hH hL
theorem ok_ifnonnull (hC : CertAll) (hI : IHok σ ih) (hA : AtC mi M full (e :: rest) pc) (he : eOK σ env) (hH : HR σ h hn ph) (hL : LR σ lv clv) {o : Int} (hj : jB full e.2.2.2.1 pc o = true) (hd : decode (mC M) pc = .ok (.ifnonnull o, 3)) (hlen : e.2.2.2.2.2.1 = 3) (hp : p_ifnonnull ih e full rest lv st h hn nc ns env d = some l) : GoodR σ d mi pc clv (st.map (cvV σ)) ph nc ns l := by
  unfold p_ifnonnull at hp
  obtain ⟨t, ht⟩ := jB_tg hj
  split at hp
  · rename_i a r
    refine good_step hA.1 hd rfl rfl (pc' := t) (clv' := clv) (st' := r.map (cvV σ)) (ph' := ph) (nc' := nc) (ns' := ns) (by rw [List.map_cons]; simp [stp, x_ld, x_st, x_ar, x_br, ht, cvV]) ?_
    exact go_jump hI hA.1 hA.2.1 hj ht hp he hH hL
  · rename_i r
    refine good_step hA.1 hd rfl rfl (pc' := pc + 3) (clv' := clv) (st' := r.map (cvV σ)) (ph' := ph) (nc' := nc) (ns' := ns) (by rw [List.map_cons]; simp [stp, x_ld, x_st, x_ar, x_br, cvV]) ?_
    exact go_len hC hI hA hlen hp he hH hL (fun o ho => ho)
  · cases hp
theorem if_inv {neg lt sw : Bool} (hp : p_if neg lt sw ih e full rest lv st h hn nc ns env d = some l) (he : eOK σ env) : ∃ y x r X Y env' l', st = y :: x :: r ∧ cvV σ x = .int X ∧ cvV σ y = .int Y ∧ eOK σ env' ∧ (∀ o ∈ l', o ∈ l) ∧
    (((if lt = true then (if sw = true then decide (Y < X) else decide (X < Y)) else decide (X = Y)) = !neg ∧ ih full (full.drop e.2.2.2.1) lv r h hn nc ns env' d = some l') ∨ ((if lt = true then (if sw = true then decide (Y < X) else decide (X < Y)) else decide (X = Y)) = neg ∧ ih full rest lv r h hn nc ns env' d = some l')) := by
  unfold p_if at hp
  split at hp
  case h_2 => cases hp
  rename_i y x r
  dsimp only at hp
  cases lt with
  | true =>
    cases sw with
    | true =>
      cases neg with
      | true =>
        obtain ⟨X, Y, h1, h2, ⟨h3, env', l', h4, h5, h6⟩ | ⟨h3, env', l', h4, h5, h6⟩⟩ := ltK_ok (by simpa only [cond_true, cond_false] using hp) he
        · exact ⟨y, x, r, Y, X, env', l', rfl, h2, h1, h4, h6, Or.inr ⟨by simp [h3], h5⟩⟩
        · exact ⟨y, x, r, Y, X, env', l', rfl, h2, h1, h4, h6, Or.inl ⟨by simp [h3], h5⟩⟩
      | false =>
        obtain ⟨X, Y, h1, h2, ⟨h3, env', l', h4, h5, h6⟩ | ⟨h3, env', l', h4, h5, h6⟩⟩ := ltK_ok (by simpa only [cond_true, cond_false] using hp) he
        · exact ⟨y, x, r, Y, X, env', l', rfl, h2, h1, h4, h6, Or.inl ⟨by simp [h3], h5⟩⟩
        · exact ⟨y, x, r, Y, X, env', l', rfl, h2, h1, h4, h6, Or.inr ⟨by simp [h3], h5⟩⟩
    | false =>
      cases neg with
      | true =>
        obtain ⟨X, Y, h1, h2, ⟨h3, env', l', h4, h5, h6⟩ | ⟨h3, env', l', h4, h5, h6⟩⟩ := ltK_ok (by simpa only [cond_true, cond_false] using hp) he
        · exact ⟨y, x, r, X, Y, env', l', rfl, h1, h2, h4, h6, Or.inr ⟨by simp [h3], h5⟩⟩
        · exact ⟨y, x, r, X, Y, env', l', rfl, h1, h2, h4, h6, Or.inl ⟨by simp [h3], h5⟩⟩
      | false =>
        obtain ⟨X, Y, h1, h2, ⟨h3, env', l', h4, h5, h6⟩ | ⟨h3, env', l', h4, h5, h6⟩⟩ := ltK_ok (by simpa only [cond_true, cond_false] using hp) he
        · exact ⟨y, x, r, X, Y, env', l', rfl, h1, h2, h4, h6, Or.inl ⟨by simp [h3], h5⟩⟩
        · exact ⟨y, x, r, X, Y, env', l', rfl, h1, h2, h4, h6, Or.inr ⟨by simp [h3], h5⟩⟩
  | false =>
    cases sw with
    | true =>
      cases neg with
      | true =>
        obtain ⟨X, Y, h1, h2, ⟨h3, env', l', h4, h5, h6⟩ | ⟨h3, env', l', h4, h5, h6⟩⟩ := eqK_ok (by simpa only [cond_true, cond_false] using hp) he
        · exact ⟨y, x, r, Y, X, env', l', rfl, h2, h1, h4, h6, Or.inr ⟨by simp [h3], h5⟩⟩
        · exact ⟨y, x, r, Y, X, env', l', rfl, h2, h1, h4, h6, Or.inl ⟨by simp [Ne.symm h3], h5⟩⟩
      | false =>
        obtain ⟨X, Y, h1, h2, ⟨h3, env', l', h4, h5, h6⟩ | ⟨h3, env', l', h4, h5, h6⟩⟩ := eqK_ok (by simpa only [cond_true, cond_false] using hp) he
        · exact ⟨y, x, r, Y, X, env', l', rfl, h2, h1, h4, h6, Or.inl ⟨by simp [h3], h5⟩⟩
        · exact ⟨y, x, r, Y, X, env', l', rfl, h2, h1, h4, h6, Or.inr ⟨by simp [Ne.symm h3], h5⟩⟩
    | false =>
      cases neg with
      | true =>
        obtain ⟨X, Y, h1, h2, ⟨h3, env', l', h4, h5, h6⟩ | ⟨h3, env', l', h4, h5, h6⟩⟩ := eqK_ok (by simpa only [cond_true, cond_false] using hp) he
        · exact ⟨y, x, r, X, Y, env', l', rfl, h1, h2, h4, h6, Or.inr ⟨by simp [h3], h5⟩⟩
        · exact ⟨y, x, r, X, Y, env', l', rfl, h1, h2, h4, h6, Or.inl ⟨by simp [h3], h5⟩⟩
      | false =>
        obtain ⟨X, Y, h1, h2, ⟨h3, env', l', h4, h5, h6⟩ | ⟨h3, env', l', h4, h5, h6⟩⟩ := eqK_ok (by simpa only [cond_true, cond_false] using hp) he
        · exact ⟨y, x, r, X, Y, env', l', rfl, h1, h2, h4, h6, Or.inl ⟨by simp [h3], h5⟩⟩
        · exact ⟨y, x, r, X, Y, env', l', rfl, h1, h2, h4, h6, Or.inr ⟨by simp [h3], h5⟩⟩
theorem ok_icmp_eq (hC : CertAll) (hI : IHok σ ih) (hA : AtC mi M full (e :: rest) pc) (he : eOK σ env) (hH : HR σ h hn ph) (hL : LR σ lv clv) {o : Int} (hj : jB full e.2.2.2.1 pc o = true) (hd : decode (mC M) pc = .ok (.if_icmp .eq o, 3)) (hlen : e.2.2.2.2.2.1 = 3) (hp : p_if false false false ih e full rest lv st h hn nc ns env d = some l) : GoodR σ d mi pc clv (st.map (cvV σ)) ph nc ns l := by
  obtain ⟨t, ht⟩ := jB_tg hj
  obtain ⟨y, x, r, X, Y, env', l', rfl, h1, h2, h3, h4, ⟨h6, h7⟩ | ⟨h6, h7⟩⟩ := if_inv hp he
  · have h8 : X = Y := by simpa using h6
    refine good_step hA.1 hd rfl rfl (pc' := t) (clv' := clv) (st' := r.map (cvV σ)) (ph' := ph) (nc' := nc) (ns' := ns) (by rw [List.map_cons, List.map_cons, h1, h2]; simp [stp, x_ld, x_st, x_ar, x_br, goB, ht, h8]) ?_
    exact (go_jump hI hA.1 hA.2.1 hj ht h7 h3 hH hL).mono h4
  · have h8 : ¬ (X = Y) := by simpa using h6
    refine good_step hA.1 hd rfl rfl (pc' := pc + 3) (clv' := clv) (st' := r.map (cvV σ)) (ph' := ph) (nc' := nc) (ns' := ns) (by rw [List.map_cons, List.map_cons, h1, h2]; simp [stp, x_ld, x_st, x_ar, x_br, goB, ht, h8]) ?_
    exact go_len hC hI hA hlen h7 h3 hH hL h4
theorem ok_if_eq (hC : CertAll) (hI : IHok σ ih) (hA : AtC mi M full (e :: rest) pc) (he : eOK σ env) (hH : HR σ h hn ph) (hL : LR σ lv clv) {o : Int} (hj : jB full e.2.2.2.1 pc o = true) (hd : decode (mC M) pc = .ok (.ifCond .eq o, 3)) (hlen : e.2.2.2.2.2.1 = 3) (hp : p_if0 (p_if false false false) ih e full rest lv st h hn nc ns env d = some l) : GoodR σ d mi pc clv (st.map (cvV σ)) ph nc ns l := by
  obtain ⟨t, ht⟩ := jB_tg hj
  unfold p_if0 at hp
  obtain ⟨y, x, r, X, Y, env', l', hst, h1, h2, h3, h4, h5⟩ := if_inv hp he
  cases hst
  have hY : Y = 0 := by
    have : Value.int (oI oZ) = Value.int Y := h2
    rw [oI_z] at this
    exact (Value.int.inj this).symm
  subst hY
  rcases h5 with ⟨h6, h7⟩ | ⟨h6, h7⟩
  · have h8 : X = 0 := by simpa using h6
    refine good_step hA.1 hd rfl rfl (pc' := t) (clv' := clv) (st' := r.map (cvV σ)) (ph' := ph) (nc' := nc) (ns' := ns) (by rw [List.map_cons, h1]; simp [stp, x_ld, x_st, x_ar, x_br, goB, ht, h8]) ?_
    exact (go_jump hI hA.1 hA.2.1 hj ht h7 h3 hH hL).mono h4
  · have h8 : ¬ (X = 0) := by simpa using h6
    refine good_step hA.1 hd rfl rfl (pc' := pc + 3) (clv' := clv) (st' := r.map (cvV σ)) (ph' := ph) (nc' := nc) (ns' := ns) (by rw [List.map_cons, h1]; simp [stp, x_ld, x_st, x_ar, x_br, goB, ht, h8]) ?_
    exact go_len hC hI hA hlen h7 h3 hH hL h4
theorem ok_icmp_ne (hC : CertAll) (hI : IHok σ ih) (hA : AtC mi M full (e :: rest) pc) (he : eOK σ env) (hH : HR σ h hn ph) (hL : LR σ lv clv) {o : Int} (hj : jB full e.2.2.2.1 pc o = true) (hd : decode (mC M) pc = .ok (.if_icmp .ne o, 3)) (hlen : e.2.2.2.2.2.1 = 3) (hp : p_if true false false ih e full rest lv st h hn nc ns env d = some l) : GoodR σ d mi pc clv (st.map (cvV σ)) ph nc ns l := by
  obtain ⟨t, ht⟩ := jB_tg hj
  obtain ⟨y, x, r, X, Y, env', l', rfl, h1, h2, h3, h4, ⟨h6, h7⟩ | ⟨h6, h7⟩⟩ := if_inv hp he
  · have h8 : ¬ X = Y := by simpa using h6
    refine good_step hA.1 hd rfl rfl (pc' := t) (clv' := clv) (st' := r.map (cvV σ)) (ph' := ph) (nc' := nc) (ns' := ns) (by rw [List.map_cons, List.map_cons, h1, h2]; simp [stp, x_ld, x_st, x_ar, x_br, goB, ht, h8]) ?_
    exact (go_jump hI hA.1 hA.2.1 hj ht h7 h3 hH hL).mono h4
  · have h8 : ¬ (¬ X = Y) := by simpa using h6
    refine good_step hA.1 hd rfl rfl (pc' := pc + 3) (clv' := clv) (st' := r.map (cvV σ)) (ph' := ph) (nc' := nc) (ns' := ns) (by rw [List.map_cons, List.map_cons, h1, h2]; simp [stp, x_ld, x_st, x_ar, x_br, goB, ht, h8]) ?_
    exact go_len hC hI hA hlen h7 h3 hH hL h4
theorem ok_if_ne (hC : CertAll) (hI : IHok σ ih) (hA : AtC mi M full (e :: rest) pc) (he : eOK σ env) (hH : HR σ h hn ph) (hL : LR σ lv clv) {o : Int} (hj : jB full e.2.2.2.1 pc o = true) (hd : decode (mC M) pc = .ok (.ifCond .ne o, 3)) (hlen : e.2.2.2.2.2.1 = 3) (hp : p_if0 (p_if true false false) ih e full rest lv st h hn nc ns env d = some l) : GoodR σ d mi pc clv (st.map (cvV σ)) ph nc ns l := by
  obtain ⟨t, ht⟩ := jB_tg hj
  unfold p_if0 at hp
  obtain ⟨y, x, r, X, Y, env', l', hst, h1, h2, h3, h4, h5⟩ := if_inv hp he
  cases hst
  have hY : Y = 0 := by
    have : Value.int (oI oZ) = Value.int Y := h2
    rw [oI_z] at this
    exact (Value.int.inj this).symm
  subst hY
  rcases h5 with ⟨h6, h7⟩ | ⟨h6, h7⟩
  · have h8 : ¬ X = 0 := by simpa using h6
    refine good_step hA.1 hd rfl rfl (pc' := t) (clv' := clv) (st' := r.map (cvV σ)) (ph' := ph) (nc' := nc) (ns' := ns) (by rw [List.map_cons, h1]; simp [stp, x_ld, x_st, x_ar, x_br, goB, ht, h8]) ?_
    exact (go_jump hI hA.1 hA.2.1 hj ht h7 h3 hH hL).mono h4
  · have h8 : ¬ (¬ X = 0) := by simpa using h6
    refine good_step hA.1 hd rfl rfl (pc' := pc + 3) (clv' := clv) (st' := r.map (cvV σ)) (ph' := ph) (nc' := nc) (ns' := ns) (by rw [List.map_cons, h1]; simp [stp, x_ld, x_st, x_ar, x_br, goB, ht, h8]) ?_
    exact go_len hC hI hA hlen h7 h3 hH hL h4
theorem ok_icmp_lt (hC : CertAll) (hI : IHok σ ih) (hA : AtC mi M full (e :: rest) pc) (he : eOK σ env) (hH : HR σ h hn ph) (hL : LR σ lv clv) {o : Int} (hj : jB full e.2.2.2.1 pc o = true) (hd : decode (mC M) pc = .ok (.if_icmp .lt o, 3)) (hlen : e.2.2.2.2.2.1 = 3) (hp : p_if false true false ih e full rest lv st h hn nc ns env d = some l) : GoodR σ d mi pc clv (st.map (cvV σ)) ph nc ns l := by
  obtain ⟨t, ht⟩ := jB_tg hj
  obtain ⟨y, x, r, X, Y, env', l', rfl, h1, h2, h3, h4, ⟨h6, h7⟩ | ⟨h6, h7⟩⟩ := if_inv hp he
  · have h8 : X < Y := by simpa using h6
    refine good_step hA.1 hd rfl rfl (pc' := t) (clv' := clv) (st' := r.map (cvV σ)) (ph' := ph) (nc' := nc) (ns' := ns) (by rw [List.map_cons, List.map_cons, h1, h2]; simp [stp, x_ld, x_st, x_ar, x_br, goB, ht, h8]) ?_
    exact (go_jump hI hA.1 hA.2.1 hj ht h7 h3 hH hL).mono h4
  · have h8 : ¬ (X < Y) := by simpa using h6
    refine good_step hA.1 hd rfl rfl (pc' := pc + 3) (clv' := clv) (st' := r.map (cvV σ)) (ph' := ph) (nc' := nc) (ns' := ns) (by rw [List.map_cons, List.map_cons, h1, h2]; simp [stp, x_ld, x_st, x_ar, x_br, goB, ht, h8]) ?_
    exact go_len hC hI hA hlen h7 h3 hH hL h4
theorem ok_if_lt (hC : CertAll) (hI : IHok σ ih) (hA : AtC mi M full (e :: rest) pc) (he : eOK σ env) (hH : HR σ h hn ph) (hL : LR σ lv clv) {o : Int} (hj : jB full e.2.2.2.1 pc o = true) (hd : decode (mC M) pc = .ok (.ifCond .lt o, 3)) (hlen : e.2.2.2.2.2.1 = 3) (hp : p_if0 (p_if false true false) ih e full rest lv st h hn nc ns env d = some l) : GoodR σ d mi pc clv (st.map (cvV σ)) ph nc ns l := by
  obtain ⟨t, ht⟩ := jB_tg hj
  unfold p_if0 at hp
  obtain ⟨y, x, r, X, Y, env', l', hst, h1, h2, h3, h4, h5⟩ := if_inv hp he
  cases hst
  have hY : Y = 0 := by
    have : Value.int (oI oZ) = Value.int Y := h2
    rw [oI_z] at this
    exact (Value.int.inj this).symm
  subst hY
  rcases h5 with ⟨h6, h7⟩ | ⟨h6, h7⟩
  · have h8 : X < 0 := by simpa using h6
    refine good_step hA.1 hd rfl rfl (pc' := t) (clv' := clv) (st' := r.map (cvV σ)) (ph' := ph) (nc' := nc) (ns' := ns) (by rw [List.map_cons, h1]; simp [stp, x_ld, x_st, x_ar, x_br, goB, ht, h8]) ?_
    exact (go_jump hI hA.1 hA.2.1 hj ht h7 h3 hH hL).mono h4
  · have h8 : ¬ (X < 0) := by simpa using h6
    refine good_step hA.1 hd rfl rfl (pc' := pc + 3) (clv' := clv) (st' := r.map (cvV σ)) (ph' := ph) (nc' := nc) (ns' := ns) (by rw [List.map_cons, h1]; simp [stp, x_ld, x_st, x_ar, x_br, goB, ht, h8]) ?_
    exact go_len hC hI hA hlen h7 h3 hH hL h4
theorem ok_icmp_ge (hC : CertAll) (hI : IHok σ ih) (hA : AtC mi M full (e :: rest) pc) (he : eOK σ env) (hH : HR σ h hn ph) (hL : LR σ lv clv) {o : Int} (hj : jB full e.2.2.2.1 pc o = true) (hd : decode (mC M) pc = .ok (.if_icmp .ge o, 3)) (hlen : e.2.2.2.2.2.1 = 3) (hp : p_if true true false ih e full rest lv st h hn nc ns env d = some l) : GoodR σ d mi pc clv (st.map (cvV σ)) ph nc ns l := by
  obtain ⟨t, ht⟩ := jB_tg hj
  obtain ⟨y, x, r, X, Y, env', l', rfl, h1, h2, h3, h4, ⟨h6, h7⟩ | ⟨h6, h7⟩⟩ := if_inv hp he
  · have h8 : Y ≤ X := by simpa [Int32.not_lt] using h6
    refine good_step hA.1 hd rfl rfl (pc' := t) (clv' := clv) (st' := r.map (cvV σ)) (ph' := ph) (nc' := nc) (ns' := ns) (by rw [List.map_cons, List.map_cons, h1, h2]; simp [stp, x_ld, x_st, x_ar, x_br, goB, ht, h8]) ?_
    exact (go_jump hI hA.1 hA.2.1 hj ht h7 h3 hH hL).mono h4
  · have h8 : ¬ (Y ≤ X) := by simpa [Int32.not_le] using h6
    refine good_step hA.1 hd rfl rfl (pc' := pc + 3) (clv' := clv) (st' := r.map (cvV σ)) (ph' := ph) (nc' := nc) (ns' := ns) (by rw [List.map_cons, List.map_cons, h1, h2]; simp [stp, x_ld, x_st, x_ar, x_br, goB, ht, h8]) ?_
    exact go_len hC hI hA hlen h7 h3 hH hL h4
theorem ok_if_ge (hC : CertAll) (hI : IHok σ ih) (hA : AtC mi M full (e :: rest) pc) (he : eOK σ env) (hH : HR σ h hn ph) (hL : LR σ lv clv) {o : Int} (hj : jB full e.2.2.2.1 pc o = true) (hd : decode (mC M) pc = .ok (.ifCond .ge o, 3)) (hlen : e.2.2.2.2.2.1 = 3) (hp : p_if0 (p_if true true false) ih e full rest lv st h hn nc ns env d = some l) : GoodR σ d mi pc clv (st.map (cvV σ)) ph nc ns l := by
  obtain ⟨t, ht⟩ := jB_tg hj
  unfold p_if0 at hp
  obtain ⟨y, x, r, X, Y, env', l', hst, h1, h2, h3, h4, h5⟩ := if_inv hp he
  cases hst
  have hY : Y = 0 := by
    have : Value.int (oI oZ) = Value.int Y := h2
    rw [oI_z] at this
    exact (Value.int.inj this).symm
  subst hY
  rcases h5 with ⟨h6, h7⟩ | ⟨h6, h7⟩
  · have h8 : 0 ≤ X := by simpa [Int32.not_lt] using h6
    refine good_step hA.1 hd rfl rfl (pc' := t) (clv' := clv) (st' := r.map (cvV σ)) (ph' := ph) (nc' := nc) (ns' := ns) (by rw [List.map_cons, h1]; simp [stp, x_ld, x_st, x_ar, x_br, goB, ht, h8]) ?_
    exact (go_jump hI hA.1 hA.2.1 hj ht h7 h3 hH hL).mono h4
  · have h8 : ¬ (0 ≤ X) := by simpa [Int32.not_le] using h6
    refine good_step hA.1 hd rfl rfl (pc' := pc + 3) (clv' := clv) (st' := r.map (cvV σ)) (ph' := ph) (nc' := nc) (ns' := ns) (by rw [List.map_cons, h1]; simp [stp, x_ld, x_st, x_ar, x_br, goB, ht, h8]) ?_
    exact go_len hC hI hA hlen h7 h3 hH hL h4
theorem ok_icmp_gt (hC : CertAll) (hI : IHok σ ih) (hA : AtC mi M full (e :: rest) pc) (he : eOK σ env) (hH : HR σ h hn ph) (hL : LR σ lv clv) {o : Int} (hj : jB full e.2.2.2.1 pc o = true) (hd : decode (mC M) pc = .ok (.if_icmp .gt o, 3)) (hlen : e.2.2.2.2.2.1 = 3) (hp : p_if false true true ih e full rest lv st h hn nc ns env d = some l) : GoodR σ d mi pc clv (st.map (cvV σ)) ph nc ns l := by
  obtain ⟨t, ht⟩ := jB_tg hj
  obtain ⟨y, x, r, X, Y, env', l', rfl, h1, h2, h3, h4, ⟨h6, h7⟩ | ⟨h6, h7⟩⟩ := if_inv hp he
  · have h8 : Y < X := by simpa using h6
    refine good_step hA.1 hd rfl rfl (pc' := t) (clv' := clv) (st' := r.map (cvV σ)) (ph' := ph) (nc' := nc) (ns' := ns) (by rw [List.map_cons, List.map_cons, h1, h2]; simp [stp, x_ld, x_st, x_ar, x_br, goB, ht, h8]) ?_
    exact (go_jump hI hA.1 hA.2.1 hj ht h7 h3 hH hL).mono h4
  · have h8 : ¬ (Y < X) := by simpa using h6
    refine good_step hA.1 hd rfl rfl (pc' := pc + 3) (clv' := clv) (st' := r.map (cvV σ)) (ph' := ph) (nc' := nc) (ns' := ns) (by rw [List.map_cons, List.map_cons, h1, h2]; simp [stp, x_ld, x_st, x_ar, x_br, goB, ht, h8]) ?_
    exact go_len hC hI hA hlen h7 h3 hH hL h4
theorem ok_if_gt (hC : CertAll) (hI : IHok σ ih) (hA : AtC mi M full (e :: rest) pc) (he : eOK σ env) (hH : HR σ h hn ph) (hL : LR σ lv clv) {o : Int} (hj : jB full e.2.2.2.1 pc o = true) (hd : decode (mC M) pc = .ok (.ifCond .gt o, 3)) (hlen : e.2.2.2.2.2.1 = 3) (hp : p_if0 (p_if false true true) ih e full rest lv st h hn nc ns env d = some l) : GoodR σ d mi pc clv (st.map (cvV σ)) ph nc ns l := by
  obtain ⟨t, ht⟩ := jB_tg hj
  unfold p_if0 at hp
  obtain ⟨y, x, r, X, Y, env', l', hst, h1, h2, h3, h4, h5⟩ := if_inv hp he
  cases hst
  have hY : Y = 0 := by
    have : Value.int (oI oZ) = Value.int Y := h2
    rw [oI_z] at this
    exact (Value.int.inj this).symm
  subst hY
  rcases h5 with ⟨h6, h7⟩ | ⟨h6, h7⟩
  · have h8 : 0 < X := by simpa using h6
    refine good_step hA.1 hd rfl rfl (pc' := t) (clv' := clv) (st' := r.map (cvV σ)) (ph' := ph) (nc' := nc) (ns' := ns) (by rw [List.map_cons, h1]; simp [stp, x_ld, x_st, x_ar, x_br, goB, ht, h8]) ?_
    exact (go_jump hI hA.1 hA.2.1 hj ht h7 h3 hH hL).mono h4
  · have h8 : ¬ (0 < X) := by simpa using h6
    refine good_step hA.1 hd rfl rfl (pc' := pc + 3) (clv' := clv) (st' := r.map (cvV σ)) (ph' := ph) (nc' := nc) (ns' := ns) (by rw [List.map_cons, h1]; simp [stp, x_ld, x_st, x_ar, x_br, goB, ht, h8]) ?_
    exact go_len hC hI hA hlen h7 h3 hH hL h4
theorem ok_icmp_le (hC : CertAll) (hI : IHok σ ih) (hA : AtC mi M full (e :: rest) pc) (he : eOK σ env) (hH : HR σ h hn ph) (hL : LR σ lv clv) {o : Int} (hj : jB full e.2.2.2.1 pc o = true) (hd : decode (mC M) pc = .ok (.if_icmp .le o, 3)) (hlen : e.2.2.2.2.2.1 = 3) (hp : p_if true true true ih e full rest lv st h hn nc ns env d = some l) : GoodR σ d mi pc clv (st.map (cvV σ)) ph nc ns l := by
  obtain ⟨t, ht⟩ := jB_tg hj
  obtain ⟨y, x, r, X, Y, env', l', rfl, h1, h2, h3, h4, ⟨h6, h7⟩ | ⟨h6, h7⟩⟩ := if_inv hp he
  · have h8 : X ≤ Y := by simpa [Int32.not_lt] using h6
    refine good_step hA.1 hd rfl rfl (pc' := t) (clv' := clv) (st' := r.map (cvV σ)) (ph' := ph) (nc' := nc) (ns' := ns) (by rw [List.map_cons, List.map_cons, h1, h2]; simp [stp, x_ld, x_st, x_ar, x_br, goB, ht, h8]) ?_
    exact (go_jump hI hA.1 hA.2.1 hj ht h7 h3 hH hL).mono h4
  · have h8 : ¬ (X ≤ Y) := by simpa [Int32.not_le] using h6
    refine good_step hA.1 hd rfl rfl (pc' := pc + 3) (clv' := clv) (st' := r.map (cvV σ)) (ph' := ph) (nc' := nc) (ns' := ns) (by rw [List.map_cons, List.map_cons, h1, h2]; simp [stp, x_ld, x_st, x_ar, x_br, goB, ht, h8]) ?_
    exact go_len hC hI hA hlen h7 h3 hH hL h4
theorem ok_if_le (hC : CertAll) (hI : IHok σ ih) (hA : AtC mi M full (e :: rest) pc) (he : eOK σ env) (hH : HR σ h hn ph) (hL : LR σ lv clv) {o : Int} (hj : jB full e.2.2.2.1 pc o = true) (hd : decode (mC M) pc = .ok (.ifCond .le o, 3)) (hlen : e.2.2.2.2.2.1 = 3) (hp : p_if0 (p_if true true true) ih e full rest lv st h hn nc ns env d = some l) : GoodR σ d mi pc clv (st.map (cvV σ)) ph nc ns l := by
  obtain ⟨t, ht⟩ := jB_tg hj
  unfold p_if0 at hp
  obtain ⟨y, x, r, X, Y, env', l', hst, h1, h2, h3, h4, h5⟩ := if_inv hp he
  cases hst
  have hY : Y = 0 := by
    have : Value.int (oI oZ) = Value.int Y := h2
    rw [oI_z] at this
    exact (Value.int.inj this).symm
  subst hY
  rcases h5 with ⟨h6, h7⟩ | ⟨h6, h7⟩
  · have h8 : X ≤ 0 := by simpa [Int32.not_lt] using h6
    refine good_step hA.1 hd rfl rfl (pc' := t) (clv' := clv) (st' := r.map (cvV σ)) (ph' := ph) (nc' := nc) (ns' := ns) (by rw [List.map_cons, h1]; simp [stp, x_ld, x_st, x_ar, x_br, goB, ht, h8]) ?_
    exact (go_jump hI hA.1 hA.2.1 hj ht h7 h3 hH hL).mono h4
  · have h8 : ¬ (X ≤ 0) := by simpa [Int32.not_le] using h6
    refine good_step hA.1 hd rfl rfl (pc' := pc + 3) (clv' := clv) (st' := r.map (cvV σ)) (ph' := ph) (nc' := nc) (ns' := ns) (by rw [List.map_cons, h1]; simp [stp, x_ld, x_st, x_ar, x_br, goB, ht, h8]) ?_
    exact go_len hC hI hA hlen h7 h3 hH hL h4
end OS

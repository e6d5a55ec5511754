/-! ===== arithmetic of the evaluator ===== -/
section OR
variable {σ : Nat → Int32}
variable {ih : CB} {e : CE} {full rest : List CE} {lv : List (Option AV)} {st : List AV} {h : HT} {hn nc ns d mi pc : Nat} {env : EV} {l : List CO} {M : MR} {clv : PV} {ph : PH}
theorem bin_ok {f : Nat → Nat → EV → CR} {x y : AV} {other : Option CR} (hp : bin f x y env other = some l) (he : eOK σ env) :
    (∃ a b env' l', cvV σ x = .int (oI a) ∧ a < oM ∧ cvV σ y = .int (oI b) ∧ b < oM ∧ eOK σ env' ∧ f a b env' = some l' ∧ ∀ o ∈ l', o ∈ l) ∨ (∃ r, other = some r ∧ r = some l) := by
  have key : (exK x env fun a env => exK y env fun b env => f a b env) = some l → ∃ a b env' l', cvV σ x = .int (oI a) ∧ a < oM ∧ cvV σ y = .int (oI b) ∧ b < oM ∧ eOK σ env' ∧ f a b env' = some l' ∧ ∀ o ∈ l', o ∈ l := by
    intro hk
    obtain ⟨a, env1, l1, a1, a2, a3, a4, a5⟩ := exK_ok hk he
    obtain ⟨b, env2, l2, b1, b2, b3, b4, b5⟩ := exK_ok a4 a3
    exact ⟨a, b, env2, l2, a1, a2, b1, b2, b3, b4, fun o ho => a5 o (b5 o ho)⟩
  unfold bin at hp
  cases hx : vK x env with
  | some a =>
    rw [hx] at hp
    dsimp only at hp
    cases hy : vK y env with
    | some b =>
      rw [hy] at hp
      obtain ⟨a1, a2⟩ := vK_ok he hx
      obtain ⟨b1, b2⟩ := vK_ok he hy
      exact Or.inl ⟨a, b, env, l, a1, a2, b1, b2, he, hp, fun o ho => ho⟩
    | none =>
      rw [hy] at hp
      dsimp only at hp
      cases other with
      | some r => exact Or.inr ⟨r, rfl, hp⟩
      | none => exact Or.inl (key hp)
  | none =>
    rw [hx] at hp
    dsimp only at hp
    cases other with
    | some r => exact Or.inr ⟨r, rfl, hp⟩
    | none => exact Or.inl (key hp)
theorem oI_z : oI oZ = 0 := by decide
theorem oI_one : oI (oZ + 1) = 1 := by decide
theorem oI_back {q : Nat} (h : q < oZ) : oI (q + oZ) = nI q := by
  unfold oZ at h
  rw [oI_pos (by unfold oZ; omega) (by unfold oZ oM; omega), Nat.add_sub_cancel]
theorem pos_sub {a : Nat} (h : a < oM) : a - oZ < 2 ^ 31 := by unfold oM at h; unfold oZ; omega
theorem oI_div {a b : Nat} (ha : oZ ≤ a) (hb : oZ < b) (ha2 : a < oM) (hb2 : b < oM) : oI ((a - oZ) / (b - oZ) + oZ) = oI a / oI b ∧ ¬ oI b = 0 := by
  have h1 := pos_sub ha2
  have h2 := pos_sub hb2
  have h3 : (a - oZ) / (b - oZ) < oZ := Nat.lt_of_le_of_lt (Nat.div_le_self _ _) h1
  rw [oI_back h3, oI_pos ha ha2, oI_pos (Nat.le_of_lt hb) hb2, pk_div h1 (by omega) h2]
  exact ⟨rfl, nI_ne0 (by omega) h2⟩
theorem oI_rem {a b : Nat} (ha : oZ ≤ a) (hb : oZ < b) (ha2 : a < oM) (hb2 : b < oM) : oI ((a - oZ) % (b - oZ) + oZ) = oI a - oI a / oI b * oI b ∧ ¬ oI b = 0 := by
  have h1 := pos_sub ha2
  have h2 := pos_sub hb2
  have h3 : (a - oZ) % (b - oZ) < oZ := Nat.lt_of_lt_of_le (Nat.mod_lt _ (by omega)) (Nat.le_of_lt h2)
  rw [oI_back h3, oI_pos ha ha2, oI_pos (Nat.le_of_lt hb) hb2, pk_rem h1 (by omega) h2]
  exact ⟨rfl, nI_ne0 (by omega) h2⟩
theorem st_idiv {X Y : Int32} {r : List Value} (hne : ¬ Y = 0) : stp M d .idiv 1 (pc, clv, .int Y :: .int X :: r, ph, nc, ns) = some (pc + 1, clv, .int (X / Y) :: r, ph, nc, ns) := by
  simp [stp, x_ld, x_st, x_ar, hne]
theorem st_irem {X Y : Int32} {r : List Value} (hne : ¬ Y = 0) : stp M d .irem 1 (pc, clv, .int Y :: .int X :: r, ph, nc, ns) = some (pc + 1, clv, .int (X - X / Y * Y) :: r, ph, nc, ns) := by
  simp [stp, x_ld, x_st, x_ar, hne]
theorem one_ne : ¬ (1 : Int32) = 0 := by decide
theorem ok_iadd (hC : CertAll) (hI : IHok σ ih) (hA : AtC mi M full (e :: rest) pc) (he : eOK σ env) (hH : HR σ h hn ph) (hL : LR σ lv clv)  (hd : decode (mC M) pc = .ok (.iadd, 1)) (hlen : e.2.2.2.2.2.1 = 1) (hp : p_iadd ih e full rest lv st h hn nc ns env d = some l) : GoodR σ d mi pc clv (st.map (cvV σ)) ph nc ns l := by
  unfold p_iadd at hp
  split at hp
  case h_2 => cases hp
  rename_i y x r
  rcases bin_ok hp he with ⟨a, b, env', l', h1, h2, h3, h4, h5, h6, h7⟩ | ⟨q, h1, h2⟩
  · rw [fN_eq] at h6
    refine good_step hA.1 hd rfl rfl (pc' := pc + 1) (clv' := clv) (st' := .int (oI a + oI b) :: r.map (cvV σ)) (ph' := ph) (nc' := nc) (ns' := ns) (by rw [List.map_cons, List.map_cons, h1, h3]; simp [stp, x_ld, x_st, x_ar]) ?_
    rw [← oI_add]
    exact go_len hC hI hA hlen h6 h5 hH hL h7
  · cases hx : vK x env with
    | some a =>
      rw [hx] at h1
      cases hy : vK y env with
      | some b => rw [hy] at h1; simp at h1
      | none =>
        rw [hy] at h1
        cases hs : symOf y with
        | none => rw [hs] at h1; simp at h1
        | some k =>
          rw [hs] at h1
          dsimp only at h1
          cases hz : Nat.beq a oZ with
          | false => rw [hz] at h1; cases h1
          | true =>
            rw [hz] at h1
            cases h1
            have hav := (vK_ok he hx).1
            rw [beq_of hz, oI_z] at hav
            obtain ⟨hk, hky⟩ := symOf_ok (σ := σ) hs
            refine good_step hA.1 hd rfl rfl (pc' := pc + 1) (clv' := clv) (st' := .int (0 + σ k) :: r.map (cvV σ)) (ph' := ph) (nc' := nc) (ns' := ns) (by rw [List.map_cons, List.map_cons, hav, hk]; simp [stp, x_ld, x_st, x_ar, cvV]) ?_
            rw [Int32.zero_add]
            exact go_len (st' := .inr (.inl k) :: r) hC hI hA hlen h2 he hH hL (fun o ho => ho)
    | none =>
      rw [hx] at h1
      cases hy : vK y env with
      | none => rw [hy] at h1; simp at h1
      | some b =>
        rw [hy] at h1
        cases hs : symOf x with
        | none => rw [hs] at h1; simp at h1
        | some k =>
          rw [hs] at h1
          dsimp only at h1
          cases hz : Nat.beq b oZ with
          | false => rw [hz] at h1; cases h1
          | true =>
            rw [hz] at h1
            cases h1
            have hbv := (vK_ok he hy).1
            rw [beq_of hz, oI_z] at hbv
            obtain ⟨hk, hkx⟩ := symOf_ok (σ := σ) hs
            refine good_step hA.1 hd rfl rfl (pc' := pc + 1) (clv' := clv) (st' := .int (σ k + 0) :: r.map (cvV σ)) (ph' := ph) (nc' := nc) (ns' := ns) (by rw [List.map_cons, List.map_cons, hbv, hk]; simp [stp, x_ld, x_st, x_ar, cvV]) ?_
            rw [Int32.add_zero]
            exact go_len (st' := .inr (.inl k) :: r) hC hI hA hlen h2 he hH hL (fun o ho => ho)
theorem ok_isub (hC : CertAll) (hI : IHok σ ih) (hA : AtC mi M full (e :: rest) pc) (he : eOK σ env) (hH : HR σ h hn ph) (hL : LR σ lv clv)  (hd : decode (mC M) pc = .ok (.isub, 1)) (hlen : e.2.2.2.2.2.1 = 1) (hp : p_isub ih e full rest lv st h hn nc ns env d = some l) : GoodR σ d mi pc clv (st.map (cvV σ)) ph nc ns l := by
  unfold p_isub at hp
  split at hp
  case h_2 => cases hp
  rename_i y x r
  rcases bin_ok hp he with ⟨a, b, env', l', h1, h2, h3, h4, h5, h6, h7⟩ | ⟨q, h1, h2⟩
  · rw [fN_eq] at h6
    refine good_step hA.1 hd rfl rfl (pc' := pc + 1) (clv' := clv) (st' := .int (oI a - oI b) :: r.map (cvV σ)) (ph' := ph) (nc' := nc) (ns' := ns) (by rw [List.map_cons, List.map_cons, h1, h3]; simp [stp, x_ld, x_st, x_ar]) ?_
    rw [← oI_sub (Nat.le_of_lt h4)]
    exact go_len hC hI hA hlen h6 h5 hH hL h7
  · cases hy : vK y env with
    | none => 
      rw [hy] at h1
      cases hs : symOf x with
      | none => rw [hs] at h1; simp at h1
      | some k =>
        cases ht : symOf y with
        | none => rw [hs, ht] at h1; simp at h1
        | some j =>
          rw [hs, ht] at h1
          dsimp only at h1
          cases hz : Nat.beq k j with
          | false => rw [hz] at h1; cases h1
          | true =>
            rw [hz] at h1
            cases h1
            have := beq_of hz
            subst this
            obtain ⟨hk, hkx⟩ := symOf_ok (σ := σ) hs
            obtain ⟨hj, hjy⟩ := symOf_ok (σ := σ) ht
            refine good_step hA.1 hd rfl rfl (pc' := pc + 1) (clv' := clv) (st' := .int (σ k - σ k) :: r.map (cvV σ)) (ph' := ph) (nc' := nc) (ns' := ns) (by rw [List.map_cons, List.map_cons, hk, hj]; simp [stp, x_ld, x_st, x_ar, cvV]) ?_
            rw [Int32.sub_self, ← oI_z]
            exact go_len (st' := .inl oZ :: r) hC hI hA hlen h2 he hH hL (fun o ho => ho)
    | some b =>
      rw [hy] at h1
      cases hs : symOf x with
      | none => rw [hs] at h1; simp at h1
      | some k =>
        rw [hs] at h1
        dsimp only at h1
        cases hz : Nat.beq b oZ with
        | false => rw [hz] at h1; cases h1
        | true =>
          rw [hz] at h1
          cases h1
          have hbv := (vK_ok he hy).1
          rw [beq_of hz, oI_z] at hbv
          obtain ⟨hk, hkx⟩ := symOf_ok (σ := σ) hs
          refine good_step hA.1 hd rfl rfl (pc' := pc + 1) (clv' := clv) (st' := .int (σ k - 0) :: r.map (cvV σ)) (ph' := ph) (nc' := nc) (ns' := ns) (by rw [List.map_cons, List.map_cons, hbv, hk]; simp [stp, x_ld, x_st, x_ar, cvV]) ?_
          rw [Int32.sub_zero]
          exact go_len (st' := .inr (.inl k) :: r) hC hI hA hlen h2 he hH hL (fun o ho => ho)
theorem ok_imul (hC : CertAll) (hI : IHok σ ih) (hA : AtC mi M full (e :: rest) pc) (he : eOK σ env) (hH : HR σ h hn ph) (hL : LR σ lv clv)  (hd : decode (mC M) pc = .ok (.imul, 1)) (hlen : e.2.2.2.2.2.1 = 1) (hp : p_imul ih e full rest lv st h hn nc ns env d = some l) : GoodR σ d mi pc clv (st.map (cvV σ)) ph nc ns l := by
  unfold p_imul at hp
  split at hp
  case h_2 => cases hp
  rename_i y x r
  rcases bin_ok hp he with ⟨a, b, env', l', h1, h2, h3, h4, h5, h6, h7⟩ | ⟨q, h1, h2⟩
  · rw [fN_eq] at h6
    refine good_step hA.1 hd rfl rfl (pc' := pc + 1) (clv' := clv) (st' := .int (oI a * oI b) :: r.map (cvV σ)) (ph' := ph) (nc' := nc) (ns' := ns) (by rw [List.map_cons, List.map_cons, h1, h3]; simp [stp, x_ld, x_st, x_ar]) ?_
    rw [← oI_mul]
    exact go_len hC hI hA hlen h6 h5 hH hL h7
  · cases hy : vK y env with
    | none => rw [hy] at h1; simp at h1
    | some b =>
      rw [hy] at h1
      cases hs : symOf x with
      | none => rw [hs] at h1; simp at h1
      | some k =>
        rw [hs] at h1
        dsimp only at h1
        cases hz : Nat.beq b (oZ + 1) with
        | false => rw [hz] at h1; cases h1
        | true =>
          rw [hz] at h1
          cases h1
          have hbv := (vK_ok he hy).1
          rw [beq_of hz, oI_one] at hbv
          obtain ⟨hk, hkx⟩ := symOf_ok (σ := σ) hs
          refine good_step hA.1 hd rfl rfl (pc' := pc + 1) (clv' := clv) (st' := .int (σ k * 1) :: r.map (cvV σ)) (ph' := ph) (nc' := nc) (ns' := ns) (by rw [List.map_cons, List.map_cons, hbv, hk]; simp [stp, x_ld, x_st, x_ar, cvV]) ?_
          rw [Int32.mul_one]
          exact go_len (st' := .inr (.inl k) :: r) hC hI hA hlen h2 he hH hL (fun o ho => ho)
theorem ok_idiv (hC : CertAll) (hI : IHok σ ih) (hA : AtC mi M full (e :: rest) pc) (he : eOK σ env) (hH : HR σ h hn ph) (hL : LR σ lv clv)  (hd : decode (mC M) pc = .ok (.idiv, 1)) (hlen : e.2.2.2.2.2.1 = 1) (hp : p_idiv ih e full rest lv st h hn nc ns env d = some l) : GoodR σ d mi pc clv (st.map (cvV σ)) ph nc ns l := by
  unfold p_idiv at hp
  split at hp
  case h_2 => cases hp
  rename_i y x r
  rcases bin_ok hp he with ⟨a, b, env', l', h1, h2, h3, h4, h5, h6, h7⟩ | ⟨q, h1, h2⟩
  · cases hc : (Nat.ble oZ a && Nat.blt oZ b) with
    | false => rw [hc] at h6; cases h6
    | true =>
    rw [hc] at h6
    rw [Bool.and_eq_true] at hc
    obtain ⟨g1, g2⟩ := oI_div (ble_of hc.1) (blt_iff.mp hc.2) h2 h4
    rw [cond_true, fN_eq] at h6
    generalize (a - oZ) / (b - oZ) + oZ = w at h6 g1
    refine good_step hA.1 hd rfl rfl (pc' := pc + 1) (clv' := clv) (st' := .int (oI a / oI b) :: r.map (cvV σ)) (ph' := ph) (nc' := nc) (ns' := ns) (by rw [List.map_cons, List.map_cons, h1, h3]; exact st_idiv g2) ?_
    rw [← g1]
    exact go_len hC hI hA hlen h6 h5 hH hL h7
  · cases hy : vK y env with
    | none => rw [hy] at h1; simp at h1
    | some b =>
      rw [hy] at h1
      cases hs : symOf x with
      | none => rw [hs] at h1; simp at h1
      | some k =>
        rw [hs] at h1
        dsimp only at h1
        cases hz : Nat.beq b (oZ + 1) with
        | false => rw [hz] at h1; cases h1
        | true =>
          rw [hz] at h1
          cases h1
          have hbv := (vK_ok he hy).1
          rw [beq_of hz, oI_one] at hbv
          obtain ⟨hk, hkx⟩ := symOf_ok (σ := σ) hs
          refine good_step hA.1 hd rfl rfl (pc' := pc + 1) (clv' := clv) (st' := .int (σ k / 1) :: r.map (cvV σ)) (ph' := ph) (nc' := nc) (ns' := ns) (by rw [List.map_cons, List.map_cons, hbv, hk]; exact st_idiv one_ne) ?_
          rw [Int32.div_one]
          exact go_len (st' := .inr (.inl k) :: r) hC hI hA hlen h2 he hH hL (fun o ho => ho)
theorem ok_irem (hC : CertAll) (hI : IHok σ ih) (hA : AtC mi M full (e :: rest) pc) (he : eOK σ env) (hH : HR σ h hn ph) (hL : LR σ lv clv)  (hd : decode (mC M) pc = .ok (.irem, 1)) (hlen : e.2.2.2.2.2.1 = 1) (hp : p_irem ih e full rest lv st h hn nc ns env d = some l) : GoodR σ d mi pc clv (st.map (cvV σ)) ph nc ns l := by
  unfold p_irem at hp
  split at hp
  case h_2 => cases hp
  rename_i y x r
  rcases bin_ok hp he with ⟨a, b, env', l', h1, h2, h3, h4, h5, h6, h7⟩ | ⟨q, h1, h2⟩
  · cases hc : (Nat.ble oZ a && Nat.blt oZ b) with
    | false => rw [hc] at h6; cases h6
    | true =>
    rw [hc] at h6
    rw [Bool.and_eq_true] at hc
    obtain ⟨g1, g2⟩ := oI_rem (ble_of hc.1) (blt_iff.mp hc.2) h2 h4
    rw [cond_true, fN_eq] at h6
    generalize (a - oZ) % (b - oZ) + oZ = w at h6 g1
    refine good_step hA.1 hd rfl rfl (pc' := pc + 1) (clv' := clv) (st' := .int (oI a - oI a / oI b * oI b) :: r.map (cvV σ)) (ph' := ph) (nc' := nc) (ns' := ns) (by rw [List.map_cons, List.map_cons, h1, h3]; exact st_irem g2) ?_
    rw [← g1]
    exact go_len hC hI hA hlen h6 h5 hH hL h7
  · cases hy : vK y env with
    | none => rw [hy] at h1; simp at h1
    | some b =>
      rw [hy] at h1
      cases hs : symOf x with
      | none => rw [hs] at h1; simp at h1
      | some k =>
        rw [hs] at h1
        dsimp only at h1
        cases hz : Nat.beq b (oZ + 1) with
        | false => rw [hz] at h1; cases h1
        | true =>
          rw [hz] at h1
          cases h1
          have hbv := (vK_ok he hy).1
          rw [beq_of hz, oI_one] at hbv
          obtain ⟨hk, hkx⟩ := symOf_ok (σ := σ) hs
          refine good_step hA.1 hd rfl rfl (pc' := pc + 1) (clv' := clv) (st' := .int (σ k - σ k / 1 * 1) :: r.map (cvV σ)) (ph' := ph) (nc' := nc) (ns' := ns) (by rw [List.map_cons, List.map_cons, hbv, hk]; exact st_irem one_ne) ?_
          rw [Int32.div_one, Int32.mul_one, Int32.sub_self, ← oI_z]
          exact go_len (st' := .inl oZ :: r) hC hI hA hlen h2 he hH hL (fun o ho => ho)
theorem ok_ineg (hC : CertAll) (hI : IHok σ ih) (hA : AtC mi M full (e :: rest) pc) (he : eOK σ env) (hH : HR σ h hn ph) (hL : LR σ lv clv)  (hd : decode (mC M) pc = .ok (.ineg, 1)) (hlen : e.2.2.2.2.2.1 = 1) (hp : p_ineg ih e full rest lv st h hn nc ns env d = some l) : GoodR σ d mi pc clv (st.map (cvV σ)) ph nc ns l := by
  unfold p_ineg at hp
  split at hp
  case h_2 => cases hp
  rename_i x r
  obtain ⟨a, env', l', h1, h2, h3, h4, h5⟩ := exK_ok hp he
  rw [fN_eq] at h4
  refine good_step hA.1 hd rfl rfl (pc' := pc + 1) (clv' := clv) (st' := .int (-oI a) :: r.map (cvV σ)) (ph' := ph) (nc' := nc) (ns' := ns) (by rw [List.map_cons, h1]; simp [stp, x_ld, x_st, x_ar]) ?_
  rw [← oI_neg (Nat.le_of_lt h2)]
  exact go_len hC hI hA hlen h4 h3 hH hL h5
end OR

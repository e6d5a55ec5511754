/-! ===== the abstract machine: comparisons, jumps, switches ===== -/
theorem lt_cI (x y : Int32) : x < y ↔ cI' x < cI' y := by
  have h := oI_lt (cI'_lt x) (cI'_lt y)
  rw [oI_cI, oI_cI] at h
  exact h
theorem eq_cI (x y : Int32) : x = y ↔ cI' x = cI' y := by
  have h := oI_inj (cI'_lt x) (cI'_lt y)
  rw [oI_cI, oI_cI] at h
  exact h
theorem minN_ok {x a b : Nat} (h1 : x ≤ a) (h2 : x ≤ b) : x ≤ minN a b := by
  unfold minN
  cases Nat.ble a b
  · exact h2
  · exact h1
theorem maxN_ok {x a b : Nat} (h1 : a ≤ x) (h2 : b ≤ x) : maxN a b ≤ x := by
  unfold maxN
  cases Nat.ble a b
  · exact h1
  · exact h2
theorem ifR_true {b : Bool} {x : YR} {l : List YO} (h : ifR b x = some l) (hb : b = true) : x = some l := by
  subst hb
  exact h
theorem neLo_ok {x y a c e : Nat} (h1 : a ≤ x) (h2 : c ≤ y) (h3 : y ≤ e) (hne : x ≠ y) : neLo a c e ≤ x := by
  unfold neLo
  cases hb : (Nat.beq c e && Nat.beq a c) with
  | false => exact h1
  | true =>
    rw [Bool.and_eq_true] at hb
    have b1 := beq_of hb.1
    have b2 := beq_of hb.2
    show a + 1 ≤ x
    omega
theorem neHi_ok {x y b c e : Nat} (h1 : x ≤ b) (h2 : c ≤ y) (h3 : y ≤ e) (hne : x ≠ y) : x ≤ neHi b c e := by
  unfold neHi
  cases hb : (Nat.beq c e && Nat.beq b c) with
  | false => exact h1
  | true =>
    rw [Bool.and_eq_true] at hb
    have b1 := beq_of hb.1
    have b2 := beq_of hb.2
    show x ≤ b - 1
    omega
section YF
variable {GI : PH → Prop} {mk D : Nat} {σ : List Value} {ih : YB} {e : CE} {full rest : List CE} {lv : List (Option YV)} {st : List YV} {Y : YE} {d mi pc nc ns : Nat} {l : List YO} {M : MR} {clv : PV} {cst : List Value} {ph : PH}
theorem ltY_ok {vx vy : YV} {xv yv : Value} {kT kF : YE → YR} (h : ltY vx vy Y kT kF = some l) (hS : YS GI σ Y lv st clv cst ph) (hx : valR σ vx xv) (hy : valR σ vy yv) : ∃ x y, xv = .int x ∧ yv = .int y ∧ ((x < y ∧ ∃ Y' l', YS GI σ Y' lv st clv cst ph ∧ kT Y' = some l' ∧ ∀ o ∈ l', o ∈ l) ∨ (¬ x < y ∧ ∃ Y' l', YS GI σ Y' lv st clv cst ph ∧ kF Y' = some l' ∧ ∀ o ∈ l', o ∈ l)) := by
  unfold ltY at h
  obtain ⟨a, b, x, kx, rfl, a1, a2, h⟩ := rngK_ok h hS.env hx
  obtain ⟨c, e', y, ky, rfl, a3, a4, h⟩ := rngK_ok h hS.env hy
  obtain ⟨l1, l2, h1, h2, rfl⟩ := yapp_ok h
  refine ⟨x, y, rfl, rfl, ?_⟩
  rw [lt_cI]
  by_cases hlt : cI' x < cI' y
  · left
    have h1 := ifR_true h1 (blt_iff.mpr (by omega))
    rw [sayK_eq, sayK_eq] at h1
    refine ⟨hlt, _, l1, (hS.said (c := 0) hx ⟨x, rfl, a1, minN_ok a2 (by omega)⟩).said (c := 0) hy ⟨y, rfl, maxN_ok a3 (by omega), a4⟩, h1, fun o ho => List.mem_append_left _ ho⟩
  · right
    have h2 := ifR_true h2 (Nat.ble_eq_true_of_le (show c ≤ b by omega))
    rw [sayK_eq, sayK_eq] at h2
    refine ⟨hlt, _, l2, (hS.said (c := 0) hx ⟨x, rfl, maxN_ok a1 (by omega), a2⟩).said (c := 0) hy ⟨y, rfl, a3, minN_ok a4 (by omega)⟩, h2, fun o ho => List.mem_append_right _ ho⟩
theorem eqY_ok {vx vy : YV} {xv yv : Value} {kT kF : YE → YR} (h : eqY vx vy Y kT kF = some l) (hS : YS GI σ Y lv st clv cst ph) (hx : valR σ vx xv) (hy : valR σ vy yv) : ∃ x y, xv = .int x ∧ yv = .int y ∧ ((x = y ∧ ∃ Y' l', YS GI σ Y' lv st clv cst ph ∧ kT Y' = some l' ∧ ∀ o ∈ l', o ∈ l) ∨ (¬ x = y ∧ ∃ Y' l', YS GI σ Y' lv st clv cst ph ∧ kF Y' = some l' ∧ ∀ o ∈ l', o ∈ l)) := by
  unfold eqY at h
  obtain ⟨a, b, x, kx, rfl, a1, a2, h⟩ := rngK_ok h hS.env hx
  obtain ⟨c, e', y, ky, rfl, a3, a4, h⟩ := rngK_ok h hS.env hy
  obtain ⟨l1, l2, h1, h2, rfl⟩ := yapp_ok h
  refine ⟨x, y, rfl, rfl, ?_⟩
  rw [eq_cI]
  by_cases heq : cI' x = cI' y
  · left
    have h1 := ifR_true h1 (by rw [Bool.and_eq_true]; exact ⟨Nat.ble_eq_true_of_le (by omega), Nat.ble_eq_true_of_le (by omega)⟩)
    rw [sayK_eq, sayK_eq] at h1
    refine ⟨heq, _, l1, (hS.said (c := 0) hx ⟨x, rfl, maxN_ok a1 (by omega), minN_ok a2 (by omega)⟩).said (c := 0) hy ⟨y, rfl, maxN_ok (by omega) a3, minN_ok (by omega) a4⟩, h1, fun o ho => List.mem_append_left _ ho⟩
  · right
    have h2 := ifR_true h2 (by
      cases hb : (Nat.beq a b && Nat.beq c e' && Nat.beq a c) with
      | false => rfl
      | true =>
        exfalso
        simp only [Bool.and_eq_true] at hb
        have b1 := beq_of hb.1.1
        have b2 := beq_of hb.1.2
        have b3 := beq_of hb.2
        omega)
    rw [sayK_eq, sayK_eq] at h2
    refine ⟨heq, _, l2, (hS.said (c := 0) hx ⟨x, rfl, neLo_ok a1 a3 a4 heq, neHi_ok a2 a3 a4 heq⟩).said (c := 0) hy ⟨y, rfl, neLo_ok a3 a1 a2 (fun z => heq z.symm), neHi_ok a4 a1 a2 (fun z => heq z.symm)⟩, h2, fun o ho => List.mem_append_right _ ho⟩
theorem yif_inv {neg lt sw : Bool} (hp : y_if neg lt sw ih e full rest lv st Y d = some l) (hS : YS GI σ Y lv st clv cst ph) : ∃ Xv Yv r c2 X Z Y' l', cst = Yv :: Xv :: c2 ∧ Xv = .int X ∧ Yv = .int Z ∧ YS GI σ Y' lv r clv c2 ph ∧ (∀ o ∈ l', o ∈ l) ∧
    (((if lt = true then (if sw = true then decide (Z < X) else decide (X < Z)) else decide (X = Z)) = !neg ∧ ih full (full.drop e.2.2.2.1) lv r Y' d = some l') ∨ ((if lt = true then (if sw = true then decide (Z < X) else decide (X < Z)) else decide (X = Z)) = neg ∧ ih full rest lv r Y' d = some l')) := by
  unfold y_if at hp
  split at hp
  case h_2 => cases hp
  rename_i y x r
  obtain ⟨yv, c1, rfl, hy, hS1⟩ := hS.pop
  obtain ⟨xv, c2, rfl, hx, hS2⟩ := hS1.pop
  dsimp only at hp
  cases lt with
  | true =>
    cases sw with
    | true =>
      cases neg with
      | true =>
        obtain ⟨Z, X, rfl, rfl, ⟨h3, Y', l', h4, h5, h6⟩ | ⟨h3, Y', l', h4, h5, h6⟩⟩ := ltY_ok (by simpa only [cond_true, cond_false] using hp) hS2 hy hx
        · exact ⟨_, _, r, c2, X, Z, Y', l', rfl, rfl, rfl, h4, h6, Or.inr ⟨by simp [h3], h5⟩⟩
        · exact ⟨_, _, r, c2, X, Z, Y', l', rfl, rfl, rfl, h4, h6, Or.inl ⟨by simp [h3], h5⟩⟩
      | false =>
        obtain ⟨Z, X, rfl, rfl, ⟨h3, Y', l', h4, h5, h6⟩ | ⟨h3, Y', l', h4, h5, h6⟩⟩ := ltY_ok (by simpa only [cond_true, cond_false] using hp) hS2 hy hx
        · exact ⟨_, _, r, c2, X, Z, Y', l', rfl, rfl, rfl, h4, h6, Or.inl ⟨by simp [h3], h5⟩⟩
        · exact ⟨_, _, r, c2, X, Z, Y', l', rfl, rfl, rfl, h4, h6, Or.inr ⟨by simp [h3], h5⟩⟩
    | false =>
      cases neg with
      | true =>
        obtain ⟨X, Z, rfl, rfl, ⟨h3, Y', l', h4, h5, h6⟩ | ⟨h3, Y', l', h4, h5, h6⟩⟩ := ltY_ok (by simpa only [cond_true, cond_false] using hp) hS2 hx hy
        · exact ⟨_, _, r, c2, X, Z, Y', l', rfl, rfl, rfl, h4, h6, Or.inr ⟨by simp [h3], h5⟩⟩
        · exact ⟨_, _, r, c2, X, Z, Y', l', rfl, rfl, rfl, h4, h6, Or.inl ⟨by simp [h3], h5⟩⟩
      | false =>
        obtain ⟨X, Z, rfl, rfl, ⟨h3, Y', l', h4, h5, h6⟩ | ⟨h3, Y', l', h4, h5, h6⟩⟩ := ltY_ok (by simpa only [cond_true, cond_false] using hp) hS2 hx hy
        · exact ⟨_, _, r, c2, X, Z, Y', l', rfl, rfl, rfl, h4, h6, Or.inl ⟨by simp [h3], h5⟩⟩
        · exact ⟨_, _, r, c2, X, Z, Y', l', rfl, rfl, rfl, h4, h6, Or.inr ⟨by simp [h3], h5⟩⟩
  | false =>
    cases sw with
    | true =>
      cases neg with
      | true =>
        obtain ⟨Z, X, rfl, rfl, ⟨h3, Y', l', h4, h5, h6⟩ | ⟨h3, Y', l', h4, h5, h6⟩⟩ := eqY_ok (by simpa only [cond_true, cond_false] using hp) hS2 hy hx
        · exact ⟨_, _, r, c2, X, Z, Y', l', rfl, rfl, rfl, h4, h6, Or.inr ⟨by simp [h3], h5⟩⟩
        · exact ⟨_, _, r, c2, X, Z, Y', l', rfl, rfl, rfl, h4, h6, Or.inl ⟨by simp only [Bool.false_eq_true, if_false]; simpa using (fun z : X = Z => h3 z.symm), h5⟩⟩
      | false =>
        obtain ⟨Z, X, rfl, rfl, ⟨h3, Y', l', h4, h5, h6⟩ | ⟨h3, Y', l', h4, h5, h6⟩⟩ := eqY_ok (by simpa only [cond_true, cond_false] using hp) hS2 hy hx
        · exact ⟨_, _, r, c2, X, Z, Y', l', rfl, rfl, rfl, h4, h6, Or.inl ⟨by simp [h3], h5⟩⟩
        · exact ⟨_, _, r, c2, X, Z, Y', l', rfl, rfl, rfl, h4, h6, Or.inr ⟨by simp only [Bool.false_eq_true, if_false]; simpa using (fun z : X = Z => h3 z.symm), h5⟩⟩
    | false =>
      cases neg with
      | true =>
        obtain ⟨X, Z, rfl, rfl, ⟨h3, Y', l', h4, h5, h6⟩ | ⟨h3, Y', l', h4, h5, h6⟩⟩ := eqY_ok (by simpa only [cond_true, cond_false] using hp) hS2 hx hy
        · exact ⟨_, _, r, c2, X, Z, Y', l', rfl, rfl, rfl, h4, h6, Or.inr ⟨by simp [h3], h5⟩⟩
        · exact ⟨_, _, r, c2, X, Z, Y', l', rfl, rfl, rfl, h4, h6, Or.inl ⟨by simp [h3], h5⟩⟩
      | false =>
        obtain ⟨X, Z, rfl, rfl, ⟨h3, Y', l', h4, h5, h6⟩ | ⟨h3, Y', l', h4, h5, h6⟩⟩ := eqY_ok (by simpa only [cond_true, cond_false] using hp) hS2 hx hy
        · exact ⟨_, _, r, c2, X, Z, Y', l', rfl, rfl, rfl, h4, h6, Or.inl ⟨by simp [h3], h5⟩⟩
        · exact ⟨_, _, r, c2, X, Z, Y', l', rfl, rfl, rfl, h4, h6, Or.inr ⟨by simp [h3], h5⟩⟩
theorem yk_icmp_eq (hC : CertAll) (hI : IHy GI mk D ih) (hA : AtC mi M full (e :: rest) pc) (hD : d ≤ D) (hS : YS GI σ Y lv st clv cst ph) {o : Int} (hj : jB full e.2.2.2.1 pc o = true) (hd : decode (mC M) pc = .ok (.if_icmp .eq o, 3)) (hlen : e.2.2.2.2.2.1 = 3) (hp : y_if false false false ih e full rest lv st Y d = some l) : GoodY GI mk σ d mi pc clv cst ph nc ns l := by
  obtain ⟨t, ht⟩ := jB_tg hj
  obtain ⟨_, _, r, c2, X, Z, Y', l', rfl, rfl, rfl, h3, h4, ⟨h6, h7⟩ | ⟨h6, h7⟩⟩ := yif_inv hp hS
  · have h8 : X = Z := by simpa using h6
    exact gy_step hA.1 hd rfl rfl (pc' := t) (clv' := clv) (cst' := c2) (ph' := ph) (nc' := nc) (ns' := ns) (by simp [stp, x_ld, x_st, x_ar, x_br, goB, ht, h8, Int32.not_lt]) List.prefix_rfl (Fr.rfl' _ _) ((gy_jump hI hA.1 hA.2.1 hj ht hD h7 h3).mono h4)
  · have h8 : ¬ (X = Z) := by simpa using h6
    exact gy_step hA.1 hd rfl rfl (pc' := pc + 3) (clv' := clv) (cst' := c2) (ph' := ph) (nc' := nc) (ns' := ns) (by simp [stp, x_ld, x_st, x_ar, x_br, goB, ht, h8, Int32.not_lt]) List.prefix_rfl (Fr.rfl' _ _) ((gy_next hC hI hA hlen hD h7 h3).mono h4)
theorem yk_if_eq (hC : CertAll) (hI : IHy GI mk D ih) (hA : AtC mi M full (e :: rest) pc) (hD : d ≤ D) (hS : YS GI σ Y lv st clv cst ph) {o : Int} (hj : jB full e.2.2.2.1 pc o = true) (hd : decode (mC M) pc = .ok (.ifCond .eq o, 3)) (hlen : e.2.2.2.2.2.1 = 3) (hp : y_if0 (y_if false false false) ih e full rest lv st Y d = some l) : GoodY GI mk σ d mi pc clv cst ph nc ns l := by
  obtain ⟨t, ht⟩ := jB_tg hj
  unfold y_if0 at hp
  obtain ⟨_, _, r, c2, X, Z, Y', l', hcs, rfl, rfl, h3, h4, h5⟩ := yif_inv hp (hS.push (v := .inl oZ) (x := .int 0) ⟨by rw [oI_z], by decide⟩)
  cases hcs
  rcases h5 with ⟨h6, h7⟩ | ⟨h6, h7⟩
  · have h8 : X = 0 := by simpa using h6
    exact gy_step hA.1 hd rfl rfl (pc' := t) (clv' := clv) (cst' := c2) (ph' := ph) (nc' := nc) (ns' := ns) (by simp [stp, x_ld, x_st, x_ar, x_br, goB, ht, h8, Int32.not_lt]) List.prefix_rfl (Fr.rfl' _ _) ((gy_jump hI hA.1 hA.2.1 hj ht hD h7 h3).mono h4)
  · have h8 : ¬ (X = 0) := by simpa using h6
    exact gy_step hA.1 hd rfl rfl (pc' := pc + 3) (clv' := clv) (cst' := c2) (ph' := ph) (nc' := nc) (ns' := ns) (by simp [stp, x_ld, x_st, x_ar, x_br, goB, ht, h8, Int32.not_lt]) List.prefix_rfl (Fr.rfl' _ _) ((gy_next hC hI hA hlen hD h7 h3).mono h4)
theorem yk_icmp_ne (hC : CertAll) (hI : IHy GI mk D ih) (hA : AtC mi M full (e :: rest) pc) (hD : d ≤ D) (hS : YS GI σ Y lv st clv cst ph) {o : Int} (hj : jB full e.2.2.2.1 pc o = true) (hd : decode (mC M) pc = .ok (.if_icmp .ne o, 3)) (hlen : e.2.2.2.2.2.1 = 3) (hp : y_if true false false ih e full rest lv st Y d = some l) : GoodY GI mk σ d mi pc clv cst ph nc ns l := by
  obtain ⟨t, ht⟩ := jB_tg hj
  obtain ⟨_, _, r, c2, X, Z, Y', l', rfl, rfl, rfl, h3, h4, ⟨h6, h7⟩ | ⟨h6, h7⟩⟩ := yif_inv hp hS
  · have h8 : ¬ (X = Z) := by simpa using h6
    exact gy_step hA.1 hd rfl rfl (pc' := t) (clv' := clv) (cst' := c2) (ph' := ph) (nc' := nc) (ns' := ns) (by simp [stp, x_ld, x_st, x_ar, x_br, goB, ht, h8, Int32.not_lt]) List.prefix_rfl (Fr.rfl' _ _) ((gy_jump hI hA.1 hA.2.1 hj ht hD h7 h3).mono h4)
  · have h8 : X = Z := by simpa using h6
    exact gy_step hA.1 hd rfl rfl (pc' := pc + 3) (clv' := clv) (cst' := c2) (ph' := ph) (nc' := nc) (ns' := ns) (by simp [stp, x_ld, x_st, x_ar, x_br, goB, ht, h8, Int32.not_lt]) List.prefix_rfl (Fr.rfl' _ _) ((gy_next hC hI hA hlen hD h7 h3).mono h4)
theorem yk_if_ne (hC : CertAll) (hI : IHy GI mk D ih) (hA : AtC mi M full (e :: rest) pc) (hD : d ≤ D) (hS : YS GI σ Y lv st clv cst ph) {o : Int} (hj : jB full e.2.2.2.1 pc o = true) (hd : decode (mC M) pc = .ok (.ifCond .ne o, 3)) (hlen : e.2.2.2.2.2.1 = 3) (hp : y_if0 (y_if true false false) ih e full rest lv st Y d = some l) : GoodY GI mk σ d mi pc clv cst ph nc ns l := by
  obtain ⟨t, ht⟩ := jB_tg hj
  unfold y_if0 at hp
  obtain ⟨_, _, r, c2, X, Z, Y', l', hcs, rfl, rfl, h3, h4, h5⟩ := yif_inv hp (hS.push (v := .inl oZ) (x := .int 0) ⟨by rw [oI_z], by decide⟩)
  cases hcs
  rcases h5 with ⟨h6, h7⟩ | ⟨h6, h7⟩
  · have h8 : ¬ (X = 0) := by simpa using h6
    exact gy_step hA.1 hd rfl rfl (pc' := t) (clv' := clv) (cst' := c2) (ph' := ph) (nc' := nc) (ns' := ns) (by simp [stp, x_ld, x_st, x_ar, x_br, goB, ht, h8, Int32.not_lt]) List.prefix_rfl (Fr.rfl' _ _) ((gy_jump hI hA.1 hA.2.1 hj ht hD h7 h3).mono h4)
  · have h8 : X = 0 := by simpa using h6
    exact gy_step hA.1 hd rfl rfl (pc' := pc + 3) (clv' := clv) (cst' := c2) (ph' := ph) (nc' := nc) (ns' := ns) (by simp [stp, x_ld, x_st, x_ar, x_br, goB, ht, h8, Int32.not_lt]) List.prefix_rfl (Fr.rfl' _ _) ((gy_next hC hI hA hlen hD h7 h3).mono h4)
theorem yk_icmp_lt (hC : CertAll) (hI : IHy GI mk D ih) (hA : AtC mi M full (e :: rest) pc) (hD : d ≤ D) (hS : YS GI σ Y lv st clv cst ph) {o : Int} (hj : jB full e.2.2.2.1 pc o = true) (hd : decode (mC M) pc = .ok (.if_icmp .lt o, 3)) (hlen : e.2.2.2.2.2.1 = 3) (hp : y_if false true false ih e full rest lv st Y d = some l) : GoodY GI mk σ d mi pc clv cst ph nc ns l := by
  obtain ⟨t, ht⟩ := jB_tg hj
  obtain ⟨_, _, r, c2, X, Z, Y', l', rfl, rfl, rfl, h3, h4, ⟨h6, h7⟩ | ⟨h6, h7⟩⟩ := yif_inv hp hS
  · have h8 : X < Z := by simpa using h6
    exact gy_step hA.1 hd rfl rfl (pc' := t) (clv' := clv) (cst' := c2) (ph' := ph) (nc' := nc) (ns' := ns) (by simp [stp, x_ld, x_st, x_ar, x_br, goB, ht, h8, Int32.not_lt]) List.prefix_rfl (Fr.rfl' _ _) ((gy_jump hI hA.1 hA.2.1 hj ht hD h7 h3).mono h4)
  · have h8 : ¬ (X < Z) := by simpa using h6
    exact gy_step hA.1 hd rfl rfl (pc' := pc + 3) (clv' := clv) (cst' := c2) (ph' := ph) (nc' := nc) (ns' := ns) (by simp [stp, x_ld, x_st, x_ar, x_br, goB, ht, h8, Int32.not_lt]) List.prefix_rfl (Fr.rfl' _ _) ((gy_next hC hI hA hlen hD h7 h3).mono h4)
theorem yk_if_lt (hC : CertAll) (hI : IHy GI mk D ih) (hA : AtC mi M full (e :: rest) pc) (hD : d ≤ D) (hS : YS GI σ Y lv st clv cst ph) {o : Int} (hj : jB full e.2.2.2.1 pc o = true) (hd : decode (mC M) pc = .ok (.ifCond .lt o, 3)) (hlen : e.2.2.2.2.2.1 = 3) (hp : y_if0 (y_if false true false) ih e full rest lv st Y d = some l) : GoodY GI mk σ d mi pc clv cst ph nc ns l := by
  obtain ⟨t, ht⟩ := jB_tg hj
  unfold y_if0 at hp
  obtain ⟨_, _, r, c2, X, Z, Y', l', hcs, rfl, rfl, h3, h4, h5⟩ := yif_inv hp (hS.push (v := .inl oZ) (x := .int 0) ⟨by rw [oI_z], by decide⟩)
  cases hcs
  rcases h5 with ⟨h6, h7⟩ | ⟨h6, h7⟩
  · have h8 : X < 0 := by simpa using h6
    exact gy_step hA.1 hd rfl rfl (pc' := t) (clv' := clv) (cst' := c2) (ph' := ph) (nc' := nc) (ns' := ns) (by simp [stp, x_ld, x_st, x_ar, x_br, goB, ht, h8, Int32.not_lt]) List.prefix_rfl (Fr.rfl' _ _) ((gy_jump hI hA.1 hA.2.1 hj ht hD h7 h3).mono h4)
  · have h8 : ¬ (X < 0) := by simpa using h6
    exact gy_step hA.1 hd rfl rfl (pc' := pc + 3) (clv' := clv) (cst' := c2) (ph' := ph) (nc' := nc) (ns' := ns) (by simp [stp, x_ld, x_st, x_ar, x_br, goB, ht, h8, Int32.not_lt]) List.prefix_rfl (Fr.rfl' _ _) ((gy_next hC hI hA hlen hD h7 h3).mono h4)
theorem yk_icmp_ge (hC : CertAll) (hI : IHy GI mk D ih) (hA : AtC mi M full (e :: rest) pc) (hD : d ≤ D) (hS : YS GI σ Y lv st clv cst ph) {o : Int} (hj : jB full e.2.2.2.1 pc o = true) (hd : decode (mC M) pc = .ok (.if_icmp .ge o, 3)) (hlen : e.2.2.2.2.2.1 = 3) (hp : y_if true true false ih e full rest lv st Y d = some l) : GoodY GI mk σ d mi pc clv cst ph nc ns l := by
  obtain ⟨t, ht⟩ := jB_tg hj
  obtain ⟨_, _, r, c2, X, Z, Y', l', rfl, rfl, rfl, h3, h4, ⟨h6, h7⟩ | ⟨h6, h7⟩⟩ := yif_inv hp hS
  · have h8 : ¬ (X < Z) := by simpa using h6
    exact gy_step hA.1 hd rfl rfl (pc' := t) (clv' := clv) (cst' := c2) (ph' := ph) (nc' := nc) (ns' := ns) (by simp [stp, x_ld, x_st, x_ar, x_br, goB, ht, h8, Int32.not_lt]) List.prefix_rfl (Fr.rfl' _ _) ((gy_jump hI hA.1 hA.2.1 hj ht hD h7 h3).mono h4)
  · have h8 : X < Z := by simpa using h6
    exact gy_step hA.1 hd rfl rfl (pc' := pc + 3) (clv' := clv) (cst' := c2) (ph' := ph) (nc' := nc) (ns' := ns) (by simp [stp, x_ld, x_st, x_ar, x_br, goB, ht, h8, Int32.not_lt, Int32.not_le.mpr h8]) List.prefix_rfl (Fr.rfl' _ _) ((gy_next hC hI hA hlen hD h7 h3).mono h4)
theorem yk_if_ge (hC : CertAll) (hI : IHy GI mk D ih) (hA : AtC mi M full (e :: rest) pc) (hD : d ≤ D) (hS : YS GI σ Y lv st clv cst ph) {o : Int} (hj : jB full e.2.2.2.1 pc o = true) (hd : decode (mC M) pc = .ok (.ifCond .ge o, 3)) (hlen : e.2.2.2.2.2.1 = 3) (hp : y_if0 (y_if true true false) ih e full rest lv st Y d = some l) : GoodY GI mk σ d mi pc clv cst ph nc ns l := by
  obtain ⟨t, ht⟩ := jB_tg hj
  unfold y_if0 at hp
  obtain ⟨_, _, r, c2, X, Z, Y', l', hcs, rfl, rfl, h3, h4, h5⟩ := yif_inv hp (hS.push (v := .inl oZ) (x := .int 0) ⟨by rw [oI_z], by decide⟩)
  cases hcs
  rcases h5 with ⟨h6, h7⟩ | ⟨h6, h7⟩
  · have h8 : ¬ (X < 0) := by simpa using h6
    exact gy_step hA.1 hd rfl rfl (pc' := t) (clv' := clv) (cst' := c2) (ph' := ph) (nc' := nc) (ns' := ns) (by simp [stp, x_ld, x_st, x_ar, x_br, goB, ht, h8, Int32.not_lt]) List.prefix_rfl (Fr.rfl' _ _) ((gy_jump hI hA.1 hA.2.1 hj ht hD h7 h3).mono h4)
  · have h8 : X < 0 := by simpa using h6
    exact gy_step hA.1 hd rfl rfl (pc' := pc + 3) (clv' := clv) (cst' := c2) (ph' := ph) (nc' := nc) (ns' := ns) (by simp [stp, x_ld, x_st, x_ar, x_br, goB, ht, h8, Int32.not_lt, Int32.not_le.mpr h8]) List.prefix_rfl (Fr.rfl' _ _) ((gy_next hC hI hA hlen hD h7 h3).mono h4)
theorem yk_icmp_gt (hC : CertAll) (hI : IHy GI mk D ih) (hA : AtC mi M full (e :: rest) pc) (hD : d ≤ D) (hS : YS GI σ Y lv st clv cst ph) {o : Int} (hj : jB full e.2.2.2.1 pc o = true) (hd : decode (mC M) pc = .ok (.if_icmp .gt o, 3)) (hlen : e.2.2.2.2.2.1 = 3) (hp : y_if false true true ih e full rest lv st Y d = some l) : GoodY GI mk σ d mi pc clv cst ph nc ns l := by
  obtain ⟨t, ht⟩ := jB_tg hj
  obtain ⟨_, _, r, c2, X, Z, Y', l', rfl, rfl, rfl, h3, h4, ⟨h6, h7⟩ | ⟨h6, h7⟩⟩ := yif_inv hp hS
  · have h8 : Z < X := by simpa using h6
    exact gy_step hA.1 hd rfl rfl (pc' := t) (clv' := clv) (cst' := c2) (ph' := ph) (nc' := nc) (ns' := ns) (by simp [stp, x_ld, x_st, x_ar, x_br, goB, ht, h8, Int32.not_lt]) List.prefix_rfl (Fr.rfl' _ _) ((gy_jump hI hA.1 hA.2.1 hj ht hD h7 h3).mono h4)
  · have h8 : ¬ (Z < X) := by simpa using h6
    exact gy_step hA.1 hd rfl rfl (pc' := pc + 3) (clv' := clv) (cst' := c2) (ph' := ph) (nc' := nc) (ns' := ns) (by simp [stp, x_ld, x_st, x_ar, x_br, goB, ht, h8, Int32.not_lt]) List.prefix_rfl (Fr.rfl' _ _) ((gy_next hC hI hA hlen hD h7 h3).mono h4)
theorem yk_if_gt (hC : CertAll) (hI : IHy GI mk D ih) (hA : AtC mi M full (e :: rest) pc) (hD : d ≤ D) (hS : YS GI σ Y lv st clv cst ph) {o : Int} (hj : jB full e.2.2.2.1 pc o = true) (hd : decode (mC M) pc = .ok (.ifCond .gt o, 3)) (hlen : e.2.2.2.2.2.1 = 3) (hp : y_if0 (y_if false true true) ih e full rest lv st Y d = some l) : GoodY GI mk σ d mi pc clv cst ph nc ns l := by
  obtain ⟨t, ht⟩ := jB_tg hj
  unfold y_if0 at hp
  obtain ⟨_, _, r, c2, X, Z, Y', l', hcs, rfl, rfl, h3, h4, h5⟩ := yif_inv hp (hS.push (v := .inl oZ) (x := .int 0) ⟨by rw [oI_z], by decide⟩)
  cases hcs
  rcases h5 with ⟨h6, h7⟩ | ⟨h6, h7⟩
  · have h8 : 0 < X := by simpa using h6
    exact gy_step hA.1 hd rfl rfl (pc' := t) (clv' := clv) (cst' := c2) (ph' := ph) (nc' := nc) (ns' := ns) (by simp [stp, x_ld, x_st, x_ar, x_br, goB, ht, h8, Int32.not_lt]) List.prefix_rfl (Fr.rfl' _ _) ((gy_jump hI hA.1 hA.2.1 hj ht hD h7 h3).mono h4)
  · have h8 : ¬ (0 < X) := by simpa using h6
    exact gy_step hA.1 hd rfl rfl (pc' := pc + 3) (clv' := clv) (cst' := c2) (ph' := ph) (nc' := nc) (ns' := ns) (by simp [stp, x_ld, x_st, x_ar, x_br, goB, ht, h8, Int32.not_lt]) List.prefix_rfl (Fr.rfl' _ _) ((gy_next hC hI hA hlen hD h7 h3).mono h4)
theorem yk_icmp_le (hC : CertAll) (hI : IHy GI mk D ih) (hA : AtC mi M full (e :: rest) pc) (hD : d ≤ D) (hS : YS GI σ Y lv st clv cst ph) {o : Int} (hj : jB full e.2.2.2.1 pc o = true) (hd : decode (mC M) pc = .ok (.if_icmp .le o, 3)) (hlen : e.2.2.2.2.2.1 = 3) (hp : y_if true true true ih e full rest lv st Y d = some l) : GoodY GI mk σ d mi pc clv cst ph nc ns l := by
  obtain ⟨t, ht⟩ := jB_tg hj
  obtain ⟨_, _, r, c2, X, Z, Y', l', rfl, rfl, rfl, h3, h4, ⟨h6, h7⟩ | ⟨h6, h7⟩⟩ := yif_inv hp hS
  · have h8 : ¬ (Z < X) := by simpa using h6
    exact gy_step hA.1 hd rfl rfl (pc' := t) (clv' := clv) (cst' := c2) (ph' := ph) (nc' := nc) (ns' := ns) (by simp [stp, x_ld, x_st, x_ar, x_br, goB, ht, h8, Int32.not_lt]) List.prefix_rfl (Fr.rfl' _ _) ((gy_jump hI hA.1 hA.2.1 hj ht hD h7 h3).mono h4)
  · have h8 : Z < X := by simpa using h6
    exact gy_step hA.1 hd rfl rfl (pc' := pc + 3) (clv' := clv) (cst' := c2) (ph' := ph) (nc' := nc) (ns' := ns) (by simp [stp, x_ld, x_st, x_ar, x_br, goB, ht, h8, Int32.not_lt, Int32.not_le.mpr h8]) List.prefix_rfl (Fr.rfl' _ _) ((gy_next hC hI hA hlen hD h7 h3).mono h4)
theorem yk_if_le (hC : CertAll) (hI : IHy GI mk D ih) (hA : AtC mi M full (e :: rest) pc) (hD : d ≤ D) (hS : YS GI σ Y lv st clv cst ph) {o : Int} (hj : jB full e.2.2.2.1 pc o = true) (hd : decode (mC M) pc = .ok (.ifCond .le o, 3)) (hlen : e.2.2.2.2.2.1 = 3) (hp : y_if0 (y_if true true true) ih e full rest lv st Y d = some l) : GoodY GI mk σ d mi pc clv cst ph nc ns l := by
  obtain ⟨t, ht⟩ := jB_tg hj
  unfold y_if0 at hp
  obtain ⟨_, _, r, c2, X, Z, Y', l', hcs, rfl, rfl, h3, h4, h5⟩ := yif_inv hp (hS.push (v := .inl oZ) (x := .int 0) ⟨by rw [oI_z], by decide⟩)
  cases hcs
  rcases h5 with ⟨h6, h7⟩ | ⟨h6, h7⟩
  · have h8 : ¬ (0 < X) := by simpa using h6
    exact gy_step hA.1 hd rfl rfl (pc' := t) (clv' := clv) (cst' := c2) (ph' := ph) (nc' := nc) (ns' := ns) (by simp [stp, x_ld, x_st, x_ar, x_br, goB, ht, h8, Int32.not_lt]) List.prefix_rfl (Fr.rfl' _ _) ((gy_jump hI hA.1 hA.2.1 hj ht hD h7 h3).mono h4)
  · have h8 : 0 < X := by simpa using h6
    exact gy_step hA.1 hd rfl rfl (pc' := pc + 3) (clv' := clv) (cst' := c2) (ph' := ph) (nc' := nc) (ns' := ns) (by simp [stp, x_ld, x_st, x_ar, x_br, goB, ht, h8, Int32.not_lt, Int32.not_le.mpr h8]) List.prefix_rfl (Fr.rfl' _ _) ((gy_next hC hI hA hlen hD h7 h3).mono h4)
theorem yk_goto (hC : CertAll) (hI : IHy GI mk D ih) (hA : AtC mi M full (e :: rest) pc) (hD : d ≤ D) (hS : YS GI σ Y lv st clv cst ph) {o : Int} (hj : jB full e.2.2.2.1 pc o = true) (hd : decode (mC M) pc = .ok (.goto o, 3)) (hlen : e.2.2.2.2.2.1 = 3) (hp : y_goto ih e full rest lv st Y d = some l) : GoodY GI mk σ d mi pc clv cst ph nc ns l := by
  unfold y_goto at hp
  obtain ⟨t, ht⟩ := jB_tg hj
  exact gy_step hA.1 hd rfl rfl (pc' := t) (clv' := clv) (cst' := cst) (ph' := ph) (nc' := nc) (ns' := ns) (by simp [stp, x_ld, x_st, x_ar, x_br, ht]) List.prefix_rfl (Fr.rfl' _ _) (gy_jump hI hA.1 hA.2.1 hj ht hD hp hS)
theorem swY_s (x : YV) (r : List YV) (df n v : Nat) (ts : List Nat) (Y : YE) : swY ih full lv x r d df (n + 1) v ts Y = (match ts with
      | [] => ih full (full.drop df) lv r Y d
      | t :: ts => eqY x (.inl v) Y (fun Y => ih full (full.drop t) lv r Y d) (fun Y => fN (v + 1) fun w => swY ih full lv x r d df n w ts Y)) := rfl
theorem swY_ok {x : YV} {r : List YV} {df : Nat} {X : Int32} (hx : valR σ x (.int X)) : ∀ {n v : Nat} {ts : List Nat} {Y : YE} {l : List YO}, swY ih full lv x r d df n v ts Y = some l → YS GI σ Y lv r clv cst ph → v + ts.length < oM → ∃ Y' l', YS GI σ Y' lv r clv cst ph ∧ (∀ o ∈ l', o ∈ l) ∧ ((∃ j b, ts[j]? = some b ∧ X.toInt = ((v + j : Nat) : Int) - 2147483648 ∧ ih full (full.drop b) lv r Y' d = some l') ∨ ((∀ j, j < ts.length → X.toInt ≠ ((v + j : Nat) : Int) - 2147483648) ∧ ih full (full.drop df) lv r Y' d = some l'))
  | 0, _, _, _, _, hp, _, _ => by cases hp
  | n + 1, v, [], Y, l, hp, hS, _ => by
    rw [swY_s] at hp
    exact ⟨Y, l, hS, fun o ho => ho, Or.inr ⟨fun j hj => by simp at hj, hp⟩⟩
  | n + 1, v, t :: ts, Y, l, hp, hS, hv => by
    rw [swY_s] at hp
    rw [List.length_cons] at hv
    obtain ⟨X', Z, h1, h2, h3⟩ := eqY_ok hp hS hx (vy := .inl v) (yv := .int (oI v)) ⟨rfl, by omega⟩
    have e1 : X = X' := Value.int.inj h1
    have e2 : oI v = Z := Value.int.inj h2
    subst e1
    subst e2
    have hvt := oI_toInt (v := v) (by omega)
    rcases h3 with ⟨h4, Y', l', h5, h6, h7⟩ | ⟨h4, Y', l', h5, h6, h7⟩
    · exact ⟨Y', l', h5, h7, Or.inl ⟨0, t, rfl, by rw [h4, hvt]; rfl, h6⟩⟩
    · rw [fN_eq] at h6
      obtain ⟨Y2, l2, g1, g2, g3⟩ := swY_ok hx h6 h5 (by omega)
      refine ⟨Y2, l2, g1, fun o ho => h7 o (g2 o ho), ?_⟩
      rcases g3 with ⟨j, b, k1, k2, k3⟩ | ⟨k1, k2⟩
      · exact Or.inl ⟨j + 1, b, by rw [List.getElem?_cons_succ]; exact k1, by rw [k2, show v + 1 + j = v + (j + 1) by omega], k3⟩
      · refine Or.inr ⟨fun j hj => ?_, k2⟩
        cases j with
        | zero =>
          intro z
          apply h4
          apply Int32.toInt.inj
          rw [hvt]
          exact z
        | succ j =>
          have := k1 j (by rw [List.length_cons] at hj; omega)
          rwa [show v + 1 + j = v + (j + 1) by omega] at this
theorem yk_switch (hI : IHy GI mk D ih) (hA : AtC mi M full (e :: rest) pc) (hD : d ≤ D) (hS : YS GI σ Y lv st clv cst ph) {df lo hi : Int} {offs : Array Int} {len : Nat} (hs : swB full pc df lo hi offs e.2.2.1 e.2.2.2.2.2.2 = true) (hd : decode (mC M) pc = .ok (.tableswitch df lo hi offs, len)) (hp : y_switch ih e full rest lv st Y d = some l) : GoodY GI mk σ d mi pc clv cst ph nc ns l := by
  unfold y_switch at hp
  split at hp
  case h_2 => cases hp
  rename_i x r
  obtain ⟨xv, c2, rfl, hx, hS2⟩ := hS.pop
  obtain ⟨_, _, X, -, rfl, -, -, hp⟩ := rngK_ok hp hS.env hx
  generalize e.2.2.1 = a at hs hp
  generalize e.2.2.2.2.2.2 = ts at hs hp
  cases ts with
  | nil => cases hs
  | cons b0 ts =>
    have hp : swY ih full lv x r d b0 64 a ts Y = some l := hp
    unfold swB at hs
    simp only [Bool.and_eq_true, decide_eq_true_eq, List.all_eq_true, List.mem_range] at hs
    obtain ⟨⟨⟨⟨⟨⟨⟨s1, s2⟩, s3⟩, s4⟩, s5⟩, s6⟩, s7⟩, s8⟩ := hs
    have s5 := beq_of s5
    have s6 := ble_of s6
    have s7 := blt_iff.mp s7
    obtain ⟨Y', l', g1, g2, ⟨j, b, k1, k2, k3⟩ | ⟨k1, k2⟩⟩ := swY_ok hx hp hS2 (by omega)
    · have hj : j < ts.length := (List.getElem?_eq_some_iff.mp k1).1
      have h8 := s8 j hj
      rw [k1] at h8
      have hjo : j < offs.size := by omega
      have hoj : offs[j]? = some offs[j] := Array.getElem?_eq_getElem hjo
      rw [hoj] at h8
      obtain ⟨t, ht⟩ := jB_tg h8
      refine gy_step hA.1 hd (xca_sw _ _ _ _ _ _ _ _) (xre_sw _ _ _ _ _ _ _) (pc' := t) (clv' := clv) (cst' := c2) (ph' := ph) (nc' := nc) (ns' := ns) ?_ List.prefix_rfl (Fr.rfl' _ _) ((gy_jump hI hA.1 hA.2.1 h8 ht hD k3 g1).mono g2)
      refine st_sw_in (by omega) (o := offs[j]) ?_ ht
      rw [show (X.toInt - lo).toNat = j by omega]
      exact hoj
    · obtain ⟨t, ht⟩ := jB_tg s1
      refine gy_step hA.1 hd (xca_sw _ _ _ _ _ _ _ _) (xre_sw _ _ _ _ _ _ _) (pc' := t) (clv' := clv) (cst' := c2) (ph' := ph) (nc' := nc) (ns' := ns) ?_ List.prefix_rfl (Fr.rfl' _ _) ((gy_jump hI hA.1 hA.2.1 s1 ht hD k2 g1).mono g2)
      refine st_sw_out ?_ ht
      by_cases z1 : X.toInt < lo
      · exact Or.inl z1
      · right
        have hz := k1 (X.toInt - lo).toNat
        omega
theorem lcmp_cL (x y : Int64) : lg_cmp x y = if cL' x = cL' y then 0 else if cL' x < cL' y then -1 else 1 := by
  have h := lg_cmp_oL (cL'_lt x) (cL'_lt y)
  rw [oL_cL, oL_cL] at h
  exact h
theorem yk_lcmp (hC : CertAll) (hI : IHy GI mk D ih) (hA : AtC mi M full (e :: rest) pc) (hD : d ≤ D) (hS : YS GI σ Y lv st clv cst ph) (hd : decode (mC M) pc = .ok (.lcmp, 1)) (hlen : e.2.2.2.2.2.1 = 1) (hp : y_lcmp ih e full rest lv st Y d = some l) : GoodY GI mk σ d mi pc clv cst ph nc ns l := by
  unfold y_lcmp at hp
  split at hp
  case h_2 => cases hp
  obtain ⟨y0, c1, rfl, hy, hS1⟩ := hS.pop
  obtain ⟨x0, c2, rfl, hx, hS2⟩ := hS1.pop
  obtain ⟨a, b, x, kx, rfl, a1, a2, hp⟩ := rngL_ok hp hS.env hx
  obtain ⟨c, e', y, ky, rfl, a3, a4, hp⟩ := rngL_ok hp hS.env hy
  obtain ⟨l1, l2, h1, h2, rfl⟩ := yapp_ok hp
  obtain ⟨l3, l4, h3, h4, rfl⟩ := yapp_ok h2
  have hst : ∀ r : Int32, lg_cmp x y = r → stp M d .lcmp 1 (pc, clv, .long y :: .long x :: c2, ph, nc, ns) = some (pc + 1, clv, .int r :: c2, ph, nc, ns) := by
    intro r hr
    simp [stp, x_ld, x_st, x_ar, hr]
  have hl := lcmp_cL x y
  by_cases heq : cL' x = cL' y
  · rw [if_pos heq] at hl
    have h3 := ifR_true h3 (by rw [Bool.and_eq_true]; exact ⟨Nat.ble_eq_true_of_le (by omega), Nat.ble_eq_true_of_le (by omega)⟩)
    rw [sayL_eq] at h3
    have hS3 := (hS2.said (c := 1) (a := maxN a c) (b := minN b e') hx ⟨x, rfl, maxN_ok a1 (by omega), minN_ok a2 (by omega)⟩).push (v := .inl oZ) (x := .int 0) ⟨by rw [oI_z], by decide⟩
    exact (gy_plain hC hI hA hD hlen hd rfl rfl (hst 0 hl) List.prefix_rfl hS3 h3).mono (fun o ho => List.mem_append_right _ (List.mem_append_left _ ho))
  · rw [if_neg heq] at hl
    by_cases hlt : cL' x < cL' y
    · rw [if_pos hlt] at hl
      have h1 := ifR_true h1 (blt_iff.mpr (by omega))
      rw [sayL_eq] at h1
      have hS3 := (hS2.said (c := 1) (a := a) (b := minN b (e' - 1)) hx ⟨x, rfl, a1, minN_ok a2 (by omega)⟩).push (v := .inl 2147483647) (x := .int (-1)) ⟨by decide, by decide⟩
      exact (gy_plain hC hI hA hD hlen hd rfl rfl (hst (-1) hl) List.prefix_rfl hS3 h1).mono (fun o ho => List.mem_append_left _ ho)
    · rw [if_neg hlt] at hl
      have h4 := ifR_true h4 (blt_iff.mpr (by omega))
      rw [sayL_eq] at h4
      have hS3 := (hS2.said (c := 1) (a := maxN a (c + 1)) (b := b) hx ⟨x, rfl, maxN_ok a1 (by omega), a2⟩).push (v := .inl 2147483649) (x := .int 1) ⟨by decide, by decide⟩
      exact (gy_plain hC hI hA hD hlen hd rfl rfl (hst 1 hl) List.prefix_rfl hS3 h4).mono (fun o ho => List.mem_append_right _ (List.mem_append_right _ ho))
end YF

/-! ===== the abstract machine: constants, loads, stores ===== -/
section YC
variable {GI : PH → Prop} {mk D : Nat} {σ : List Value} {ih : YB} {e : CE} {full rest : List CE} {lv : List (Option YV)} {st : List YV} {Y : YE} {d mi pc nc ns : Nat} {l : List YO} {M : MR} {clv : PV} {cst : List Value} {ph : PH}
theorem yk_iconst (hC : CertAll) (hI : IHy GI mk D ih) (hA : AtC mi M full (e :: rest) pc) (hD : d ≤ D) (hS : YS GI σ Y lv st clv cst ph) {v : Int} (ha : oI e.2.2.1 = Int32.ofInt v) (hd : decode (mC M) pc = .ok (.iconst v, 1)) (hlen : e.2.2.2.2.2.1 = 1) (hp : y_iconst ih e full rest lv st Y d = some l) : GoodY GI mk σ d mi pc clv cst ph nc ns l := by
  unfold y_iconst at hp
  cases hb : Nat.blt e.2.2.1 oM with
  | false => rw [hb] at hp; cases hp
  | true =>
  rw [hb, cond_true, fN_eq] at hp
  have hb := blt_iff.mp hb
  exact gy_plain hC hI hA hD hlen hd rfl rfl (clv' := clv) (cst' := .int (Int32.ofInt v) :: cst) (by simp [stp, x_ld]) List.prefix_rfl (hS.push (v := .inl e.2.2.1) ⟨by rw [ha], hb⟩) hp
theorem yk_bipush (hC : CertAll) (hI : IHy GI mk D ih) (hA : AtC mi M full (e :: rest) pc) (hD : d ≤ D) (hS : YS GI σ Y lv st clv cst ph) {v : Int} (ha : oI e.2.2.1 = (Int8.ofInt v).toInt32) (hd : decode (mC M) pc = .ok (.bipush v, 2)) (hlen : e.2.2.2.2.2.1 = 2) (hp : y_iconst ih e full rest lv st Y d = some l) : GoodY GI mk σ d mi pc clv cst ph nc ns l := by
  unfold y_iconst at hp
  cases hb : Nat.blt e.2.2.1 oM with
  | false => rw [hb] at hp; cases hp
  | true =>
  rw [hb, cond_true, fN_eq] at hp
  have hb := blt_iff.mp hb
  exact gy_plain hC hI hA hD hlen hd rfl rfl (clv' := clv) (cst' := .int (Int8.ofInt v).toInt32 :: cst) (by simp [stp, x_ld]) List.prefix_rfl (hS.push (v := .inl e.2.2.1) ⟨by rw [ha], hb⟩) hp
theorem yk_sipush (hC : CertAll) (hI : IHy GI mk D ih) (hA : AtC mi M full (e :: rest) pc) (hD : d ≤ D) (hS : YS GI σ Y lv st clv cst ph) {v : Int} (ha : oI e.2.2.1 = (Int16.ofInt v).toInt32) (hd : decode (mC M) pc = .ok (.sipush v, 3)) (hlen : e.2.2.2.2.2.1 = 3) (hp : y_iconst ih e full rest lv st Y d = some l) : GoodY GI mk σ d mi pc clv cst ph nc ns l := by
  unfold y_iconst at hp
  cases hb : Nat.blt e.2.2.1 oM with
  | false => rw [hb] at hp; cases hp
  | true =>
  rw [hb, cond_true, fN_eq] at hp
  have hb := blt_iff.mp hb
  exact gy_plain hC hI hA hD hlen hd rfl rfl (clv' := clv) (cst' := .int (Int16.ofInt v).toInt32 :: cst) (by simp [stp, x_ld]) List.prefix_rfl (hS.push (v := .inl e.2.2.1) ⟨by rw [ha], hb⟩) hp
theorem yk_lconst (hC : CertAll) (hI : IHy GI mk D ih) (hA : AtC mi M full (e :: rest) pc) (hD : d ≤ D) (hS : YS GI σ Y lv st clv cst ph) {v : Fin 2} (ha : oL e.2.2.1 = Int64.ofNat (v : Nat)) (hd : decode (mC M) pc = .ok (.lconst v, 1)) (hlen : e.2.2.2.2.2.1 = 1) (hp : y_long ih e full rest lv st Y d = some l) : GoodY GI mk σ d mi pc clv cst ph nc ns l := by
  unfold y_long at hp
  cases hb : Nat.blt e.2.2.1 oN with
  | false => rw [hb] at hp; cases hp
  | true =>
  rw [hb, cond_true, frK_eq] at hp
  have hb := blt_iff.mp hb
  obtain ⟨hS1, hv⟩ := hS.fresh (p := (1, e.2.2.1, e.2.2.1)) (x := .long (oL e.2.2.1)) ⟨_, rfl, by rw [cL'_oL hb]; exact Nat.le_refl _, by rw [cL'_oL hb]; exact Nat.le_refl _⟩
  exact gy_plain hC hI hA hD hlen hd rfl rfl (clv' := clv) (cst' := .long (oL e.2.2.1) :: cst) (by rw [ha]; simp [stp, x_ld]) (pre_app _ _) (hS1.push hv) hp
theorem yk_ldc2 (hC : CertAll) (hI : IHy GI mk D ih) (hA : AtC mi M full (e :: rest) pc) (hD : d ≤ D) (hS : YS GI σ Y lv st clv cst ph) {ix : Nat} (ha : klF (mO M) ix = some (oL e.2.2.1)) (hd : decode (mC M) pc = .ok (.ldc2_w ix, 3)) (hlen : e.2.2.2.2.2.1 = 3) (hp : y_long ih e full rest lv st Y d = some l) : GoodY GI mk σ d mi pc clv cst ph nc ns l := by
  unfold y_long at hp
  cases hb : Nat.blt e.2.2.1 oN with
  | false => rw [hb] at hp; cases hp
  | true =>
  rw [hb, cond_true, frK_eq] at hp
  have hb := blt_iff.mp hb
  obtain ⟨hS1, hv⟩ := hS.fresh (p := (1, e.2.2.1, e.2.2.1)) (x := .long (oL e.2.2.1)) ⟨_, rfl, by rw [cL'_oL hb]; exact Nat.le_refl _, by rw [cL'_oL hb]; exact Nat.le_refl _⟩
  exact gy_plain hC hI hA hD hlen hd rfl rfl (clv' := clv) (cst' := .long (oL e.2.2.1) :: cst) (by simp [stp, x_ld, x_st, x_ar, x_br, x_hp, ha]) (pre_app _ _) (hS1.push hv) hp
theorem yload_inv (hS : YS GI σ Y lv st clv cst ph) (hp : y_load ih e full rest lv st Y d = some l) : ∃ v x, gl clv e.2.2.1 = some x ∧ valR σ v x ∧ ((e.2.2.2.2.1 = 0 ∧ ∃ z, x = .int z) ∨ (e.2.2.2.2.1 = 2 ∧ ∃ z, x = .long z) ∨ (e.2.2.2.2.1 = 3 ∧ ∃ z, x = .ref z)) ∧ ih full rest lv (v :: st) Y d = some l := by
  unfold y_load at hp
  split at hp
  case h_2 => cases hp
  rename_i v hv
  obtain ⟨x, x1, x2⟩ := hS.2.2.2.1 _ _ hv
  cases hk : kOK e.2.2.2.2.1 (knd Y.2.1 v).1 with
  | false => rw [hk] at hp; cases hp
  | true =>
    rw [hk, cond_true] at hp
    refine ⟨v, x, x1, x2, ?_, hp⟩
    rcases kOK_ok hk with ⟨a, b⟩ | ⟨a, b⟩ | ⟨a, b⟩
    · obtain ⟨z, z1, -⟩ := knd_kind hS.env x2 b (by decide)
      exact Or.inl ⟨a, z, z1⟩
    · obtain ⟨z, z1, -⟩ := knd_kind hS.env x2 b (by decide)
      exact Or.inr (Or.inl ⟨a, z, z1⟩)
    · obtain ⟨z, z1, -⟩ := knd_kind hS.env x2 b (by decide)
      exact Or.inr (Or.inr ⟨a, z, z1⟩)
theorem yk_iload (hC : CertAll) (hI : IHy GI mk D ih) (hA : AtC mi M full (e :: rest) pc) (hD : d ≤ D) (hS : YS GI σ Y lv st clv cst ph) {k : Nat} (ha : e.2.2.1 = k) (hx : e.2.2.2.2.1 = 0) (hd : decode (mC M) pc = .ok (.iload k, 2)) (hlen : e.2.2.2.2.2.1 = 2) (hp : y_load ih e full rest lv st Y d = some l) : GoodY GI mk σ d mi pc clv cst ph nc ns l := by
  obtain ⟨v, x, h1, h2, h3, h4⟩ := yload_inv hS hp
  rw [ha] at h1
  rw [hx] at h3
  rcases h3 with ⟨q, z, rfl⟩ | ⟨q, z, rfl⟩ | ⟨q, z, rfl⟩
  all_goals first | (cases q; done) | exact gy_plain hC hI hA hD hlen hd rfl rfl (clv' := clv) (cst' := _ :: cst) (by simp only [stp, x_ld, h1]; rfl) List.prefix_rfl (hS.push h2) h4
theorem yk_iload_n (hC : CertAll) (hI : IHy GI mk D ih) (hA : AtC mi M full (e :: rest) pc) (hD : d ≤ D) (hS : YS GI σ Y lv st clv cst ph) {k : Fin 4} (ha : e.2.2.1 = (k : Nat)) (hx : e.2.2.2.2.1 = 0) (hd : decode (mC M) pc = .ok (.iload_n k, 1)) (hlen : e.2.2.2.2.2.1 = 1) (hp : y_load ih e full rest lv st Y d = some l) : GoodY GI mk σ d mi pc clv cst ph nc ns l := by
  obtain ⟨v, x, h1, h2, h3, h4⟩ := yload_inv hS hp
  rw [ha] at h1
  rw [hx] at h3
  rcases h3 with ⟨q, z, rfl⟩ | ⟨q, z, rfl⟩ | ⟨q, z, rfl⟩
  all_goals first | (cases q; done) | exact gy_plain hC hI hA hD hlen hd rfl rfl (clv' := clv) (cst' := _ :: cst) (by simp only [stp, x_ld, h1]; rfl) List.prefix_rfl (hS.push h2) h4
theorem yk_lload (hC : CertAll) (hI : IHy GI mk D ih) (hA : AtC mi M full (e :: rest) pc) (hD : d ≤ D) (hS : YS GI σ Y lv st clv cst ph) {k : Nat} (ha : e.2.2.1 = k) (hx : e.2.2.2.2.1 = 2) (hd : decode (mC M) pc = .ok (.lload k, 2)) (hlen : e.2.2.2.2.2.1 = 2) (hp : y_load ih e full rest lv st Y d = some l) : GoodY GI mk σ d mi pc clv cst ph nc ns l := by
  obtain ⟨v, x, h1, h2, h3, h4⟩ := yload_inv hS hp
  rw [ha] at h1
  rw [hx] at h3
  rcases h3 with ⟨q, z, rfl⟩ | ⟨q, z, rfl⟩ | ⟨q, z, rfl⟩
  all_goals first | (cases q; done) | exact gy_plain hC hI hA hD hlen hd rfl rfl (clv' := clv) (cst' := _ :: cst) (by simp only [stp, x_ld, h1]; rfl) List.prefix_rfl (hS.push h2) h4
theorem yk_lload_n (hC : CertAll) (hI : IHy GI mk D ih) (hA : AtC mi M full (e :: rest) pc) (hD : d ≤ D) (hS : YS GI σ Y lv st clv cst ph) {k : Fin 4} (ha : e.2.2.1 = (k : Nat)) (hx : e.2.2.2.2.1 = 2) (hd : decode (mC M) pc = .ok (.lload_n k, 1)) (hlen : e.2.2.2.2.2.1 = 1) (hp : y_load ih e full rest lv st Y d = some l) : GoodY GI mk σ d mi pc clv cst ph nc ns l := by
  obtain ⟨v, x, h1, h2, h3, h4⟩ := yload_inv hS hp
  rw [ha] at h1
  rw [hx] at h3
  rcases h3 with ⟨q, z, rfl⟩ | ⟨q, z, rfl⟩ | ⟨q, z, rfl⟩
  all_goals first | (cases q; done) | exact gy_plain hC hI hA hD hlen hd rfl rfl (clv' := clv) (cst' := _ :: cst) (by simp only [stp, x_ld, h1]; rfl) List.prefix_rfl (hS.push h2) h4
theorem yk_aload (hC : CertAll) (hI : IHy GI mk D ih) (hA : AtC mi M full (e :: rest) pc) (hD : d ≤ D) (hS : YS GI σ Y lv st clv cst ph) {k : Nat} (ha : e.2.2.1 = k) (hx : e.2.2.2.2.1 = 3) (hd : decode (mC M) pc = .ok (.aload k, 2)) (hlen : e.2.2.2.2.2.1 = 2) (hp : y_load ih e full rest lv st Y d = some l) : GoodY GI mk σ d mi pc clv cst ph nc ns l := by
  obtain ⟨v, x, h1, h2, h3, h4⟩ := yload_inv hS hp
  rw [ha] at h1
  rw [hx] at h3
  rcases h3 with ⟨q, z, rfl⟩ | ⟨q, z, rfl⟩ | ⟨q, z, rfl⟩
  all_goals first | (cases q; done) | exact gy_plain hC hI hA hD hlen hd rfl rfl (clv' := clv) (cst' := _ :: cst) (by simp only [stp, x_ld, h1]; rfl) List.prefix_rfl (hS.push h2) h4
theorem yk_aload_n (hC : CertAll) (hI : IHy GI mk D ih) (hA : AtC mi M full (e :: rest) pc) (hD : d ≤ D) (hS : YS GI σ Y lv st clv cst ph) {k : Fin 4} (ha : e.2.2.1 = (k : Nat)) (hx : e.2.2.2.2.1 = 3) (hd : decode (mC M) pc = .ok (.aload_n k, 1)) (hlen : e.2.2.2.2.2.1 = 1) (hp : y_load ih e full rest lv st Y d = some l) : GoodY GI mk σ d mi pc clv cst ph nc ns l := by
  obtain ⟨v, x, h1, h2, h3, h4⟩ := yload_inv hS hp
  rw [ha] at h1
  rw [hx] at h3
  rcases h3 with ⟨q, z, rfl⟩ | ⟨q, z, rfl⟩ | ⟨q, z, rfl⟩
  all_goals first | (cases q; done) | exact gy_plain hC hI hA hD hlen hd rfl rfl (clv' := clv) (cst' := _ :: cst) (by simp only [stp, x_ld, h1]; rfl) List.prefix_rfl (hS.push h2) h4
theorem preOK_ok (hS : YS GI σ Y lv st clv cst ph) {i : Nat} (h : preOK Y.2.1 lv i = true) {j : Nat} {v : YV} {x : Value} (hj : lv[j]? = some (some v)) (hv : valR σ v x) : ¬ (j + 1 = i ∧ x.category = 2) := by
  rintro ⟨rfl, hc⟩
  unfold preOK at h
  dsimp only at h
  rw [hj] at h
  dsimp only at h
  split at h
  · rename_i a b hk
    obtain ⟨z, rfl, -⟩ := knd_ok hS.env hv hk (show (0 : Nat) ≠ 9 by decide)
    cases hc
  · rename_i a b hk
    obtain ⟨z, rfl, -⟩ := knd_ok hS.env hv hk (show (2 : Nat) ≠ 9 by decide)
    cases hc
  · cases h
theorem LRY_sl1 (hS : YS GI σ Y lv st clv cst ph) {i : Nat} (h : preOK Y.2.1 lv i = true) {v : YV} {x : Value} (hv : valR σ v x) : LRY σ (lstS lv i (some v)) (sl1 clv i x) := by
  intro j w hw
  rcases lstS_get _ _ _ _ _ hw with ⟨rfl, e2⟩ | ⟨hne, hj⟩
  · cases e2
    exact ⟨x, gl_sl1_self _ _ _, hv⟩
  · obtain ⟨y, y1, y2⟩ := hS.2.2.2.1 j w hj
    exact ⟨y, gl_sl1 y1 hne (preOK_ok hS h hj y2), y2⟩
theorem LRY_sl2 (hS : YS GI σ Y lv st clv cst ph) {i : Nat} (h : preOK Y.2.1 lv i = true) {v : YV} {x : Value} (hv : valR σ v x) : LRY σ (lstS (lstS lv i (some v)) (i + 1) none) (sl2 clv i x) := by
  intro j w hw
  rcases lstS_get _ _ _ _ _ hw with ⟨_, e2⟩ | ⟨hne1, hw⟩
  · cases e2
  rcases lstS_get _ _ _ _ _ hw with ⟨rfl, e2⟩ | ⟨hne, hj⟩
  · cases e2
    exact ⟨x, gl_sl2_self _ _ _, hv⟩
  · obtain ⟨y, y1, y2⟩ := hS.2.2.2.1 j w hj
    exact ⟨y, gl_sl2 y1 hne hne1 (preOK_ok hS h hj y2), y2⟩
theorem YS.loc (hS : YS GI σ Y lv st clv cst ph) {lv' : List (Option YV)} {clv' : PV} (h : LRY σ lv' clv') : YS GI σ Y lv' st clv' cst ph := ⟨hS.1, hS.2.1, hS.2.2.1, h, hS.2.2.2.2⟩
theorem ystore_inv (hS : YS GI σ Y lv st clv cst ph) (hp : y_store ih e full rest lv st Y d = some l) : ∃ v r x cst', st = v :: r ∧ cst = x :: cst' ∧ valR σ v x ∧ YS GI σ Y lv r clv cst' ph ∧ ((e.2.2.2.2.1 = 0 ∧ ∃ z, x = .int z) ∨ (e.2.2.2.2.1 = 2 ∧ ∃ z, x = .long z) ∨ (e.2.2.2.2.1 = 3 ∧ ∃ z, x = .ref z)) ∧ preOK Y.2.1 lv e.2.2.1 = true ∧ ih full rest (lstS lv e.2.2.1 (some v)) r Y d = some l := by
  unfold y_store at hp
  split at hp
  case h_2 => cases hp
  rename_i v r
  obtain ⟨x, cst', rfl, hv, hS'⟩ := hS.pop
  cases hk : (kOK e.2.2.2.2.1 (knd Y.2.1 v).1 && preOK Y.2.1 lv e.2.2.1) with
  | false => rw [hk] at hp; cases hp
  | true =>
    rw [hk, cond_true, lstK_eq] at hp
    rw [Bool.and_eq_true] at hk
    refine ⟨v, r, x, cst', rfl, rfl, hv, hS', ?_, hk.2, hp⟩
    rcases kOK_ok hk.1 with ⟨a, b⟩ | ⟨a, b⟩ | ⟨a, b⟩
    · obtain ⟨z, z1, -⟩ := knd_kind hS.env hv b (by decide)
      exact Or.inl ⟨a, z, z1⟩
    · obtain ⟨z, z1, -⟩ := knd_kind hS.env hv b (by decide)
      exact Or.inr (Or.inl ⟨a, z, z1⟩)
    · obtain ⟨z, z1, -⟩ := knd_kind hS.env hv b (by decide)
      exact Or.inr (Or.inr ⟨a, z, z1⟩)
theorem yk_istore (hC : CertAll) (hI : IHy GI mk D ih) (hA : AtC mi M full (e :: rest) pc) (hD : d ≤ D) (hS : YS GI σ Y lv st clv cst ph) {k : Nat} (ha : e.2.2.1 = k) (hx : e.2.2.2.2.1 = 0) (hk : k < mL M) (hd : decode (mC M) pc = .ok (.istore k, 2)) (hlen : e.2.2.2.2.2.1 = 2) (hp : y_store ih e full rest lv st Y d = some l) : GoodY GI mk σ d mi pc clv cst ph nc ns l := by
  obtain ⟨v, r, x, cst', rfl, rfl, h2, hS', h3, h5, h4⟩ := ystore_inv hS hp
  have hL := LRY_sl1 hS' h5 h2
  rw [ha] at hL
  rw [hx] at h3
  rw [ha] at h4
  rcases h3 with ⟨q, z, rfl⟩ | ⟨q, z, rfl⟩ | ⟨q, z, rfl⟩
  all_goals first | (cases q; done) | exact gy_plain hC hI hA hD hlen hd rfl rfl (clv' := sl1 clv k _) (cst' := cst') (by simp [stp, x_ld, x_st, hk]) List.prefix_rfl (hS'.loc hL) h4
theorem yk_istore_n (hC : CertAll) (hI : IHy GI mk D ih) (hA : AtC mi M full (e :: rest) pc) (hD : d ≤ D) (hS : YS GI σ Y lv st clv cst ph) {k : Fin 4} (ha : e.2.2.1 = (k : Nat)) (hx : e.2.2.2.2.1 = 0) (hk : (k : Nat) < mL M) (hd : decode (mC M) pc = .ok (.istore_n k, 1)) (hlen : e.2.2.2.2.2.1 = 1) (hp : y_store ih e full rest lv st Y d = some l) : GoodY GI mk σ d mi pc clv cst ph nc ns l := by
  obtain ⟨v, r, x, cst', rfl, rfl, h2, hS', h3, h5, h4⟩ := ystore_inv hS hp
  have hL := LRY_sl1 hS' h5 h2
  rw [ha] at hL
  rw [hx] at h3
  rw [ha] at h4
  rcases h3 with ⟨q, z, rfl⟩ | ⟨q, z, rfl⟩ | ⟨q, z, rfl⟩
  all_goals first | (cases q; done) | exact gy_plain hC hI hA hD hlen hd rfl rfl (clv' := sl1 clv (k : Nat) _) (cst' := cst') (by simp [stp, x_ld, x_st, hk]) List.prefix_rfl (hS'.loc hL) h4
theorem yk_astore (hC : CertAll) (hI : IHy GI mk D ih) (hA : AtC mi M full (e :: rest) pc) (hD : d ≤ D) (hS : YS GI σ Y lv st clv cst ph) {k : Nat} (ha : e.2.2.1 = k) (hx : e.2.2.2.2.1 = 3) (hk : k < mL M) (hd : decode (mC M) pc = .ok (.astore k, 2)) (hlen : e.2.2.2.2.2.1 = 2) (hp : y_store ih e full rest lv st Y d = some l) : GoodY GI mk σ d mi pc clv cst ph nc ns l := by
  obtain ⟨v, r, x, cst', rfl, rfl, h2, hS', h3, h5, h4⟩ := ystore_inv hS hp
  have hL := LRY_sl1 hS' h5 h2
  rw [ha] at hL
  rw [hx] at h3
  rw [ha] at h4
  rcases h3 with ⟨q, z, rfl⟩ | ⟨q, z, rfl⟩ | ⟨q, z, rfl⟩
  all_goals first | (cases q; done) | exact gy_plain hC hI hA hD hlen hd rfl rfl (clv' := sl1 clv k _) (cst' := cst') (by simp [stp, x_ld, x_st, hk]) List.prefix_rfl (hS'.loc hL) h4
theorem yk_astore_n (hC : CertAll) (hI : IHy GI mk D ih) (hA : AtC mi M full (e :: rest) pc) (hD : d ≤ D) (hS : YS GI σ Y lv st clv cst ph) {k : Fin 4} (ha : e.2.2.1 = (k : Nat)) (hx : e.2.2.2.2.1 = 3) (hk : (k : Nat) < mL M) (hd : decode (mC M) pc = .ok (.astore_n k, 1)) (hlen : e.2.2.2.2.2.1 = 1) (hp : y_store ih e full rest lv st Y d = some l) : GoodY GI mk σ d mi pc clv cst ph nc ns l := by
  obtain ⟨v, r, x, cst', rfl, rfl, h2, hS', h3, h5, h4⟩ := ystore_inv hS hp
  have hL := LRY_sl1 hS' h5 h2
  rw [ha] at hL
  rw [hx] at h3
  rw [ha] at h4
  rcases h3 with ⟨q, z, rfl⟩ | ⟨q, z, rfl⟩ | ⟨q, z, rfl⟩
  all_goals first | (cases q; done) | exact gy_plain hC hI hA hD hlen hd rfl rfl (clv' := sl1 clv (k : Nat) _) (cst' := cst') (by simp [stp, x_ld, x_st, hk]) List.prefix_rfl (hS'.loc hL) h4
theorem yk_lstore (hC : CertAll) (hI : IHy GI mk D ih) (hA : AtC mi M full (e :: rest) pc) (hD : d ≤ D) (hS : YS GI σ Y lv st clv cst ph) {k : Nat} (ha : e.2.2.1 = k) (hk : k + 1 < mL M) (hd : decode (mC M) pc = .ok (.lstore k, 2)) (hlen : e.2.2.2.2.2.1 = 2) (hp : y_storeL ih e full rest lv st Y d = some l) : GoodY GI mk σ d mi pc clv cst ph nc ns l := by
  unfold y_storeL at hp
  split at hp
  case h_2 => cases hp
  rename_i v r
  obtain ⟨x, cst', rfl, hv, hS'⟩ := hS.pop
  cases hq : (kOK 2 (knd Y.2.1 v).1 && preOK Y.2.1 lv e.2.2.1) with
  | false => rw [hq] at hp; cases hp
  | true =>
    rw [hq, cond_true, lstK_eq, lstK_eq] at hp
    rw [Bool.and_eq_true] at hq
    have hL := LRY_sl2 hS' hq.2 hv
    rw [ha] at hL hp
    rcases kOK_ok hq.1 with ⟨a, b⟩ | ⟨a, b⟩ | ⟨a, b⟩
    · cases a
    · obtain ⟨z, rfl, -⟩ := knd_kind hS.env hv b (by decide)
      exact gy_plain hC hI hA hD hlen hd rfl rfl (clv' := sl2 clv k _) (cst' := cst') (by simp [stp, x_ld, x_st, hk]) List.prefix_rfl (hS'.loc hL) hp
    · cases a
theorem yk_lstore_n (hC : CertAll) (hI : IHy GI mk D ih) (hA : AtC mi M full (e :: rest) pc) (hD : d ≤ D) (hS : YS GI σ Y lv st clv cst ph) {k : Fin 4} (ha : e.2.2.1 = (k : Nat)) (hk : (k : Nat) + 1 < mL M) (hd : decode (mC M) pc = .ok (.lstore_n k, 1)) (hlen : e.2.2.2.2.2.1 = 1) (hp : y_storeL ih e full rest lv st Y d = some l) : GoodY GI mk σ d mi pc clv cst ph nc ns l := by
  unfold y_storeL at hp
  split at hp
  case h_2 => cases hp
  rename_i v r
  obtain ⟨x, cst', rfl, hv, hS'⟩ := hS.pop
  cases hq : (kOK 2 (knd Y.2.1 v).1 && preOK Y.2.1 lv e.2.2.1) with
  | false => rw [hq] at hp; cases hp
  | true =>
    rw [hq, cond_true, lstK_eq, lstK_eq] at hp
    rw [Bool.and_eq_true] at hq
    have hL := LRY_sl2 hS' hq.2 hv
    rw [ha] at hL hp
    rcases kOK_ok hq.1 with ⟨a, b⟩ | ⟨a, b⟩ | ⟨a, b⟩
    · cases a
    · obtain ⟨z, rfl, -⟩ := knd_kind hS.env hv b (by decide)
      exact gy_plain hC hI hA hD hlen hd rfl rfl (clv' := sl2 clv (k : Nat) _) (cst' := cst') (by simp [stp, x_ld, x_st, hk]) List.prefix_rfl (hS'.loc hL) hp
    · cases a
end YC

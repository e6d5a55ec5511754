/-! ===== the abstract machine: arithmetic ===== -/
theorem cI'_add (x y : Int32) : cI' (x + y) = (cI' x + cI' y + oZ) % oM := by
  have h : x + y = oI ((cI' x + cI' y + oZ) % oM) := by rw [oI_add, oI_cI, oI_cI]
  rw [h, cI'_oI (Nat.mod_lt _ (by decide))]
theorem cI'_sub (x y : Int32) : cI' (x - y) = (cI' x + (oM - cI' y) + oZ) % oM := by
  have h : x - y = oI ((cI' x + (oM - cI' y) + oZ) % oM) := by rw [oI_sub (Nat.le_of_lt (cI'_lt y)), oI_cI, oI_cI]
  rw [h, cI'_oI (Nat.mod_lt _ (by decide))]
theorem cI'_mul (x y : Int32) : cI' (x * y) = ((cI' x + oZ) * (cI' y + oZ) + oZ) % oM := by
  have h : x * y = oI (((cI' x + oZ) * (cI' y + oZ) + oZ) % oM) := by rw [oI_mul, oI_cI, oI_cI]
  rw [h, cI'_oI (Nat.mod_lt _ (by decide))]
theorem okI_fit {len a b : Nat} {z : Int32} (h : b < oM → a ≤ cI' z ∧ cI' z ≤ b) : fitT len (okI a b) (.int z) := by
  unfold okI
  cases hb : Nat.blt b oM with
  | false => exact fit_full _ _
  | true =>
    obtain ⟨h1, h2⟩ := h (blt_iff.mp hb)
    exact ⟨z, rfl, h1, h2⟩
theorem oM_two : oM = oZ + oZ := rfl
theorem oZ_pos : 0 < oZ := by decide
theorem num_add {Z M x y a b c d : Nat} (hM : M = Z + Z) (hz : Z ≤ a + c) (hb : b + d - Z < M) (h1 : a ≤ x) (h2 : x ≤ b) (h3 : c ≤ y) (h4 : y ≤ d) : a + c - Z ≤ (x + y + Z) % M ∧ (x + y + Z) % M ≤ b + d - Z := by
  have e : x + y + Z = (x + y - Z) + M := by omega
  rw [e, Nat.add_mod_right, Nat.mod_eq_of_lt (by omega)]
  omega
theorem num_sub {Z M x y a b c d : Nat} (hM : M = Z + Z) (hy : y < M) (hz : d ≤ a + Z) (hb : b + Z - c < M) (h1 : a ≤ x) (h2 : x ≤ b) (h3 : c ≤ y) (h4 : y ≤ d) : a + Z - d ≤ (x + (M - y) + Z) % M ∧ (x + (M - y) + Z) % M ≤ b + Z - c := by
  have e : x + (M - y) + Z = (x + Z - y) + M := by omega
  rw [e, Nat.add_mod_right, Nat.mod_eq_of_lt (by omega)]
  omega
theorem num_mul {Z M u w lo hi : Nat} (hM : M = Z + Z) (h0 : 0 < Z) (hb : hi + Z < M) (h1 : lo ≤ u * w) (h2 : u * w ≤ hi) : lo + Z ≤ ((u + M) * (w + M) + Z) % M ∧ ((u + M) * (w + M) + Z) % M ≤ hi + Z := by
  have e : (u + M) * (w + M) + Z = (u * w + Z) + M * (u + w + M) := by
    rw [Nat.add_mul, Nat.mul_add, Nat.mul_add, Nat.mul_add, Nat.mul_add, Nat.mul_comm u M]
    omega
  rw [e, Nat.add_mul_mod_self_left, Nat.mod_eq_of_lt (by omega)]
  omega
theorem rAdd_ok {len a b c d : Nat} {x y : Int32} (h1 : a ≤ cI' x) (h2 : cI' x ≤ b) (h3 : c ≤ cI' y) (h4 : cI' y ≤ d) : fitT len (rAdd a b c d) (.int (x + y)) := by
  have hM := oM_two
  have hx := cI'_add x y
  unfold rAdd
  generalize oZ = Z at hM hx ⊢
  cases hz : Nat.ble Z (a + c) with
  | false => exact fit_full _ _
  | true =>
    rw [cond_true]
    exact okI_fit (fun hb => by rw [hx]; exact num_add hM (ble_of hz) hb h1 h2 h3 h4)
theorem rSub_ok {len a b c d : Nat} {x y : Int32} (h1 : a ≤ cI' x) (h2 : cI' x ≤ b) (h3 : c ≤ cI' y) (h4 : cI' y ≤ d) : fitT len (rSub a b c d) (.int (x - y)) := by
  have hM := oM_two
  have hx := cI'_sub x y
  unfold rSub
  generalize oZ = Z at hM hx ⊢
  cases hz : Nat.ble d (a + Z) with
  | false => exact fit_full _ _
  | true =>
    rw [cond_true]
    exact okI_fit (fun hb => by rw [hx]; exact num_sub hM (cI'_lt y) (ble_of hz) hb h1 h2 h3 h4)
theorem num_split {Z M x : Nat} (hM : M = Z + Z) (h : Z ≤ x) : x + Z = (x - Z) + M := by omega
theorem num_mono {Z x a : Nat} (h : a ≤ x) : a - Z ≤ x - Z := Nat.sub_le_sub_right h Z
theorem rMul_ok {len a b c d : Nat} {x y : Int32} (h1 : a ≤ cI' x) (h2 : cI' x ≤ b) (h3 : c ≤ cI' y) (h4 : cI' y ≤ d) : fitT len (rMul a b c d) (.int (x * y)) := by
  have hM := oM_two
  have h0 := oZ_pos
  have hx := cI'_mul x y
  unfold rMul
  generalize oZ = Z at hM h0 hx ⊢
  cases hz : (Nat.ble Z a && Nat.ble Z c) with
  | false => exact fit_full _ _
  | true =>
    rw [cond_true]
    rw [Bool.and_eq_true] at hz
    rw [num_split hM (Nat.le_trans (ble_of hz.1) h1), num_split hM (Nat.le_trans (ble_of hz.2) h3)] at hx
    exact okI_fit (fun hb => by
      rw [hx]
      exact num_mul hM h0 hb (Nat.mul_le_mul (num_mono h1) (num_mono h3)) (Nat.mul_le_mul (num_mono h2) (num_mono h4)))
theorem num_div {Z M x y a b c : Nat} (hx : x < M) (hz : Z ≤ a) (hc : Z < c) (h1 : a ≤ x) (h2 : x ≤ b) (h3 : c ≤ y) : Z ≤ (x - Z) / (y - Z) + Z ∧ (x - Z) / (y - Z) + Z ≤ (b - Z) / (c - Z) + Z ∧ (x - Z) / (y - Z) + Z < M := by
  have hq : (x - Z) / (y - Z) ≤ (b - Z) / (c - Z) := Nat.le_trans (Nat.div_le_div_right (by omega)) (Nat.div_le_div_left (by omega) (by omega))
  have hlt : (x - Z) / (y - Z) ≤ x - Z := Nat.div_le_self _ _
  generalize (x - Z) / (y - Z) = q at hq hlt ⊢
  generalize (b - Z) / (c - Z) = r at hq ⊢
  omega
theorem num_rem {Z M x y d : Nat} (hy : y < M) (hc : Z < y) (h4 : y ≤ d) : Z ≤ (x - Z) % (y - Z) + Z ∧ (x - Z) % (y - Z) + Z ≤ d - 1 ∧ (x - Z) % (y - Z) + Z < M := by
  have hlt : (x - Z) % (y - Z) < y - Z := Nat.mod_lt _ (by omega)
  generalize (x - Z) % (y - Z) = q at hlt ⊢
  omega
theorem cI'_div {x y : Int32} (h1 : oZ ≤ cI' x) (h2 : oZ < cI' y) (h3 : (cI' x - oZ) / (cI' y - oZ) + oZ < oM) : cI' (x / y) = (cI' x - oZ) / (cI' y - oZ) + oZ := by
  have h := (oI_div h1 h2 (cI'_lt x) (cI'_lt y)).1
  rw [oI_cI, oI_cI] at h
  rw [← h, cI'_oI h3]
theorem cI'_rem {x y : Int32} (h1 : oZ ≤ cI' x) (h2 : oZ < cI' y) (h3 : (cI' x - oZ) % (cI' y - oZ) + oZ < oM) : cI' (x - x / y * y) = (cI' x - oZ) % (cI' y - oZ) + oZ := by
  have h := (oI_rem h1 h2 (cI'_lt x) (cI'_lt y)).1
  rw [oI_cI, oI_cI] at h
  rw [← h, cI'_oI h3]
theorem rDiv_ok {len a b c d : Nat} {x y : Int32} (h1 : a ≤ cI' x) (h2 : cI' x ≤ b) (h3 : c ≤ cI' y) (hc : oZ < c) : fitT len (rDiv a b c d) (.int (x / y)) := by
  have hx := @cI'_div x y
  have hlt := cI'_lt x
  unfold rDiv
  generalize oZ = Z at hx hc ⊢
  cases hz : Nat.ble Z a with
  | false => exact fit_full _ _
  | true =>
    rw [cond_true]
    have hn := num_div (Z := Z) (M := oM) hlt (ble_of hz) hc h1 h2 h3
    exact okI_fit (fun _ => by rw [hx (Nat.le_trans (ble_of hz) h1) (Nat.lt_of_lt_of_le hc h3) hn.2.2]; exact ⟨hn.1, hn.2.1⟩)
theorem rRem_ok {len a b c d : Nat} {x y : Int32} (h1 : a ≤ cI' x) (h3 : c ≤ cI' y) (h4 : cI' y ≤ d) (hc : oZ < c) : fitT len (rRem a b c d) (.int (x - x / y * y)) := by
  have hx := @cI'_rem x y
  have hlt := cI'_lt y
  unfold rRem
  generalize oZ = Z at hx hc ⊢
  cases hz : Nat.ble Z a with
  | false => exact fit_full _ _
  | true =>
    rw [cond_true]
    have hn := num_rem (Z := Z) (M := oM) (x := cI' x) hlt (Nat.lt_of_lt_of_le hc h3) h4
    have hq := hx (Nat.le_trans (ble_of hz) h1) (Nat.lt_of_lt_of_le hc h3) hn.2.2
    exact ⟨_, rfl, by rw [hq]; exact hn.1, by rw [hq]; exact hn.2.1⟩
theorem num_inc {M x a b t : Nat} (h1 : a ≤ x) (h2 : x ≤ b) (h3 : b + t < M) : a + t ≤ (x + t) % M ∧ (x + t) % M ≤ b + t := by
  rw [Nat.mod_eq_of_lt (by omega)]
  omega
theorem num_dec {M x a b t : Nat} (h1 : a ≤ x) (h2 : x ≤ b) (h3 : M ≤ a + t) (h4 : b + t - M < M) : a + t - M ≤ (x + t) % M ∧ (x + t) % M ≤ b + t - M := by
  have e : x + t = (x + t - M) + M := by omega
  rw [e, Nat.add_mod_right, Nat.mod_eq_of_lt (by omega)]
  omega
theorem rInc_ok {len a b t : Nat} {x y : Int32} (h1 : a ≤ cI' x) (h2 : cI' x ≤ b) (h : cI' y = (cI' x + t) % oM) : fitT len (rInc a b t) (.int y) := by
  unfold rInc
  generalize oM = M at h ⊢
  cases hb : Nat.blt (b + t) M with
  | true =>
    rw [cond_true]
    have hn := num_inc h1 h2 (blt_iff.mp hb)
    exact ⟨y, rfl, by rw [h]; exact hn.1, by rw [h]; exact hn.2⟩
  | false =>
    rw [cond_false]
    cases hc : (Nat.ble M (a + t) && Nat.blt (b + t - M) M) with
    | true =>
      rw [cond_true]
      rw [Bool.and_eq_true] at hc
      have hn := num_dec h1 h2 (ble_of hc.1) (blt_iff.mp hc.2)
      exact ⟨y, rfl, by rw [h]; exact hn.1, by rw [h]; exact hn.2⟩
    | false => exact fit_full _ _
section YD
variable {GI : PH → Prop} {mk D : Nat} {σ : List Value} {ih : YB} {e : CE} {full rest : List CE} {lv : List (Option YV)} {st : List YV} {Y : YE} {d mi pc nc ns : Nat} {l : List YO} {M : MR} {clv : PV} {cst : List Value} {ph : PH}
theorem ybin_inv {f : Nat → Nat → Nat} {g : Nat → Nat → Nat → Nat → FT} {op : Int32 → Int32 → Int32} (hS : YS GI σ Y lv st clv cst ph) (hp : y_bin f g ih e full rest lv st Y d = some l)
    (hf : ∀ x y : Int32, cI' (op x y) = f (cI' x) (cI' y)) (hg : ∀ (len a b c d : Nat) (x y : Int32), a ≤ cI' x → cI' x ≤ b → c ≤ cI' y → cI' y ≤ d → fitT len (g a b c d) (.int (op x y))) :
    ∃ x y cst', cst = .int y :: .int x :: cst' ∧ ∃ σ' Y' st', σ <+: σ' ∧ YS GI σ' Y' lv st' clv (.int (op x y) :: cst') ph ∧ ih full rest lv st' Y' d = some l := by
  unfold y_bin at hp
  split at hp
  case h_2 => cases hp
  rename_i vy vx r
  obtain ⟨y0, c1, rfl, hy, hS1⟩ := hS.pop
  obtain ⟨x0, c2, rfl, hx, hS2⟩ := hS1.pop
  unfold binI at hp
  obtain ⟨a, b, x, kx, rfl, a1, a2, hp⟩ := rngK_ok hp hS.env hx
  obtain ⟨c, e', y, ky, rfl, a3, a4, hp⟩ := rngK_ok hp hS.env hy
  refine ⟨x, y, c2, rfl, ?_⟩
  cases hb : (Nat.beq a b && Nat.beq c e') with
  | true =>
    rw [hb, cond_true] at hp
    dsimp only at hp
    rw [fN_eq] at hp
    rw [Bool.and_eq_true] at hb
    have b1 := beq_of hb.1
    have b2 := beq_of hb.2
    have e1 : cI' x = a := by omega
    have e2 : cI' y = c := by omega
    refine ⟨σ, Y, _, List.prefix_rfl, hS2.push (v := .inl (f a c)) ⟨?_, ?_⟩, hp⟩
    · rw [← e1, ← e2, ← hf, oI_cI]
    · rw [← e1, ← e2, ← hf]
      exact cI'_lt _
  | false =>
    rw [hb, cond_false] at hp
    dsimp only at hp
    rw [frK_eq] at hp
    obtain ⟨hS3, hv⟩ := hS2.fresh (hg ph.length a b c e' x y a1 a2 a3 a4)
    exact ⟨_, _, _, pre_app _ _, hS3.push hv, hp⟩
theorem yk_iadd (hC : CertAll) (hI : IHy GI mk D ih) (hA : AtC mi M full (e :: rest) pc) (hD : d ≤ D) (hS : YS GI σ Y lv st clv cst ph) (hd : decode (mC M) pc = .ok (.iadd, 1)) (hlen : e.2.2.2.2.2.1 = 1) (hp : y_iadd ih e full rest lv st Y d = some l) : GoodY GI mk σ d mi pc clv cst ph nc ns l := by
  obtain ⟨x, y, c2, rfl, σ', Y', st', h1, h2, h3⟩ := ybin_inv (op := fun x y => x + y) hS hp cI'_add (fun _ _ _ _ _ _ _ h1 h2 h3 h4 => rAdd_ok h1 h2 h3 h4)
  exact gy_plain hC hI hA hD hlen hd rfl rfl (clv' := clv) (by simp [stp, x_ld, x_st, x_ar]) h1 h2 h3
theorem yk_isub (hC : CertAll) (hI : IHy GI mk D ih) (hA : AtC mi M full (e :: rest) pc) (hD : d ≤ D) (hS : YS GI σ Y lv st clv cst ph) (hd : decode (mC M) pc = .ok (.isub, 1)) (hlen : e.2.2.2.2.2.1 = 1) (hp : y_isub ih e full rest lv st Y d = some l) : GoodY GI mk σ d mi pc clv cst ph nc ns l := by
  obtain ⟨x, y, c2, rfl, σ', Y', st', h1, h2, h3⟩ := ybin_inv (op := fun x y => x - y) hS hp cI'_sub (fun _ _ _ _ _ _ _ h1 h2 h3 h4 => rSub_ok h1 h2 h3 h4)
  exact gy_plain hC hI hA hD hlen hd rfl rfl (clv' := clv) (by simp [stp, x_ld, x_st, x_ar]) h1 h2 h3
theorem yk_imul (hC : CertAll) (hI : IHy GI mk D ih) (hA : AtC mi M full (e :: rest) pc) (hD : d ≤ D) (hS : YS GI σ Y lv st clv cst ph) (hd : decode (mC M) pc = .ok (.imul, 1)) (hlen : e.2.2.2.2.2.1 = 1) (hp : y_imul ih e full rest lv st Y d = some l) : GoodY GI mk σ d mi pc clv cst ph nc ns l := by
  obtain ⟨x, y, c2, rfl, σ', Y', st', h1, h2, h3⟩ := ybin_inv (op := fun x y => x * y) hS hp cI'_mul (fun _ _ _ _ _ _ _ h1 h2 h3 h4 => rMul_ok h1 h2 h3 h4)
  exact gy_plain hC hI hA hD hlen hd rfl rfl (clv' := clv) (by simp [stp, x_ld, x_st, x_ar]) h1 h2 h3
theorem yk_idiv (hC : CertAll) (hI : IHy GI mk D ih) (hA : AtC mi M full (e :: rest) pc) (hD : d ≤ D) (hS : YS GI σ Y lv st clv cst ph) (hd : decode (mC M) pc = .ok (.idiv, 1)) (hlen : e.2.2.2.2.2.1 = 1) (hp : y_idiv ih e full rest lv st Y d = some l) : GoodY GI mk σ d mi pc clv cst ph nc ns l := by
  unfold y_idiv at hp
  split at hp
  case h_2 => cases hp
  rename_i vy vx r
  obtain ⟨y0, c1, rfl, hy, hS1⟩ := hS.pop
  obtain ⟨x0, c2, rfl, hx, hS2⟩ := hS1.pop
  obtain ⟨a, b, x, kx, rfl, a1, a2, hp⟩ := rngK_ok hp hS.env hx
  obtain ⟨c, e', y, ky, rfl, a3, a4, hp⟩ := rngK_ok hp hS.env hy
  cases hb : Nat.blt oZ c with
  | false => rw [hb] at hp; cases hp
  | true =>
    rw [hb, cond_true, frK_eq] at hp
    have hb := blt_iff.mp hb
    have hne : ¬ y = 0 := by
      intro h
      subst h
      have h0 : cI' 0 = oZ := by decide
      rw [h0] at a3
      exact Nat.lt_irrefl _ (Nat.lt_of_lt_of_le hb a3)
    have hx' := cI'_lt x
    have hy' := cI'_lt y
    obtain ⟨hS3, hv⟩ := hS2.fresh (p := rDiv a b c e') (x := .int (x / y)) (rDiv_ok a1 a2 a3 hb)
    exact gy_plain hC hI hA hD hlen hd rfl rfl (clv' := clv) (st_idiv hne) (pre_app _ _) (hS3.push hv) hp
theorem yk_irem (hC : CertAll) (hI : IHy GI mk D ih) (hA : AtC mi M full (e :: rest) pc) (hD : d ≤ D) (hS : YS GI σ Y lv st clv cst ph) (hd : decode (mC M) pc = .ok (.irem, 1)) (hlen : e.2.2.2.2.2.1 = 1) (hp : y_irem ih e full rest lv st Y d = some l) : GoodY GI mk σ d mi pc clv cst ph nc ns l := by
  unfold y_irem at hp
  split at hp
  case h_2 => cases hp
  rename_i vy vx r
  obtain ⟨y0, c1, rfl, hy, hS1⟩ := hS.pop
  obtain ⟨x0, c2, rfl, hx, hS2⟩ := hS1.pop
  obtain ⟨a, b, x, kx, rfl, a1, a2, hp⟩ := rngK_ok hp hS.env hx
  obtain ⟨c, e', y, ky, rfl, a3, a4, hp⟩ := rngK_ok hp hS.env hy
  cases hb : Nat.blt oZ c with
  | false => rw [hb] at hp; cases hp
  | true =>
    rw [hb, cond_true, frK_eq] at hp
    have hb := blt_iff.mp hb
    have hne : ¬ y = 0 := by
      intro h
      subst h
      have h0 : cI' 0 = oZ := by decide
      rw [h0] at a3
      exact Nat.lt_irrefl _ (Nat.lt_of_lt_of_le hb a3)
    have hx' := cI'_lt x
    have hy' := cI'_lt y
    obtain ⟨hS3, hv⟩ := hS2.fresh (p := rRem a b c e') (x := .int (x - x / y * y)) (rRem_ok a1 a3 a4 hb)
    exact gy_plain hC hI hA hD hlen hd rfl rfl (clv' := clv) (st_irem hne) (pre_app _ _) (hS3.push hv) hp
theorem yk_iand (hC : CertAll) (hI : IHy GI mk D ih) (hA : AtC mi M full (e :: rest) pc) (hD : d ≤ D) (hS : YS GI σ Y lv st clv cst ph) (hd : decode (mC M) pc = .ok (.iand, 1)) (hlen : e.2.2.2.2.2.1 = 1) (hp : y_any2 ih e full rest lv st Y d = some l) : GoodY GI mk σ d mi pc clv cst ph nc ns l := by
  unfold y_any2 at hp
  split at hp
  case h_2 => cases hp
  rename_i vy vx r
  obtain ⟨y0, c1, rfl, hy, hS1⟩ := hS.pop
  obtain ⟨x0, c2, rfl, hx, hS2⟩ := hS1.pop
  obtain ⟨a, b, x, kx, rfl, a1, a2, hp⟩ := rngK_ok hp hS.env hx
  obtain ⟨c, e', y, ky, rfl, a3, a4, hp⟩ := rngK_ok hp hS.env hy
  rw [frK_eq] at hp
  obtain ⟨hS3, hv⟩ := hS2.fresh (fit_full ph.length (x &&& y))
  exact gy_plain hC hI hA hD hlen hd rfl rfl (clv' := clv) (by simp [stp, x_ld, x_st, x_ar]) (pre_app _ _) (hS3.push hv) hp
theorem yk_ior (hC : CertAll) (hI : IHy GI mk D ih) (hA : AtC mi M full (e :: rest) pc) (hD : d ≤ D) (hS : YS GI σ Y lv st clv cst ph) (hd : decode (mC M) pc = .ok (.ior, 1)) (hlen : e.2.2.2.2.2.1 = 1) (hp : y_any2 ih e full rest lv st Y d = some l) : GoodY GI mk σ d mi pc clv cst ph nc ns l := by
  unfold y_any2 at hp
  split at hp
  case h_2 => cases hp
  rename_i vy vx r
  obtain ⟨y0, c1, rfl, hy, hS1⟩ := hS.pop
  obtain ⟨x0, c2, rfl, hx, hS2⟩ := hS1.pop
  obtain ⟨a, b, x, kx, rfl, a1, a2, hp⟩ := rngK_ok hp hS.env hx
  obtain ⟨c, e', y, ky, rfl, a3, a4, hp⟩ := rngK_ok hp hS.env hy
  rw [frK_eq] at hp
  obtain ⟨hS3, hv⟩ := hS2.fresh (fit_full ph.length (x ||| y))
  exact gy_plain hC hI hA hD hlen hd rfl rfl (clv' := clv) (by simp [stp, x_ld, x_st, x_ar]) (pre_app _ _) (hS3.push hv) hp
theorem yk_ixor (hC : CertAll) (hI : IHy GI mk D ih) (hA : AtC mi M full (e :: rest) pc) (hD : d ≤ D) (hS : YS GI σ Y lv st clv cst ph) (hd : decode (mC M) pc = .ok (.ixor, 1)) (hlen : e.2.2.2.2.2.1 = 1) (hp : y_any2 ih e full rest lv st Y d = some l) : GoodY GI mk σ d mi pc clv cst ph nc ns l := by
  unfold y_any2 at hp
  split at hp
  case h_2 => cases hp
  rename_i vy vx r
  obtain ⟨y0, c1, rfl, hy, hS1⟩ := hS.pop
  obtain ⟨x0, c2, rfl, hx, hS2⟩ := hS1.pop
  obtain ⟨a, b, x, kx, rfl, a1, a2, hp⟩ := rngK_ok hp hS.env hx
  obtain ⟨c, e', y, ky, rfl, a3, a4, hp⟩ := rngK_ok hp hS.env hy
  rw [frK_eq] at hp
  obtain ⟨hS3, hv⟩ := hS2.fresh (fit_full ph.length (x ^^^ y))
  exact gy_plain hC hI hA hD hlen hd rfl rfl (clv' := clv) (by simp [stp, x_ld, x_st, x_ar]) (pre_app _ _) (hS3.push hv) hp
theorem yk_ishl (hC : CertAll) (hI : IHy GI mk D ih) (hA : AtC mi M full (e :: rest) pc) (hD : d ≤ D) (hS : YS GI σ Y lv st clv cst ph) (hd : decode (mC M) pc = .ok (.ishl, 1)) (hlen : e.2.2.2.2.2.1 = 1) (hp : y_any2 ih e full rest lv st Y d = some l) : GoodY GI mk σ d mi pc clv cst ph nc ns l := by
  unfold y_any2 at hp
  split at hp
  case h_2 => cases hp
  rename_i vy vx r
  obtain ⟨y0, c1, rfl, hy, hS1⟩ := hS.pop
  obtain ⟨x0, c2, rfl, hx, hS2⟩ := hS1.pop
  obtain ⟨a, b, x, kx, rfl, a1, a2, hp⟩ := rngK_ok hp hS.env hx
  obtain ⟨c, e', y, ky, rfl, a3, a4, hp⟩ := rngK_ok hp hS.env hy
  rw [frK_eq] at hp
  obtain ⟨hS3, hv⟩ := hS2.fresh (fit_full ph.length (x <<< (y &&& 31)))
  exact gy_plain hC hI hA hD hlen hd rfl rfl (clv' := clv) (by simp [stp, x_ld, x_st, x_ar]) (pre_app _ _) (hS3.push hv) hp
theorem yk_ishr (hC : CertAll) (hI : IHy GI mk D ih) (hA : AtC mi M full (e :: rest) pc) (hD : d ≤ D) (hS : YS GI σ Y lv st clv cst ph) (hd : decode (mC M) pc = .ok (.ishr, 1)) (hlen : e.2.2.2.2.2.1 = 1) (hp : y_any2 ih e full rest lv st Y d = some l) : GoodY GI mk σ d mi pc clv cst ph nc ns l := by
  unfold y_any2 at hp
  split at hp
  case h_2 => cases hp
  rename_i vy vx r
  obtain ⟨y0, c1, rfl, hy, hS1⟩ := hS.pop
  obtain ⟨x0, c2, rfl, hx, hS2⟩ := hS1.pop
  obtain ⟨a, b, x, kx, rfl, a1, a2, hp⟩ := rngK_ok hp hS.env hx
  obtain ⟨c, e', y, ky, rfl, a3, a4, hp⟩ := rngK_ok hp hS.env hy
  rw [frK_eq] at hp
  obtain ⟨hS3, hv⟩ := hS2.fresh (fit_full ph.length (x >>> (y &&& 31)))
  exact gy_plain hC hI hA hD hlen hd rfl rfl (clv' := clv) (by simp [stp, x_ld, x_st, x_ar]) (pre_app _ _) (hS3.push hv) hp
theorem yk_ineg (hC : CertAll) (hI : IHy GI mk D ih) (hA : AtC mi M full (e :: rest) pc) (hD : d ≤ D) (hS : YS GI σ Y lv st clv cst ph) (hd : decode (mC M) pc = .ok (.ineg, 1)) (hlen : e.2.2.2.2.2.1 = 1) (hp : y_ineg ih e full rest lv st Y d = some l) : GoodY GI mk σ d mi pc clv cst ph nc ns l := by
  unfold y_ineg at hp
  split at hp
  case h_2 => cases hp
  obtain ⟨x0, c2, rfl, hx, hS2⟩ := hS.pop
  obtain ⟨a, b, x, kx, rfl, a1, a2, hp⟩ := rngK_ok hp hS.env hx
  rw [frK_eq] at hp
  obtain ⟨hS3, hv⟩ := hS2.fresh (fit_full ph.length (-x))
  exact gy_plain hC hI hA hD hlen hd rfl rfl (clv' := clv) (by simp [stp, x_ld, x_st, x_ar]) (pre_app _ _) (hS3.push hv) hp
theorem yk_ladd (hC : CertAll) (hI : IHy GI mk D ih) (hA : AtC mi M full (e :: rest) pc) (hD : d ≤ D) (hS : YS GI σ Y lv st clv cst ph) (hd : decode (mC M) pc = .ok (.ladd, 1)) (hlen : e.2.2.2.2.2.1 = 1) (hp : y_l2 ih e full rest lv st Y d = some l) : GoodY GI mk σ d mi pc clv cst ph nc ns l := by
  unfold y_l2 at hp
  split at hp
  case h_2 => cases hp
  obtain ⟨y0, c1, rfl, hy, hS1⟩ := hS.pop
  obtain ⟨x0, c2, rfl, hx, hS2⟩ := hS1.pop
  obtain ⟨a, b, x, kx, rfl, a1, a2, hp⟩ := rngL_ok hp hS.env hx
  obtain ⟨c, e', y, ky, rfl, a3, a4, hp⟩ := rngL_ok hp hS.env hy
  rw [frK_eq] at hp
  obtain ⟨hS3, hv⟩ := hS2.fresh (fit_full64 ph.length (x + y))
  exact gy_plain hC hI hA hD hlen hd rfl rfl (clv' := clv) (by simp [stp, x_ld, x_st, x_ar]) (pre_app _ _) (hS3.push hv) hp
theorem yk_lsub (hC : CertAll) (hI : IHy GI mk D ih) (hA : AtC mi M full (e :: rest) pc) (hD : d ≤ D) (hS : YS GI σ Y lv st clv cst ph) (hd : decode (mC M) pc = .ok (.lsub, 1)) (hlen : e.2.2.2.2.2.1 = 1) (hp : y_l2 ih e full rest lv st Y d = some l) : GoodY GI mk σ d mi pc clv cst ph nc ns l := by
  unfold y_l2 at hp
  split at hp
  case h_2 => cases hp
  obtain ⟨y0, c1, rfl, hy, hS1⟩ := hS.pop
  obtain ⟨x0, c2, rfl, hx, hS2⟩ := hS1.pop
  obtain ⟨a, b, x, kx, rfl, a1, a2, hp⟩ := rngL_ok hp hS.env hx
  obtain ⟨c, e', y, ky, rfl, a3, a4, hp⟩ := rngL_ok hp hS.env hy
  rw [frK_eq] at hp
  obtain ⟨hS3, hv⟩ := hS2.fresh (fit_full64 ph.length (x - y))
  exact gy_plain hC hI hA hD hlen hd rfl rfl (clv' := clv) (by simp [stp, x_ld, x_st, x_ar]) (pre_app _ _) (hS3.push hv) hp
theorem yk_lmul (hC : CertAll) (hI : IHy GI mk D ih) (hA : AtC mi M full (e :: rest) pc) (hD : d ≤ D) (hS : YS GI σ Y lv st clv cst ph) (hd : decode (mC M) pc = .ok (.lmul, 1)) (hlen : e.2.2.2.2.2.1 = 1) (hp : y_l2 ih e full rest lv st Y d = some l) : GoodY GI mk σ d mi pc clv cst ph nc ns l := by
  unfold y_l2 at hp
  split at hp
  case h_2 => cases hp
  obtain ⟨y0, c1, rfl, hy, hS1⟩ := hS.pop
  obtain ⟨x0, c2, rfl, hx, hS2⟩ := hS1.pop
  obtain ⟨a, b, x, kx, rfl, a1, a2, hp⟩ := rngL_ok hp hS.env hx
  obtain ⟨c, e', y, ky, rfl, a3, a4, hp⟩ := rngL_ok hp hS.env hy
  rw [frK_eq] at hp
  obtain ⟨hS3, hv⟩ := hS2.fresh (fit_full64 ph.length (x * y))
  exact gy_plain hC hI hA hD hlen hd rfl rfl (clv' := clv) (by simp [stp, x_ld, x_st, x_ar]) (pre_app _ _) (hS3.push hv) hp
theorem yk_ldiv (hC : CertAll) (hI : IHy GI mk D ih) (hA : AtC mi M full (e :: rest) pc) (hD : d ≤ D) (hS : YS GI σ Y lv st clv cst ph) (hd : decode (mC M) pc = .ok (.ldiv, 1)) (hlen : e.2.2.2.2.2.1 = 1) (hp : y_ldiv ih e full rest lv st Y d = some l) : GoodY GI mk σ d mi pc clv cst ph nc ns l := by
  unfold y_ldiv at hp
  split at hp
  case h_2 => cases hp
  obtain ⟨y0, c1, rfl, hy, hS1⟩ := hS.pop
  obtain ⟨x0, c2, rfl, hx, hS2⟩ := hS1.pop
  obtain ⟨a, b, x, kx, rfl, a1, a2, hp⟩ := rngL_ok hp hS.env hx
  obtain ⟨c, e', y, ky, rfl, a3, a4, hp⟩ := rngL_ok hp hS.env hy
  cases hb : Nat.blt oY c with
  | false => rw [hb] at hp; cases hp
  | true =>
    rw [hb, cond_true, frK_eq] at hp
    have hb := blt_iff.mp hb
    have hne : ¬ y = 0 := by
      intro h
      subst h
      have h0 : cL' 0 = oY := by decide
      rw [h0] at a3
      exact Nat.lt_irrefl _ (Nat.lt_of_lt_of_le hb a3)
    obtain ⟨hS3, hv⟩ := hS2.fresh (fit_full64 ph.length (x / y))
    exact gy_plain hC hI hA hD hlen hd rfl rfl (clv' := clv) (st_ldiv hne) (pre_app _ _) (hS3.push hv) hp
theorem yk_i2l (hC : CertAll) (hI : IHy GI mk D ih) (hA : AtC mi M full (e :: rest) pc) (hD : d ≤ D) (hS : YS GI σ Y lv st clv cst ph) (hd : decode (mC M) pc = .ok (.i2l, 1)) (hlen : e.2.2.2.2.2.1 = 1) (hp : y_i2l ih e full rest lv st Y d = some l) : GoodY GI mk σ d mi pc clv cst ph nc ns l := by
  unfold y_i2l at hp
  split at hp
  case h_2 => cases hp
  obtain ⟨x0, c2, rfl, hx, hS2⟩ := hS.pop
  obtain ⟨a, b, x, kx, rfl, a1, a2, hp⟩ := rngK_ok hp hS.env hx
  rw [frK_eq] at hp
  have hx' := cI'_lt x
  have h := oI_i2l hx'
  rw [oI_cI] at h
  have hc : cL' x.toInt64 = cI' x + 9223372034707292160 := by rw [h, cL'_oL (Nat.lt_trans (Nat.add_lt_add_right hx' _) (by decide))]
  obtain ⟨hS3, hv⟩ := hS2.fresh (p := (1, a + 9223372034707292160, b + 9223372034707292160)) (x := .long x.toInt64) ⟨_, rfl, by rw [hc]; omega, by rw [hc]; omega⟩
  exact gy_plain hC hI hA hD hlen hd rfl rfl (clv' := clv) (by simp [stp, x_ld, x_st, x_ar]) (pre_app _ _) (hS3.push hv) hp
theorem yk_l2i (hC : CertAll) (hI : IHy GI mk D ih) (hA : AtC mi M full (e :: rest) pc) (hD : d ≤ D) (hS : YS GI σ Y lv st clv cst ph) (hd : decode (mC M) pc = .ok (.l2i, 1)) (hlen : e.2.2.2.2.2.1 = 1) (hp : y_l2i ih e full rest lv st Y d = some l) : GoodY GI mk σ d mi pc clv cst ph nc ns l := by
  unfold y_l2i at hp
  split at hp
  case h_2 => cases hp
  obtain ⟨x0, c2, rfl, hx, hS2⟩ := hS.pop
  obtain ⟨a, b, x, kx, rfl, a1, a2, hp⟩ := rngL_ok hp hS.env hx
  rw [frK_eq] at hp
  obtain ⟨hS3, hv⟩ := hS2.fresh (fit_full ph.length x.toInt32)
  exact gy_plain hC hI hA hD hlen hd rfl rfl (clv' := clv) (by simp [stp, x_ld, x_st, x_ar]) (pre_app _ _) (hS3.push hv) hp
theorem cat1_ok (hS : YS GI σ Y lv st clv cst ph) {v : YV} {x : Value} (hv : valR σ v x) (h : cat1 Y.2.1 v = true) : x.category = 1 := by
  unfold cat1 at h
  split at h
  · rename_i a b hk
    obtain ⟨z, rfl, -⟩ := knd_ok hS.env hv hk (show (0 : Nat) ≠ 9 by decide)
    rfl
  · rename_i a b hk
    obtain ⟨z, rfl, -⟩ := knd_ok hS.env hv hk (show (2 : Nat) ≠ 9 by decide)
    rfl
  · cases h
theorem yk_dup (hC : CertAll) (hI : IHy GI mk D ih) (hA : AtC mi M full (e :: rest) pc) (hD : d ≤ D) (hS : YS GI σ Y lv st clv cst ph) (hd : decode (mC M) pc = .ok (.dup, 1)) (hlen : e.2.2.2.2.2.1 = 1) (hp : y_dup ih e full rest lv st Y d = some l) : GoodY GI mk σ d mi pc clv cst ph nc ns l := by
  unfold y_dup at hp
  split at hp
  case h_2 => cases hp
  rename_i v r
  obtain ⟨x, c2, rfl, hx, hS2⟩ := hS.pop
  cases hb : cat1 Y.2.1 v with
  | false => rw [hb] at hp; cases hp
  | true =>
    rw [hb, cond_true] at hp
    exact gy_plain hC hI hA hD hlen hd rfl rfl (clv' := clv) (cst' := x :: x :: c2) (by simp [stp, x_ld, x_st, x_ar, cat1_ok hS hx hb]) List.prefix_rfl ((hS2.push hx).push hx) hp
theorem yk_pop (hC : CertAll) (hI : IHy GI mk D ih) (hA : AtC mi M full (e :: rest) pc) (hD : d ≤ D) (hS : YS GI σ Y lv st clv cst ph) (hd : decode (mC M) pc = .ok (.pop, 1)) (hlen : e.2.2.2.2.2.1 = 1) (hp : y_pop ih e full rest lv st Y d = some l) : GoodY GI mk σ d mi pc clv cst ph nc ns l := by
  unfold y_pop at hp
  split at hp
  case h_2 => cases hp
  rename_i v r
  obtain ⟨x, c2, rfl, hx, hS2⟩ := hS.pop
  cases hb : cat1 Y.2.1 v with
  | false => rw [hb] at hp; cases hp
  | true =>
    rw [hb, cond_true] at hp
    exact gy_plain hC hI hA hD hlen hd rfl rfl (clv' := clv) (cst' := c2) (by simp [stp, x_ld, x_st, x_ar, cat1_ok hS hx hb]) List.prefix_rfl hS2 hp
theorem yk_dup2 (hC : CertAll) (hI : IHy GI mk D ih) (hA : AtC mi M full (e :: rest) pc) (hD : d ≤ D) (hS : YS GI σ Y lv st clv cst ph) (hd : decode (mC M) pc = .ok (.dup2, 1)) (hlen : e.2.2.2.2.2.1 = 1) (hp : y_dup2 ih e full rest lv st Y d = some l) : GoodY GI mk σ d mi pc clv cst ph nc ns l := by
  unfold y_dup2 at hp
  split at hp
  case h_2 => cases hp
  rename_i v w r
  obtain ⟨x, c1, rfl, hx, hS1⟩ := hS.pop
  obtain ⟨y, c2, rfl, hy, hS2⟩ := hS1.pop
  cases hb : (cat1 Y.2.1 v && cat1 Y.2.1 w) with
  | false => rw [hb] at hp; cases hp
  | true =>
    rw [hb, cond_true] at hp
    rw [Bool.and_eq_true] at hb
    exact gy_plain hC hI hA hD hlen hd rfl rfl (clv' := clv) (cst' := x :: y :: x :: y :: c2) (by simp [stp, x_ld, x_st, x_ar, cat1_ok hS hx hb.1, cat1_ok hS hy hb.2]) List.prefix_rfl ((((hS2.push hy).push hx).push hy).push hx) hp
theorem yk_iinc (hC : CertAll) (hI : IHy GI mk D ih) (hA : AtC mi M full (e :: rest) pc) (hD : d ≤ D) (hS : YS GI σ Y lv st clv cst ph) {k : Nat} {m : Int} (ha : e.2.2.1 = k) (hb : Int32.ofNat e.2.2.2.1 = Int32.ofInt m) (hk : k < mL M) (hd : decode (mC M) pc = .ok (.iinc k m, 3)) (hlen : e.2.2.2.2.2.1 = 3) (hp : y_iinc ih e full rest lv st Y d = some l) : GoodY GI mk σ d mi pc clv cst ph nc ns l := by
  unfold y_iinc at hp
  split at hp
  case h_2 => cases hp
  rename_i v hv
  obtain ⟨x0, x1, x2⟩ := hS.2.2.2.1 _ _ hv
  cases hq : preOK Y.2.1 lv e.2.2.1 with
  | false => rw [hq] at hp; cases hp
  | true =>
    rw [hq, cond_true] at hp
    unfold fstI at hp
    obtain ⟨a, b, x, kx, rfl, a1, a2, hp⟩ := rngK_ok hp hS.env x2
    rw [ha] at x1
    have hadd : cI' (x + Int32.ofInt m) = (cI' x + e.2.2.2.1) % oM := by
      have h1 : x + Int32.ofInt m = oI ((cI' x + e.2.2.2.1) % oM) := by
        rw [oI_mod, ← hb]
        unfold oI
        rw [Nat.add_right_comm, Int32.ofNat_add]
        have := oI_cI x
        unfold oI at this
        rw [this]
      rw [h1, cI'_oI (Nat.mod_lt _ (by decide))]
    cases hz : Nat.beq a b with
    | true =>
      rw [hz, cond_true] at hp
      dsimp only at hp
      rw [fN_eq, lstK_eq] at hp
      have hz := beq_of hz
      have e1 : cI' x = a := by omega
      have hw : valR σ (.inl ((a + e.2.2.2.1) % oM)) (.int (x + Int32.ofInt m)) := ⟨by rw [← e1, ← hadd, oI_cI], Nat.mod_lt _ (by decide)⟩
      have hL := LRY_sl1 hS hq hw
      rw [ha] at hL hp
      exact gy_plain hC hI hA hD hlen hd rfl rfl (clv' := sl1 clv k (.int (x + Int32.ofInt m))) (cst' := cst) (by simp [stp, x_ld, x_st, hk, x1]) List.prefix_rfl (hS.loc hL) hp
    | false =>
      rw [hz, cond_false] at hp
      dsimp only at hp
      rw [frK_eq, lstK_eq] at hp
      obtain ⟨hS3, hw⟩ := hS.fresh (p := rInc a b e.2.2.2.1) (x := .int (x + Int32.ofInt m)) (rInc_ok a1 a2 hadd)
      have hL : LRY (σ ++ [.int (x + Int32.ofInt m)]) (lstS lv e.2.2.1 (some (.inr Y.1))) (sl1 clv e.2.2.1 (.int (x + Int32.ofInt m))) := by
        intro j w hj
        rcases lstS_get _ _ _ _ _ hj with ⟨rfl, e2⟩ | ⟨hne, hj⟩
        · cases e2
          exact ⟨_, gl_sl1_self _ _ _, hw⟩
        · obtain ⟨y, y1, y2⟩ := hS.2.2.2.1 j w hj
          exact ⟨y, gl_sl1 y1 hne (preOK_ok hS hq hj y2), y2.mono (pre_app _ _)⟩
      rw [ha] at hL hp
      exact gy_plain hC hI hA hD hlen hd rfl rfl (clv' := sl1 clv k (.int (x + Int32.ofInt m))) (cst' := cst) (by simp [stp, x_ld, x_st, hk, x1]) (pre_app _ _) (hS3.loc hL) hp
end YD

/-! ===== the abstract machine: arrays ===== -/
theorem cI'_clamp {z : Int32} (h : oZ ≤ cI' z) : 0 ≤ z ∧ z.toNatClampNeg = cI' z - oZ := by
  have h2 := oI_clamp h (cI'_lt z)
  rw [oI_cI] at h2
  exact ⟨h2.2, h2.1⟩
section YH
variable {GI : PH → Prop} {mk D : Nat} {σ : List Value} {ih : YB} {e : CE} {full rest : List CE} {lv : List (Option YV)} {st : List YV} {Y : YE} {d mi pc nc ns : Nat} {l : List YO} {M : MR} {clv : PV} {cst : List Value} {ph : PH}
theorem num_ix {Z a b n z : Nat} (h1 : Z ≤ a) (h2 : b < Z + n) (h3 : a ≤ z) (h4 : z ≤ b) : Z ≤ z ∧ z - Z < n := by omega
theorem num_eq {Z a b z : Nat} (h1 : a = b) (h3 : a ≤ z) (h4 : z ≤ b) : z - Z = a - Z := by omega
theorem yk_iaload (hC : CertAll) (hI : IHy GI mk D ih) (hA : AtC mi M full (e :: rest) pc) (hD : d ≤ D) (hS : YS GI σ Y lv st clv cst ph) (hd : decode (mC M) pc = .ok (.iaload, 1)) (hlen : e.2.2.2.2.2.1 = 1) (hp : y_iaload ih e full rest lv st Y d = some l) : GoodY GI mk σ d mi pc clv cst ph nc ns l := by
  unfold y_iaload at hp
  split at hp
  case h_2 => cases hp
  rename_i vj v s
  obtain ⟨j0, c1, rfl, hj, hS0⟩ := hS.pop
  obtain ⟨x0, c2, rfl, hv, hS1⟩ := hS0.pop
  obtain ⟨r, t, a, rfl, rfl, a1, a2, a3, -, -, hp⟩ := refK_ok hp hS.env hv
  split at hp
  case h_2 => cases hp
  rename_i n rs lo hi ht
  obtain ⟨c, hc, f, rfl, hrs⟩ := hS.wt.get a1 a2 a3 ht
  obtain ⟨p, q, j, -, rfl, j1, j2, hp⟩ := rngK_ok hp hS.env hj
  cases hq : (Nat.ble oZ p && Nat.blt q (oZ + n)) with
  | false => rw [hq] at hp; cases hp
  | true =>
  rw [hq, cond_true] at hp
  rw [Bool.and_eq_true] at hq
  obtain ⟨n1, n2⟩ := num_ix (ble_of hq.1) (blt_iff.mp hq.2) j1 j2
  obtain ⟨k1, k2⟩ := cI'_clamp n1
  have hstp := st_iald (M := M) (d := d) (pc := pc) (clv := clv) (nc := nc) (ns := ns) (r := c2) hc k1 (by rw [k2]; exact n2)
  rw [k2] at hstp
  cases hb : (emp rs || !(Nat.beq p q)) with
  | true =>
    rw [hb, cond_true, frK_eq] at hp
    obtain ⟨hS3, hw⟩ := hS1.fresh (fit_full ph.length (f (cI' j - oZ)))
    exact gy_plain hC hI hA hD hlen hd rfl rfl hstp (pre_app _ _) (hS3.push hw) hp
  | false =>
    rw [hb, cond_false, fN_eq] at hp
    rw [Bool.or_eq_false_iff] at hb
    have hpq : p = q := by
      have := hb.2
      cases hz : Nat.beq p q with
      | true => exact beq_of hz
      | false => rw [hz] at this; cases this
    rw [num_eq hpq j1 j2] at hstp n2
    generalize p - oZ = i at hp hstp n2
    split at hp
    · rename_i w hw
      obtain ⟨a', c', x, q1, q2, q3, q4⟩ := hS.2.2.1 _ (cget_ok hw)
      have hv : σ[r]? = some (.ref a) := hv
      rw [hv] at q1
      cases q1
      rw [hc] at q2
      cases q2
      have q3 : i < n ∧ x = .int (f i) := q3
      rw [q3.2] at q4
      exact gy_plain hC hI hA hD hlen hd rfl rfl hstp List.prefix_rfl (hS1.push q4) hp
    · split at hp
      · rename_i pp hpp
        rw [frK_eq, cadd_eq] at hp
        obtain ⟨hS3, hw⟩ := hS1.fresh (hrs i pp hpp)
        have hS4 := hS3.cadd (r := r) (j := i) (a := a) (v := .inr Y.1) (pre_get (pre_app _ _) hv) hc (show i < n ∧ (Value.int (f i)) = .int (f i) from ⟨n2, rfl⟩) hw
        exact gy_plain hC hI hA hD hlen hd rfl rfl hstp (pre_app _ _) (hS4.push hw) hp
      · rw [frK_eq, cadd_eq] at hp
        obtain ⟨hS3, hw⟩ := hS1.fresh (fit_full ph.length (f i))
        have hS4 := hS3.cadd (r := r) (j := i) (a := a) (v := .inr Y.1) (pre_get (pre_app _ _) hv) hc (show i < n ∧ (Value.int (f i)) = .int (f i) from ⟨n2, rfl⟩) hw
        exact gy_plain hC hI hA hD hlen hd rfl rfl hstp (pre_app _ _) (hS4.push hw) hp
theorem emp_nil {rs : List (FT × FT)} (h : emp rs = true) : rs = [] := by
  cases rs with
  | nil => rfl
  | cons _ _ => cases h
theorem fit0 {len a b : Nat} {x : Int32} (h : fitT len (0, a, b) (.int x)) (len' : Nat) : fitT len' (0, a, b) (.int x) := h
theorem subT_0 {p : FT} {c e : Nat} (h : subT (0, c, e) p = true) : p.1 = 0 := by
  obtain ⟨k, a, b⟩ := p
  unfold subT at h
  split at h
  · rename_i h1; cases h1; rfl
  · cases h
  · cases h
  · cases h
theorem upd_ne {f : Nat → Int32} {i j : Nat} {x : Int32} (h : j ≠ i) : upd f i x j = f j := by
  unfold upd
  rw [if_neg h]
theorem upd_eq {f : Nat → Int32} {i : Nat} {x : Int32} : upd f i x i = x := by
  unfold upd
  rw [if_pos rfl]
theorem num_win {Z a b z : Nat} (h1 : a ≤ z) (h2 : z ≤ b) : a - Z ≤ z - Z ∧ z - Z ≤ b - Z := by omega
theorem num_out {Z a b z lo hi len : Nat} (h1 : Z + len ≤ a) (h2 : Z + lo ≤ a) (h3 : b < Z + hi) (h4 : a ≤ z) (h5 : z ≤ b) : len ≤ z - Z ∧ lo ≤ z - Z ∧ z - Z < hi := by omega
theorem bit_ne {t u : Nat} (h : Nat.testBit (2 ^ t) u = false) : u ≠ t := by
  intro e
  subst e
  rw [Nat.testBit_two_pow_self] at h
  cases h
theorem msk_chg (hS : YS GI σ Y lv st clv cst ph) {a t : Nat} (ha : psi a = t) {C : List (Nat × Nat × YV)} {c c' : PE} (h : ∀ q ∈ C, q ∈ Y.2.2 ∧ ∃ u w, look q.1 Y.2.1 = (2, u, w) ∧ Nat.testBit (2 ^ t) u = false) : ∀ q ∈ C, q ∈ Y.2.2 ∧ ∀ x, σ[q.1]? = some (.ref a) → atC σ c q.2.1 x → atC σ c' q.2.1 x := fun q hq => ⟨(h q hq).1, fun x hr _ => by
  obtain ⟨u, w, h1, h2⟩ := (h q hq).2
  exact (other hS h1 (bit_ne h2) hr ha).elim⟩
theorem ty99 : tyT.all (fun t => match t with
  | .inr (.inl (ci, n, _)) => !(Nat.beq ci 99) || Nat.beq n 0
  | _ => true) = true := by decide +kernel
theorem no99 {t n u k : Nat} (h : tyT[t]? = some (.inr (.inl (99, n, u)))) (hk : k < n) : False := by
  have h1 := List.all_eq_true.mp ty99 _ (List.mem_of_getElem? h)
  have h2 : n = 0 := by simpa using h1
  omega
def lenB (t : TT) : Bool := match t with
  | .inl (n, _, _, _) => Nat.blt n 2147483648
  | _ => true
theorem len_ok : tyT.all lenB = true := by decide +kernel
theorem yk_iastore (hG : GOK GI) (hC : CertAll) (hI : IHy GI mk D ih) (hA : AtC mi M full (e :: rest) pc) (hD : d ≤ D) (hS : YS GI σ Y lv st clv cst ph) (hd : decode (mC M) pc = .ok (.iastore, 1)) (hlen : e.2.2.2.2.2.1 = 1) (hp : y_iastore mk ih e full rest lv st Y d = some l) : GoodY GI mk σ d mi pc clv cst ph nc ns l := by
  unfold y_iastore at hp
  split at hp
  case h_2 => cases hp
  rename_i vx vj v s
  obtain ⟨x0, c0, rfl, hx, hSx⟩ := hS.pop
  obtain ⟨j0, c1, rfl, hj, hS0⟩ := hSx.pop
  obtain ⟨v0, c2, rfl, hv, hS1⟩ := hS0.pop
  obtain ⟨r, t, a, rfl, rfl, a1, a2, a3, -, -, hp⟩ := refK_ok hp hS.env hv
  split at hp
  case h_2 => cases hp
  rename_i n rs lo hi ht
  obtain ⟨c, hc, f, rfl, hrs⟩ := hS.wt.get a1 a2 a3 ht
  obtain ⟨p, q, j, -, rfl, j1, j2, hp⟩ := rngK_ok hp hS.env hj
  obtain ⟨u, w, x, -, rfl, x1, x2, hp⟩ := rngK_ok hp hS.env hx
  cases hq : (Nat.ble oZ p && Nat.blt q (oZ + n) && Nat.testBit mk t && !(Nat.beq t 1)) with
  | false => rw [hq] at hp; cases hp
  | true =>
  rw [hq, cond_true] at hp
  simp only [Bool.and_eq_true, Bool.not_eq_true'] at hq
  obtain ⟨⟨⟨q1, q2⟩, q3⟩, q4⟩ := hq
  have h2 : 2 ≤ a := two_le a1 (by rw [a3]; intro z; rw [z] at q4; cases q4)
  obtain ⟨n1, n2⟩ := num_ix (ble_of q1) (blt_iff.mp q2) j1 j2
  obtain ⟨k1, k2⟩ := cI'_clamp n1
  have hstp := st_iast (M := M) (d := d) (pc := pc) (clv := clv) (nc := nc) (ns := ns) (r := c2) (x := x) hc k1 (by rw [k2]; exact n2) h2
  rw [k2] at hstp
  generalize hi0 : cI' j - oZ = i at hstp
  have hFr : ∀ g : Nat → Int32, okSet (psi a) (.inl (n, f)) (.inl (n, g)) → Fr mk ph (ph.set a (.inl (n, g))) := fun g ho => Fr_set hc (by rw [a3]; exact q3) ho
  cases hb : emp rs with
  | true =>
    rw [hb, cond_true] at hp
    have hb := emp_nil hb
    have ho : okSet (psi a) (.inl (n, f)) (.inl (n, upd f i x)) := by
      unfold okSet
      rw [a3, ht]
      exact ⟨f, _, rfl, rfl, Or.inl hb⟩
    have hty : ∀ T, tyT[psi a]? = some T → cellT ph.length T (.inl (n, upd f i x)) := by
      intro T hT
      rw [a3, ht] at hT
      cases hT
      exact ⟨_, rfl, fun i p hp => by rw [hb] at hp; simp at hp⟩
    obtain ⟨C', hp, hC'⟩ := cmsk_ok hp
    exact gy_step hA.1 hd rfl rfl hstp List.prefix_rfl (hFr _ ho) (gy_next hC hI hA hlen hD hp (hS1.chg hG a1 hc ho hty (msk_chg hS a3 hC')))
  | false =>
    rw [hb, cond_false] at hp
    cases hpq : Nat.beq p q with
    | true =>
      rw [hpq, cond_true, fN_eq] at hp
      rw [← num_eq (Z := oZ) (beq_of hpq) j1 j2, hi0] at hp
      cases hm : wrB rs i lo hi u w with
      | false => rw [hm] at hp; cases hp
      | true =>
      rw [hm, cond_true] at hp
      have hxf : fitT ph.length (0, u, w) (.int x) := ⟨x, rfl, x1, x2⟩
      have ho : okSet (psi a) (.inl (n, f)) (.inl (n, upd f i x)) := by
        unfold okSet
        rw [a3, ht]
        refine ⟨f, _, rfl, rfl, Or.inr ⟨i, x, rfl, ?_⟩⟩
        unfold wrB at hm
        split at hm
        · rename_i pp hpp
          rw [Bool.and_eq_true] at hm
          left
          have h9 := subT_ok hm.2 hxf
          have h8 := subT_0 hm.2
          obtain ⟨p1, k, k2, k3⟩ := pp
          have h8 : k = 0 := h8
          subst h8
          exact ⟨_, hpp, h9⟩
        · rename_i hpp
          rw [Bool.and_eq_true] at hm
          right
          exact ⟨List.getElem?_eq_none_iff.mp hpp, ble_of hm.1, blt_iff.mp hm.2⟩
      have hty : ∀ T, tyT[psi a]? = some T → cellT ph.length T (.inl (n, upd f i x)) := by
        intro T hT
        rw [a3, ht] at hT
        cases hT
        refine ⟨_, rfl, fun i' p' hp' => ?_⟩
        by_cases ei : i' = i
        · subst ei
          rw [upd_eq]
          unfold wrB at hm
          rw [hp'] at hm
          dsimp only at hm
          rw [Bool.and_eq_true] at hm
          exact subT_ok hm.1 hxf
        · rw [upd_ne ei]
          exact hrs i' p' hp'
      obtain ⟨C', hp, hC'⟩ := cdel_ok hp
      rw [cadd_eq] at hp
      have hS2 := hS1.chg hG (C := C') a1 hc ho hty (fun q hq => ⟨(hC' q hq).1, fun y hr hy => by
        rcases (hC' q hq).2 with z | ⟨u, w, z1, z2⟩
        · have hy : q.2.1 < n ∧ y = .int (f q.2.1) := hy
          show q.2.1 < n ∧ y = .int (upd f i x q.2.1)
          rw [upd_ne z]
          exact hy
        · exact (other hS z1 z2 hr a3).elim⟩)
      have hlt := (List.getElem?_eq_some_iff.mp hc).1
      have hS3 := hS2.cadd (r := r) (j := i) (a := a) (v := vx) (x := .int x) hv (List.getElem?_set_self hlt) (show i < n ∧ (Value.int x) = .int (upd f i x i) from ⟨by rw [← hi0]; exact n2, by rw [upd_eq]⟩) hx
      exact gy_step hA.1 hd rfl rfl hstp List.prefix_rfl (hFr _ ho) (gy_next hC hI hA hlen hD hp hS3)
    | false =>
      rw [hpq, cond_false] at hp
      cases hm : (Nat.ble (oZ + rs.length) p && Nat.ble (oZ + lo) p && Nat.blt q (oZ + hi)) with
      | false => rw [hm] at hp; cases hp
      | true =>
      rw [hm, cond_true] at hp
      simp only [Bool.and_eq_true] at hm
      obtain ⟨o1, o2, o3⟩ := num_out (ble_of hm.1.1) (ble_of hm.1.2) (blt_iff.mp hm.2) j1 j2
      rw [hi0] at o1 o2 o3
      have ho : okSet (psi a) (.inl (n, f)) (.inl (n, upd f i x)) := by
        unfold okSet
        rw [a3, ht]
        exact ⟨f, _, rfl, rfl, Or.inr ⟨i, x, rfl, Or.inr ⟨o1, o2, o3⟩⟩⟩
      have hty : ∀ T, tyT[psi a]? = some T → cellT ph.length T (.inl (n, upd f i x)) := by
        intro T hT
        rw [a3, ht] at hT
        cases hT
        refine ⟨_, rfl, fun i' p' hp' => ?_⟩
        have hi' := (List.getElem?_eq_some_iff.mp hp').1
        rw [upd_ne (by omega)]
        exact hrs i' p' hp'
      rw [fN_eq, fN_eq] at hp
      have n3 := num_win (Z := oZ) j1 j2
      rw [hi0] at n3
      generalize p - oZ = pa at hp n3
      generalize q - oZ = qb at hp n3
      obtain ⟨C', hp, hC'⟩ := cwin_ok hp
      refine gy_step hA.1 hd rfl rfl hstp List.prefix_rfl (hFr _ ho) (gy_next hC hI hA hlen hD hp (hS1.chg hG a1 hc ho hty (fun q hq => ⟨(hC' q hq).1, fun y hr hy => ?_⟩)))
      have hy : q.2.1 < n ∧ y = .int (f q.2.1) := hy
      have hne : q.2.1 ≠ i := by
        rcases (hC' q hq).2 with z | z | ⟨u, w, z1, z2⟩
        · omega
        · omega
        · exact (other hS z1 z2 hr a3).elim
      show q.2.1 < n ∧ y = .int (upd f i x q.2.1)
      rw [upd_ne hne]
      exact hy
theorem yk_aaload (hC : CertAll) (hI : IHy GI mk D ih) (hA : AtC mi M full (e :: rest) pc) (hD : d ≤ D) (hS : YS GI σ Y lv st clv cst ph) (hd : decode (mC M) pc = .ok (.aaload, 1)) (hlen : e.2.2.2.2.2.1 = 1) (hp : y_aaload ih e full rest lv st Y d = some l) : GoodY GI mk σ d mi pc clv cst ph nc ns l := by
  unfold y_aaload at hp
  split at hp
  case h_2 => cases hp
  rename_i vj v s
  obtain ⟨j0, c1, rfl, hj, hS0⟩ := hS.pop
  obtain ⟨x0, c2, rfl, hv, hS1⟩ := hS0.pop
  obtain ⟨r, t, a, rfl, rfl, a1, a2, a3, -, -, hp⟩ := refK_ok hp hS.env hv
  split at hp
  case h_2 => cases hp
  rename_i ci n u ht
  obtain ⟨c, hc, hcell⟩ := hS.wt.get a1 a2 a3 ht
  obtain ⟨p, q, j, kj, rfl, j1, j2, hp⟩ := rngK_ok hp hS.env hj
  cases hq : (Nat.ble oZ p && Nat.blt q (oZ + n) && Nat.ble n 64 && !(Nat.beq t 1)) with
  | false => rw [hq] at hp; cases hp
  | true =>
  rw [hq, cond_true] at hp
  simp only [Bool.and_eq_true, Bool.not_eq_true'] at hq
  obtain ⟨⟨⟨q1, q2⟩, q3⟩, q4⟩ := hq
  have q3 := ble_of q3
  have h2 : 2 ≤ a := two_le a1 (by rw [a3]; intro z; rw [z] at q4; cases q4)
  obtain ⟨n1, n2⟩ := num_ix (ble_of q1) (blt_iff.mp q2) j1 j2
  obtain ⟨k1, k2⟩ := cI'_clamp n1
  rcases hcell with h99 | ⟨f, rfl, hao, hel⟩
  · subst h99
    exact (no99 ht n2).elim
  obtain ⟨b, b1, b2, b3, b4⟩ := hel _ n2
  have hstp := st_aald (M := M) (d := d) (pc := pc) (clv := clv) (nc := nc) (ns := ns) (r := c2) hc k1 (by rw [k2]; exact n2) h2 hao
  rw [k2, b1] at hstp
  rw [fN_eq] at hp
  have hkey : ∀ i : Nat, atC σ (.inr (.inl (ci, n, f))) (keyY vj) (.ref i) → i = b := by
    intro i hi
    obtain ⟨i', a', hw, ha', e'⟩ := hi
    have e' : i = a' := Value.ref.inj e'
    subst e'
    have : i' = cI' j - oZ := by
      cases vj with
      | inl cc =>
        have hcc : cI' j = cc := by
          have h5 : Value.int j = .int (oI cc) := hj.1
          rw [Value.int.inj h5, cI'_oI hj.2]
        rcases hw with ⟨_, w2⟩ | ⟨k, z, w1, -⟩
        · rw [← w2]; show cc - oZ = _; rw [hcc]
        · have w1 : cc - oZ = 64 + k := w1
          rw [hcc] at n2
          omega
      | inr kk =>
        rcases hw with ⟨w1, _⟩ | ⟨k, z, w1, w2, w3, w4⟩
        · have w1 : 64 + kk < 64 := w1
          omega
        · have w1 : 64 + kk = 64 + k := w1
          have : kk = k := by omega
          subst this
          have hj : σ[kk]? = some (.int j) := hj
          rw [hj] at w2
          cases w2
          rw [← w4, k2]
    rw [this, b1] at ha'
    cases ha'
    rfl
  split at hp
  · rename_i w hw
    obtain ⟨a', c', x, r1, r2, r3, r4⟩ := hS.2.2.1 _ (cget_ok hw)
    have hv : σ[r]? = some (.ref a) := hv
    rw [hv] at r1
    cases r1
    rw [hc] at r2
    cases r2
    obtain ⟨_, xa, _, _, hxa⟩ := id r3
    have hxa : x = .ref xa := hxa
    subst hxa
    have := hkey xa r3
    subst this
    exact gy_plain hC hI hA hD hlen hd rfl rfl hstp List.prefix_rfl (hS1.push r4) hp
  · rw [frK_eq, cadd_eq] at hp
    obtain ⟨hS3, hw⟩ := hS1.fresh (p := (2, u, 0)) (x := .ref b) ⟨b, rfl, b2, b3, b4⟩
    have hat : atC (σ ++ [.ref b]) (.inr (.inl (ci, n, f))) (keyY vj) (.ref b) := by
      refine ⟨cI' j - oZ, b, ?_, b1, rfl⟩
      cases vj with
      | inl cc =>
        left
        have hcc : cI' j = cc := by
          have h5 : Value.int j = .int (oI cc) := hj.1
          rw [Value.int.inj h5, cI'_oI hj.2]
        rw [hcc] at n2 ⊢
        exact ⟨Nat.lt_of_lt_of_le n2 q3, rfl⟩
      | inr kk => exact Or.inr ⟨kk, j, rfl, pre_get (pre_app _ _) hj, k1, k2⟩
    have hS4 := hS3.cadd (r := r) (j := keyY vj) (a := a) (v := .inr Y.1) (pre_get (pre_app _ _) hv) hc hat hw
    exact gy_plain hC hI hA hD hlen hd rfl rfl hstp (pre_app _ _) (hS4.push hw) hp
theorem yk_alen (hC : CertAll) (hI : IHy GI mk D ih) (hA : AtC mi M full (e :: rest) pc) (hD : d ≤ D) (hS : YS GI σ Y lv st clv cst ph) (hd : decode (mC M) pc = .ok (.arraylength, 1)) (hlen : e.2.2.2.2.2.1 = 1) (hp : y_alen ih e full rest lv st Y d = some l) : GoodY GI mk σ d mi pc clv cst ph nc ns l := by
  unfold y_alen at hp
  split at hp
  case h_2 => cases hp
  obtain ⟨x0, c2, rfl, hv, hS1⟩ := hS.pop
  obtain ⟨r, t, a, rfl, rfl, a1, a2, a3, -, -, hp⟩ := refK_ok hp hS.env hv
  split at hp
  case h_2 => cases hp
  rename_i n rs lo hi ht
  obtain ⟨c, hc, f, rfl, hrs⟩ := hS.wt.get a1 a2 a3 ht
  rw [fN_eq] at hp
  have hn := List.all_eq_true.mp len_ok _ (List.mem_of_getElem? ht)
  have hn : n < 2147483648 := blt_iff.mp hn
  exact gy_plain hC hI hA hD hlen hd rfl rfl (st_alen hc) List.prefix_rfl (hS1.push (v := .inl (n + oZ)) ⟨by rw [ofNat_oI hn], by unfold oZ oM; omega⟩) hp
theorem yk_getstatic (hC : CertAll) (hI : IHy GI mk D ih) (hA : AtC mi M full (e :: rest) pc) (hD : d ≤ D) (hS : YS GI σ Y lv st clv cst ph) (h2 : 2 ≤ ph.length) {ix : Nat} (hg : gsF (mO M) ix = true) (hd : decode (mC M) pc = .ok (.getstatic ix, 3)) (hlen : e.2.2.2.2.2.1 = 3) (hp : y_getstatic ih e full rest lv st Y d = some l) : GoodY GI mk σ d mi pc clv cst ph nc ns l := by
  unfold y_getstatic at hp
  rw [frK_eq] at hp
  obtain ⟨hS3, hw⟩ := hS.fresh (p := (2, 1, 0)) (x := .ref 1) ⟨1, rfl, Nat.le_refl _, h2, psi_one⟩
  exact gy_plain hC hI hA hD hlen hd rfl rfl (st_getstatic hg) (pre_app _ _) (hS3.push hw) hp
theorem catS_le : ∀ {σ : List Value} {st : List YV} {cst : List Value}, SRY σ st cst → catS cst ≤ 2 * st.length
  | _, [], [], _ => Nat.le_refl _
  | σ, v :: st, x :: cst, h => by
    have ih := catS_le h.2
    unfold catS at ih ⊢
    rw [List.map_cons, List.sum_cons, List.length_cons]
    have : x.category ≤ 2 := by cases x <;> first | exact (show (1 : Nat) ≤ 2 by decide) | exact (show (2 : Nat) ≤ 2 by decide)
    omega
theorem num_sum {Z a b c d n x y : Nat} (h1 : d - Z + (b - Z) ≤ n) (h2 : x ≤ d) (h3 : y ≤ b) : x - Z + (y - Z) ≤ n := by omega
theorem yk_copy (hG : GOK GI) (hC : CertAll) (hI : IHy GI mk D ih) (hA : AtC mi M full (e :: rest) pc) (hD : d ≤ D) (hS : YS GI σ Y lv st clv cst ph) {ix : Nat} (hg : acF (mO M) ix = true) (hm : mlF (mO M) ix = none) (hd : decode (mC M) pc = .ok (.invokestatic ix, 3)) (hlen : e.2.2.2.2.2.1 = 3) (hp : y_copy mk ih e full rest lv st Y d = some l) : GoodY GI mk σ d mi pc clv cst ph nc ns l := by
  unfold y_copy at hp
  split at hp
  case h_2 => cases hp
  rename_i vn vd vw vs vv s
  obtain ⟨n0, c0, rfl, hn, hS1⟩ := hS.pop
  obtain ⟨d0, c1, rfl, hd0, hS2⟩ := hS1.pop
  obtain ⟨w0, c2, rfl, hw, hS3⟩ := hS2.pop
  obtain ⟨s0, c3, rfl, hs, hS4⟩ := hS3.pop
  obtain ⟨v0, c4, rfl, hv, hS5⟩ := hS4.pop
  obtain ⟨r, t, a, rfl, rfl, a1, a2, a3, -, -, hp⟩ := refK_ok hp hS.env hv
  obtain ⟨q, u, b, rfl, rfl, b1, b2, b3, -, -, hp⟩ := refK_ok hp hS.env hw
  split at hp
  case h_2 => cases hp
  rename_i m0 rs0 lo0 hi0 ht
  split at hp
  case h_2 => cases hp
  rename_i m1 rs1 lo1 hi1 hu
  obtain ⟨ca, hca, f, rfl, -⟩ := hS.wt.get a1 a2 a3 ht
  obtain ⟨cb, hcb, g, rfl, hrs⟩ := hS.wt.get b1 b2 b3 hu
  obtain ⟨na, nb, n, -, rfl, n1, n2, hp⟩ := rngK_ok hp hS.env hn
  obtain ⟨da, db, dp, -, rfl, d1, d2, hp⟩ := rngK_ok hp hS.env hd0
  obtain ⟨sa, sb, sp, -, rfl, s1, s2, hp⟩ := rngK_ok hp hS.env hs
  cases hq : (emp rs1 && Nat.testBit mk u && !(Nat.beq t 1) && !(Nat.beq u 1) && Nat.ble oZ na && Nat.ble oZ da && Nat.ble oZ sa && Nat.ble (sb - oZ + (nb - oZ)) m0 && Nat.ble (db - oZ + (nb - oZ)) m1 && Nat.ble s.length 4 && Nat.ble 1 d) with
  | false => rw [hq] at hp; cases hp
  | true =>
  rw [hq, cond_true] at hp
  simp only [Bool.and_eq_true, Bool.not_eq_true'] at hq
  obtain ⟨⟨⟨⟨⟨⟨⟨⟨⟨⟨q1, q2⟩, q3⟩, q4⟩, q5⟩, q6⟩, q7⟩, q8⟩, q9⟩, q10⟩, q11⟩ := hq
  have h2 : 2 ≤ a := two_le a1 (by rw [a3]; intro z; rw [z] at q3; cases q3)
  have h3 : 2 ≤ b := two_le b1 (by rw [b3]; intro z; rw [z] at q4; cases q4)
  obtain ⟨kn1, kn2⟩ := cI'_clamp (Nat.le_trans (ble_of q5) n1)
  obtain ⟨kd1, kd2⟩ := cI'_clamp (Nat.le_trans (ble_of q6) d1)
  obtain ⟨ks1, ks2⟩ := cI'_clamp (Nat.le_trans (ble_of q7) s1)
  have hcat : catS c4 ≤ 8 := Nat.le_trans (catS_le hS5.2.2.2.2.1) (Nat.mul_le_mul_left 2 (ble_of q10))
  have hstp := st_cpy (M := M) (d := d) (pc := pc) (clv := clv) (nc := nc) (ns := ns) (r := c4) (sp := sp) (dp := dp) (n := n) hg (ble_of q11) hca hcb h2 h3 ks1 kd1 kn1 (by rw [ks2, kn2]; exact num_sum (a := 0) (c := 0) (ble_of q8) s2 n2) (by rw [kd2, kn2]; exact num_sum (a := 0) (c := 0) (ble_of q9) d2 n2) hcat
  have q1 := emp_nil q1
  generalize va_cpy f g sp.toNatClampNeg dp.toNatClampNeg n.toNatClampNeg = k at hstp
  have ho : okSet (psi b) (.inl (m1, g)) (.inl (m1, k)) := by
    unfold okSet
    rw [b3, hu]
    exact ⟨g, _, rfl, rfl, Or.inl q1⟩
  have hty : ∀ T, tyT[psi b]? = some T → cellT ph.length T (.inl (m1, k)) := by
    intro T hT
    rw [b3, hu] at hT
    cases hT
    exact ⟨_, rfl, fun i p hp => by rw [q1] at hp; simp at hp⟩
  obtain ⟨C', hp, hC'⟩ := cmsk_ok hp
  exact gy_step hA.1 hd (by simp [x_ca, hm]) rfl hstp List.prefix_rfl (Fr_set hcb (by rw [b3]; exact q2) ho) (gy_next hC hI hA hlen hD hp (hS5.chg hG b1 hcb ho hty (msk_chg hS b3 hC')))
end YH

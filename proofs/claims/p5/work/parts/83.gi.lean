/-! ===== by hand: what always holds of a heap ===== -/
def szC (c : PE) : Nat := match c with
  | .inl (n, _) => n
  | .inr (.inl (_, n, _)) => n
  | .inr (.inr (ci, _)) => (match cls[ci]? with
    | some q => q.2.2
    | none => 0)
def szH (h : PH) : Nat := (h.map szC).sum
theorem szH_app (h l : PH) : szH (h ++ l) = szH h + szH l := by
  unfold szH
  rw [List.map_append, List.sum_append]
theorem szH_set : ∀ {h : PH} {a : Nat} {c c' : PE}, h[a]? = some c → szC c' = szC c → szH (h.set a c') = szH h
  | [], _, _, _, h, _ => by simp at h
  | x :: t, 0, c, c', h, e => by
    rw [List.getElem?_cons_zero] at h
    cases h
    unfold szH
    rw [List.set_cons_zero, List.map_cons, List.map_cons, List.sum_cons, List.sum_cons, e]
  | x :: t, a + 1, c, c', h, e => by
    rw [List.getElem?_cons_succ] at h
    have ih := szH_set (h := t) h e
    unfold szH at ih ⊢
    rw [List.set_cons_succ, List.map_cons, List.map_cons, List.sum_cons, List.sum_cons, ih]
theorem set_same {h : PH} {a : Nat} {c : PE} (hc : h[a]? = some c) : h.set a c = h := by
  refine List.ext_getElem? (fun i => ?_)
  by_cases e : a = i
  · subst e
    rw [List.getElem?_set_self (List.getElem?_eq_some_iff.mp hc).1, hc]
  · rw [List.getElem?_set_ne e]
theorem okSet_sz {t : Nat} {c c' : PE} (h : okSet t c c') : szC c' = szC c := by
  unfold okSet at h
  split at h
  · obtain ⟨f, g, rfl, rfl, -⟩ := h
    rfl
  · obtain ⟨fs, j, x, rfl, rfl, -⟩ := h
    rfl
  · exact h.elim
def MH (ph : PH) (p : Nat → Int32) (a : Nat → Nat → Int32) (z : Nat → Int32) : Prop := ∀ i, i < 12 → ph[75 + i]? = (mcl p a z)[i]?
theorem MH.eq {ph : PH} {p : Nat → Int32} {a : Nat → Nat → Int32} {z : Nat → Int32} (h : MH ph p a z) (hl : 87 ≤ ph.length) : ph = mh ph p a z := by
  refine List.ext_getElem? (fun i => ?_)
  by_cases h1 : i < 75
  · rw [mh_lo hl h1]
  · by_cases h2 : i < 87
    · obtain ⟨k, rfl⟩ : ∃ k, i = 75 + k := ⟨i - 75, by omega⟩
      rw [mh_get hl (by omega)]
      exact h k (by omega)
    · rw [mh_hi hl (by omega)]
theorem mh_MH {B : PH} {p : Nat → Int32} {a : Nat → Nat → Int32} {z : Nat → Int32} (hB : 87 ≤ B.length) : MH (mh B p a z) p a z := fun i hi => mh_get hB hi
theorem mh_mh {B : PH} {p p' : Nat → Int32} {a a' : Nat → Nat → Int32} {z z' : Nat → Int32} (hB : 87 ≤ B.length) : mh (mh B p a z) p' a' z' = mh B p' a' z' := by
  have hl := mh_len (p := p) (a := a) (z := z) hB
  refine List.ext_getElem? (fun i => ?_)
  by_cases h1 : i < 75
  · rw [mh_lo (by omega) h1, mh_lo hB h1, mh_lo hB h1]
  · by_cases h2 : i < 87
    · obtain ⟨k, rfl⟩ : ∃ k, i = 75 + k := ⟨i - 75, by omega⟩
      rw [mh_get (by omega) (by omega), mh_get hB (by omega)]
    · rw [mh_hi (by omega) (by omega), mh_hi hB (by omega), mh_hi hB (by omega)]
/-- the types of addresses -/
theorem all_getD {l : List Nat} (h : l.all (fun t => Nat.ble t 21) = true) (i : Nat) : l.getD i 0 ≤ 21 := by
  rw [List.getD_eq_getElem?_getD]
  cases hx : l[i]? with
  | none => exact Nat.zero_le _
  | some t => exact ble_of (List.all_eq_true.mp h t (List.mem_of_getElem? hx))
theorem psi_lo {a : Nat} (h : a < 75 ∨ 87 ≤ a) : psi a ≤ 21 := by
  unfold psi
  split
  · exact all_getD (by decide) _
  · split
    · exact all_getD (by decide) _
    · split
      · omega
      · exact all_getD (by decide) _
theorem psi_mo : ∀ i, i < 12 → psi (75 + i) = 22 + i := by decide
theorem psi_is {r t : Nat} (h : psi r = t) (ht : 22 ≤ t) : r = 53 + t ∧ t < 34 := by
  by_cases h1 : r < 75 ∨ 87 ≤ r
  · have := psi_lo h1
    omega
  · obtain ⟨i, rfl⟩ : ∃ i, r = 75 + i := ⟨r - 75, by omega⟩
    have := psi_mo i (by omega)
    omega
theorem psi_hi (b i : Nat) (hi : i < 65) : psi (87 + 65 * b + i) = faT.getD i 0 := by
  unfold psi
  rw [if_neg (by omega), if_neg (by omega), if_neg (by omega)]
  congr 1
  omega
def isF (len r : Nat) : Prop := 87 ≤ r ∧ r < len ∧ (r - 87) % 65 = 0
theorem isF.psi {len r : Nat} (h : isF len r) : psi r = 10 := by
  obtain ⟨h1, h2, h3⟩ := h
  obtain ⟨b, rfl⟩ : ∃ b, r = 87 + 65 * b + 0 := ⟨(r - 87) / 65, by omega⟩
  exact psi_hi b 0 (by omega)
def nn (o : Option Nat) : Nat := match o with
  | some _ => 1
  | none => 0
theorem nn_le (o : Option Nat) : nn o ≤ 1 := by
  cases o with
  | none => exact Nat.zero_le _
  | some _ => exact Nat.le_refl _
def blk (tr : Option Nat) (f : Nat → Option Nat) : Nat := nn tr + (nn (f 0) + (nn (f 1) + (nn (f 2) + (nn (f 3) + nn (f 4)))))
theorem blk_le (tr : Option Nat) (f : Nat → Option Nat) : blk tr f ≤ 6 := by
  unfold blk
  have h := nn_le tr
  have h0 := nn_le (f 0)
  have h1 := nn_le (f 1)
  have h2 := nn_le (f 2)
  have h3 := nn_le (f 3)
  have h4 := nn_le (f 4)
  omega
/-- the class's heap: what is remembered, what is tried; e blocks are being made -/
def GC (S0 e : Nat) (ph : PH) (tr : Option Nat) (f : Nat → Option Nat) (s : Nat) : Prop :=
  ph[2]? = some (.inr (.inr (0, [.ref 3, .ref 8, .ref 10, va_rf tr]))) ∧ ph[8]? = some (.inr (.inr (2, [.ref 9, .int (iv (s : Int))]))) ∧ ph[9]? = some (.inr (.inl (3, 5, f))) ∧ s ≤ 5 ∧ (∀ j, j < s → ∃ r, f j = some r) ∧ (∀ r, tr = some r → isF ph.length r) ∧ (∀ j, j < 5 → ∀ r, f j = some r → isF ph.length r) ∧ ph.length = 87 + 65 * (blk tr f + e) ∧ szH ph = S0 + 2803 * (blk tr f + e)
def GI (S0 e : Nat) (p z : Nat → Int32) (ph : PH) : Prop := (∃ tr f s, GC S0 e ph tr f s) ∧ ∃ a, MH ph p a z
theorem GI.len {S0 e : Nat} {p z : Nat → Int32} {ph : PH} (h : GI S0 e p z ph) : 87 ≤ ph.length := by
  obtain ⟨⟨tr, f, s, -, -, -, -, -, -, -, h, -⟩, -⟩ := h
  omega
theorem ty_2 : tyT[2]? = some (.inr (.inr (0, [(2, 3, 0), (2, 8, 0), (2, 10, 0), (3, 0, 0)]))) := rfl
theorem ty_8 : tyT[8]? = some (.inr (.inr (2, [(3, 0, 0), (0, 2147483648, 2147483653)]))) := rfl
theorem ty_9 : tyT[9]? = some (.inr (.inl (99, 0, 0))) := rfl
theorem ty_22 : tyT[22]? = some (.inr (.inr (9, [(2, 23, 0), full32, (2, 24, 0), full32, full32, (2, 25, 0), (2, 26, 0), full32, (2, 27, 0), (2, 28, 0), (2, 29, 0), (2, 30, 0), (2, 31, 0), (2, 32, 0), (2, 33, 0)]))) := rfl
theorem ty_23 : ∃ rs, tyT[23]? = some (.inl (14000, rs, 0, 0)) ∧ rs.all (fun p => Nat.beq p.2.1 9) = true ∧ rs.isEmpty = false := ⟨_, rfl, by decide, rfl⟩
def moN (i : Nat) : Nat := if i = 2 then 60 else if i = 5 then 5 else 10
theorem ty_mo : ∀ i, 2 ≤ i → i < 12 → tyT[22 + i]? = some (.inl (moN i, [], 0, 0)) := by
  intro i h1 h2
  have : i = 2 ∨ i = 3 ∨ i = 4 ∨ i = 5 ∨ i = 6 ∨ i = 7 ∨ i = 8 ∨ i = 9 ∨ i = 10 ∨ i = 11 := by omega
  rcases this with rfl | rfl | rfl | rfl | rfl | rfl | rfl | rfl | rfl | rfl <;> rfl
theorem mcl_ar {p : Nat → Int32} {a : Nat → Nat → Int32} {z : Nat → Int32} : ∀ i, 2 ≤ i → i < 12 → (mcl p a z)[i]? = some (.inl (moN i, a (i - 1))) := by
  intro i h1 h2
  have : i = 2 ∨ i = 3 ∨ i = 4 ∨ i = 5 ∨ i = 6 ∨ i = 7 ∨ i = 8 ∨ i = 9 ∨ i = 10 ∨ i = 11 := by omega
  rcases this with rfl | rfl | rfl | rfl | rfl | rfl | rfl | rfl | rfl | rfl <;> rfl
theorem mcl_0 {p : Nat → Int32} {a : Nat → Nat → Int32} {z : Nat → Int32} : (mcl p a z)[0]? = some (.inr (.inr (9, mz z))) := rfl
theorem mcl_1 {p : Nat → Int32} {a : Nat → Nat → Int32} {z : Nat → Int32} : (mcl p a z)[1]? = some (.inl (14000, p)) := rfl
theorem obj_same {t n : Nat} {c c' : PE} {ci : Nat} {fts : List FT} {gs : List Value} (ht : tyT[t]? = some (.inr (.inr (ci, fts)))) (hc : c = .inr (.inr (ci, gs))) (hl : gs.length = n) (hp : ∀ j, j < n → prW t j = true) (ho : okSet t c c') : c' = c := by
  unfold okSet at ho
  rw [ht] at ho
  obtain ⟨fs, j, x, h1, h2, h3⟩ := ho
  rw [hc] at h1
  cases h1
  rw [h2, hc]
  by_cases hj : j < n
  · rw [hp j hj] at h3
    cases h3
  · rw [List.set_eq_of_length_le (by omega)]
/-- what the machine itself changes leaves it so -/
theorem GI_ok (S0 e : Nat) (p z : Nat → Int32) : GOK (GI S0 e p z) := by
  intro ph a c c' hW hI h1 hc ho
  have hlen := hI.len
  have hal := (List.getElem?_eq_some_iff.mp hc).1
  have hsz := szH_set hc (okSet_sz ho)
  obtain ⟨⟨tr, f, s, g2, g8, g9, gs, gn, gt, gf, gl, gz⟩, ar, hM⟩ := hI
  have same : c' = c → GI S0 e p z (ph.set a c') := fun e => by
    rw [e, set_same hc]
    exact ⟨⟨tr, f, s, g2, g8, g9, gs, gn, gt, gf, gl, gz⟩, ar, hM⟩
  by_cases a2 : a = 2
  · subst a2
    rw [g2] at hc
    cases hc
    exact same (obj_same (n := 4) ty_2 rfl rfl (by decide) ho)
  by_cases a8 : a = 8
  · subst a8
    rw [g8] at hc
    cases hc
    exact same (obj_same (n := 2) ty_8 rfl rfl (by decide) ho)
  by_cases a9 : a = 9
  · subst a9
    unfold okSet at ho
    rw [show psi 9 = 9 from rfl, ty_9] at ho
    exact ho.elim
  have hGC : ∀ f0, f0 = f → GC S0 e (ph.set a c') tr f0 s := fun f0 e0 => by
    subst e0
    refine ⟨?_, ?_, ?_, gs, gn, ?_, ?_, ?_, ?_⟩
    · rw [List.getElem?_set_ne a2]; exact g2
    · rw [List.getElem?_set_ne a8]; exact g8
    · rw [List.getElem?_set_ne a9]; exact g9
    · rw [List.length_set]; exact gt
    · rw [List.length_set]; exact gf
    · rw [List.length_set]; exact gl
    · rw [hsz]; exact gz
  by_cases hm : a < 75 ∨ 87 ≤ a
  · exact ⟨⟨tr, f, s, hGC f rfl⟩, ar, fun i hi => by rw [List.getElem?_set_ne (by omega)]; exact hM i hi⟩
  · obtain ⟨i, rfl⟩ : ∃ i, a = 75 + i := ⟨a - 75, by omega⟩
    have hi : i < 12 := by omega
    rw [psi_mo i hi] at ho
    rw [hM i hi] at hc
    by_cases i0 : i = 0
    · subst i0
      rw [mcl_0] at hc
      cases hc
      exact same (obj_same (n := 15) ty_22 rfl rfl (by decide) ho)
    by_cases i1 : i = 1
    · subst i1
      obtain ⟨rs, t1, t2, t3⟩ := ty_23
      exfalso
      unfold okSet at ho
      rw [show 22 + 1 = 23 from rfl, t1] at ho
      obtain ⟨f, g, -, -, h | ⟨i, x, -, ⟨q, q1, q2⟩ | ⟨-, -, h⟩⟩⟩ := ho
      · rw [h] at t3
        cases t3
      · have := beq_of (List.all_eq_true.mp t2 q (List.mem_of_getElem? q1))
        obtain ⟨w, k, k2⟩ := q
        dsimp only at this q2
        subst this
        exact q2
      · omega
    · unfold okSet at ho
      rw [ty_mo i (by omega) hi] at ho
      obtain ⟨f0, g, -, rfl, -⟩ := ho
      refine ⟨⟨tr, f, s, hGC f rfl⟩, ua ar (i - 1) g, fun k hk => ?_⟩
      by_cases ek : i = k
      · subst ek
        rw [List.getElem?_set_self hal, mcl_ar i (by omega) hi, ua_eq]
      · rw [List.getElem?_set_ne (by omega), hM k hk]
        by_cases k0 : k = 0
        · subst k0
          rw [mcl_0, mcl_0]
        by_cases k1 : k = 1
        · subst k1
          rw [mcl_1, mcl_1]
        · rw [mcl_ar k (by omega) hk, mcl_ar k (by omega) hk, ua_ne (by omega)]
/-! ===== by hand: pages fit their types ===== -/
def pgT (i : Nat) : FT := if i < 210 then (if i % 21 = 0 then (0, 2147483648, 2147483649) else if i % 21 = 3 then (0, 2147483648, 2147483657) else if i % 21 = 10 then (0, 2147483648, 2147483664) else full32) else if i = 210 then (0, 2147483649, 2147483848) else if i = 211 then (0, 2147483649, 2147483708) else if i = 212 then (0, 2147483649, 2147483656) else if i = 213 then (0, 2147483649, 2147483678) else if i = 217 then (0, 2147483648, 2147483848) else if i = 218 then (0, 2147483648, 2147483708) else if i = 219 then (0, 2147483648, 2147483888) else full32
def rsB (t : Option TT) : Bool := match t with
  | some (.inl (n, rs, a, b)) => Nat.beq n 14000 && Nat.beq a 0 && Nat.beq b 0 && Nat.beq rs.length 220 && (List.range 220).all (fun i => match rs[i]? with
    | some e => decide (e.1 = pgT i)
    | none => false)
  | _ => false
theorem rs_chk : rsB tyT[23]? = true := by decide +kernel
theorem rg_fit {f : Nat → Int32} {i len : Nat} {a b : Int} {m n : Nat} (h : rg f i a b) (hm : (m : Int) = a + 2147483648) (hn : (n : Int) = b + 2147483648) (ha : -2147483648 ≤ a) (hb : b ≤ 2147483647) : fitT len (0, m, n) (.int (f i)) := by
  obtain ⟨e, e1, e2, e3⟩ := h
  refine ⟨f i, rfl, ?_, ?_⟩
  all_goals
    have h1 := cI_toInt (f i)
    rw [e1, iv_toInt (by unfold inR; omega)] at h1
    rw [e1]
    omega
theorem page_fit {T : Nat} {p : Nat → Int32} (h : PageOK T p) (len i : Nat) : fitT len (pgT i) (.int (p i)) := by
  obtain ⟨⟨hc, ⟨l1, l2, l3, l4, l5, l6⟩, -⟩, t, C, -, -, t3, -, t5⟩ := h
  unfold pgT
  split
  · rename_i hi
    obtain ⟨c, w, hw, rfl⟩ : ∃ c w, w < 21 ∧ i = 21 * c + w := ⟨i / 21, i % 21, by omega, by omega⟩
    have hc10 : c < 10 := by omega
    have hmod : (21 * c + w) % 21 = w := by omega
    rw [hmod]
    obtain ⟨c1, c2, c3, -⟩ := hc c hc10
    split
    · rename_i e
      subst e
      exact rg_fit c1 rfl rfl (by omega) (by omega)
    · split
      · rename_i e
        subst e
        exact rg_fit c2 rfl rfl (by omega) (by omega)
      · split
        · rename_i e
          subst e
          exact rg_fit c3 rfl rfl (by omega) (by omega)
        · exact fit_full _ _
  · split
    · rename_i e; subst e; exact rg_fit l1 rfl rfl (by omega) (by omega)
    · split
      · rename_i e; subst e; exact rg_fit l2 rfl rfl (by omega) (by omega)
      · split
        · rename_i e; subst e; exact rg_fit l3 rfl rfl (by omega) (by omega)
        · split
          · rename_i e; subst e; exact rg_fit l4 rfl rfl (by omega) (by omega)
          · split
            · rename_i e; subst e; exact rg_fit l5 rfl rfl (by omega) (by omega)
            · split
              · rename_i e; subst e; exact rg_fit l6 rfl rfl (by omega) (by omega)
              · split
                · rename_i e
                  subst e
                  have := ack_le t5
                  exact rg_fit (a := 0) (b := 240) ⟨(C : Int), t3, by omega, by omega⟩ rfl rfl (by omega) (by omega)
                · exact fit_full _ _
theorem fit_ref {len r t : Nat} (h1 : 1 ≤ r) (h2 : r < len) (h3 : psi r = t) : fitT len (2, t, 0) (.ref r) := ⟨r, rfl, h1, h2, h3⟩
/-- the other side's cells have their types -/
theorem mo_cell {T len : Nat} {p : Nat → Int32} {a : Nat → Nat → Int32} {z : Nat → Int32} (hP : PageOK T p) (hlen : 87 ≤ len) : ∀ i, i < 12 → ∀ t, tyT[22 + i]? = some t → ∃ c, (mcl p a z)[i]? = some c ∧ cellT len t c := by
  intro i hi t ht
  by_cases i0 : i = 0
  · subst i0
    rw [show 22 + 0 = 22 from rfl, ty_22] at ht
    cases ht
    refine ⟨_, mcl_0, mz z, rfl, rfl, fun j q hq => ?_⟩
    match j, hq with
    | 0, hq => cases hq; exact ⟨_, rfl, fit_ref (by decide) (by omega) (by decide)⟩
    | 1, hq => cases hq; exact ⟨_, rfl, fit_full _ _⟩
    | 2, hq => cases hq; exact ⟨_, rfl, fit_ref (by decide) (by omega) (by decide)⟩
    | 3, hq => cases hq; exact ⟨_, rfl, fit_full _ _⟩
    | 4, hq => cases hq; exact ⟨_, rfl, fit_full _ _⟩
    | 5, hq => cases hq; exact ⟨_, rfl, fit_ref (by decide) (by omega) (by decide)⟩
    | 6, hq => cases hq; exact ⟨_, rfl, fit_ref (by decide) (by omega) (by decide)⟩
    | 7, hq => cases hq; exact ⟨_, rfl, fit_full _ _⟩
    | 8, hq => cases hq; exact ⟨_, rfl, fit_ref (by decide) (by omega) (by decide)⟩
    | 9, hq => cases hq; exact ⟨_, rfl, fit_ref (by decide) (by omega) (by decide)⟩
    | 10, hq => cases hq; exact ⟨_, rfl, fit_ref (by decide) (by omega) (by decide)⟩
    | 11, hq => cases hq; exact ⟨_, rfl, fit_ref (by decide) (by omega) (by decide)⟩
    | 12, hq => cases hq; exact ⟨_, rfl, fit_ref (by decide) (by omega) (by decide)⟩
    | 13, hq => cases hq; exact ⟨_, rfl, fit_ref (by decide) (by omega) (by decide)⟩
    | 14, hq => cases hq; exact ⟨_, rfl, fit_ref (by decide) (by omega) (by decide)⟩
    | j + 15, hq => simp at hq
  by_cases i1 : i = 1
  · subst i1
    have hk := rs_chk
    rw [show 22 + 1 = 23 from rfl] at ht
    rw [ht] at hk
    unfold rsB at hk
    match t, hk with
    | .inl (n, rs, x, y), hk =>
      simp only [Bool.and_eq_true] at hk
      obtain ⟨⟨⟨⟨k1, k2⟩, k3⟩, k4⟩, k5⟩ := hk
      have := beq_of k1
      subst this
      refine ⟨_, mcl_1, p, rfl, fun j q hq => ?_⟩
      have hj : j < 220 := by rw [← beq_of k4]; exact (List.getElem?_eq_some_iff.mp hq).1
      have h5 := List.all_eq_true.mp k5 j (List.mem_range.mpr hj)
      rw [hq] at h5
      rw [of_decide_eq_true h5]
      exact page_fit hP len j
  · rw [ty_mo i (by omega) hi] at ht
    cases ht
    exact ⟨_, mcl_ar i (by omega) hi, a (i - 1), rfl, fun j q hq => by simp at hq⟩
/-- another page, other arrays, other ints: the types stay -/
theorem WT_mh {T : Nat} {B : PH} {p p' : Nat → Int32} {a a' : Nat → Nat → Int32} {z z' : Nat → Int32} (hB : 87 ≤ B.length) (h : WT (mh B p a z)) (hP : PageOK T p') : WT (mh B p' a' z') := by
  intro x h1 h2 t ht
  rw [mh_len hB] at h2 ⊢
  by_cases hm : x < 75 ∨ 87 ≤ x
  · obtain ⟨c, c1, c2⟩ := h x h1 (by rw [mh_len hB]; exact h2) t ht
    rw [mh_len hB] at c2
    refine ⟨c, ?_, c2⟩
    rcases hm with hm | hm
    · rw [mh_lo hB hm] at c1 ⊢
      exact c1
    · rw [mh_hi hB hm] at c1 ⊢
      exact c1
  · obtain ⟨i, rfl⟩ : ∃ i, x = 75 + i := ⟨x - 75, by omega⟩
    rw [psi_mo i (by omega)] at ht
    rw [mh_get hB (by omega)]
    exact mo_cell hP hB i (by omega) t ht
theorem mcl_sz {p p' : Nat → Int32} {a a' : Nat → Nat → Int32} {z z' : Nat → Int32} : szH (mcl p a z) = szH (mcl p' a' z') := rfl
theorem mh_sz {B : PH} {p p' : Nat → Int32} {a a' : Nat → Nat → Int32} {z z' : Nat → Int32} : szH (mh B p a z) = szH (mh B p' a' z') := by
  unfold mh
  rw [szH_app, szH_app, szH_app, szH_app, mcl_sz]
theorem GI_mh {S0 e : Nat} {B : PH} {p p' : Nat → Int32} {a a' : Nat → Nat → Int32} {z z' : Nat → Int32} (hB : 87 ≤ B.length) (h : GI S0 e p z (mh B p a z)) : GI S0 e p' z' (mh B p' a' z') := by
  obtain ⟨⟨tr, f, s, g2, g8, g9, gs, gn, gt, gf, gl, gz⟩, -⟩ := h
  have hl := mh_len (p := p) (a := a) (z := z) hB
  have hl' := mh_len (p := p') (a := a') (z := z') hB
  rw [hl] at gt gf gl
  rw [mh_lo hB (by omega)] at g2 g8 g9
  refine ⟨⟨tr, f, s, ?_, ?_, ?_, gs, gn, ?_, ?_, ?_, ?_⟩, a', mh_MH hB⟩
  · rw [mh_lo hB (by omega)]; exact g2
  · rw [mh_lo hB (by omega)]; exact g8
  · rw [mh_lo hB (by omega)]; exact g9
  · rw [hl']; exact gt
  · rw [hl']; exact gf
  · rw [hl']; exact gl
  · rw [← gz]; exact mh_sz

/-! ===== by program (wip/gen/gen86.py): a new family fits its types ===== -/
theorem rw_4_37 : (codeOf 4)[37]? = some (73, .aload 0, 0, 0, 3, 1, []) := by rw [kc4_eq]; rfl
theorem rw_4_38 : (codeOf 4)[38]? = some (74, .iconst 1, 2147483649, 0, 0, 1, []) := by rw [kc4_eq]; rfl
theorem rw_4_39 : (codeOf 4)[39]? = some (75, .invokevirtual 36, 11, 0, 0, 3, []) := by rw [kc4_eq]; rfl
theorem rw_4_40 : (codeOf 4)[40]? = some (78, .aload 0, 0, 0, 3, 1, []) := by rw [kc4_eq]; rfl
theorem rw_4_41 : (codeOf 4)[41]? = some (79, .invokevirtual 40, 16, 0, 0, 3, []) := by rw [kc4_eq]; rfl
theorem rw_4_42 : (codeOf 4)[42]? = some (82, .return_, 0, 0, 0, 1, []) := by rw [kc4_eq]; rfl
theorem ty_10 : tyT[10]? = some (.inr (.inr (3, [(2, 11, 0), (2, 12, 0), full32, full32, full32, full32, (2, 17, 0), (2, 17, 0)]))) := rfl
theorem ty_11 : tyT[11]? = some (.inr (.inl (6, 10, 18))) := rfl
theorem ty_12 : tyT[12]? = some (.inr (.inr (4, [(0, 2147483649, 2147483708), (0, 2147483649, 2147483656), (0, 2147483649, 2147483678), (2, 13, 0), (2, 15, 0)]))) := rfl
theorem ty_15 : tyT[15]? = some (.inr (.inr (5, [(2, 16, 0), (2, 16, 0), (2, 16, 0), (2, 16, 0), (0, 2147483648, 2147483888)]))) := rfl
theorem ty_16 : tyT[16]? = some (.inl (240, [], 0, 0)) := rfl
theorem ty_17 : tyT[17]? = some (.inl (10, [], 0, 0)) := rfl
theorem ty_18 : tyT[18]? = some (.inr (.inr (6, [(0, 2147483648, 2147483649), full32, full32, full32, full32, full32, full32, full32, full32, full32, full32, full32, full32, full32, full32, full32, full32, full32, (2, 19, 0), (2, 20, 0)]))) := rfl
theorem ty_19 : tyT[19]? = some (.inr (.inr (7, [(0, 2147483648, 2147483649), full32, full64, full32]))) := rfl
theorem fit_0 {len lo hi : Nat} (h1 : lo ≤ 2147483648) (h2 : 2147483648 ≤ hi) : fitT len (0, lo, hi) (.int 0) := nat_fit (k := 0) (by omega) (by omega) (by omega)
theorem fit_k {len lo hi : Nat} (k : Nat) {x : Int32} (hx : x = iv (k : Int)) (h1 : lo ≤ 2147483648 + k) (h2 : 2147483648 + k ≤ hi) (hk : k < 1000) : fitT len (0, lo, hi) (.int x) := by
  rw [hx]
  exact nat_fit (by omega) (by omega) (by omega)
theorem ps {b r i t : Nat} (hr : r = 87 + 65 * b + i) (hi : i < 65) (ht : faT.getD i 0 = t) : psi r = t := by
  rw [hr, psi_hi b i hi, ht]
theorem psC : ∀ j, j < 10 → ∀ w, w < 5 → faT.getD (15 + 5 * j + w) 0 = [18, 19, 20, 21, 21].getD w 0 := by decide
theorem ar0 {len m : Nat} : cellT len (.inl (m, [], 0, 0)) (A0 m) := ⟨_, rfl, fun i q hq => by simp at hq⟩
theorem cns_get (q : Nat) : ∀ k j w, j < k → w < 5 → (cns q k)[5 * j + w]? = (cn5 (q + 14 + 5 * j))[w]?
  | 0, _, _, h, _ => absurd h (Nat.not_lt_zero _)
  | k + 1, j, w, h, hw => by
    rw [cns]
    by_cases ej : j = k
    · subst ej
      rw [List.getElem?_append_right (by rw [cns_len]; omega), cns_len, Nat.add_sub_cancel_left]
    · rw [List.getElem?_append_left (by rw [cns_len]; omega)]
      exact cns_get q k j w (by omega) hw
/-- a whole block, at address n -/
def BK (n : Nat) : PH := .inr (.inr (3, fmF (n + 1))) :: (hd (n + 1) (mkF (n + 1) 10) ++ cns (n + 1) 10)
theorem BK_len (n : Nat) : (BK n).length = 65 := by
  unfold BK
  rw [List.length_cons, List.length_append, cns_len]
  rfl
theorem sz_a (m : Nat) : szC (A0 m) = m := rfl
theorem sz_m (f : Nat → Option Nat) : szC (.inr (.inl (6, 10, f))) = 10 := rfl
theorem sz_4 (fs : List Value) : szC (.inr (.inr (4, fs))) = 5 := rfl
theorem sz_5 (fs : List Value) : szC (.inr (.inr (5, fs))) = 5 := rfl
theorem BK_sz (n : Nat) : szH (BK n) = 2803 := by
  have h : ∀ k, szH (cns (n + 1) k) = 155 * k := by
    intro k
    induction k with
    | zero => rfl
    | succ k ih =>
      rw [cns, szH_app, ih]
      show 155 * k + 155 = _
      omega
  have h1 : szH [.inr (.inr (3, fmF (n + 1)))] = 8 := rfl
  have h2 : szH (hd (n + 1) (mkF (n + 1) 10)) = 1245 := by
    unfold szH hd
    simp only [List.map_cons, List.map_nil, List.sum_cons, List.sum_nil, sz_a, sz_m, sz_4, sz_5]
    omega
  unfold BK
  rw [← List.singleton_append, szH_app, szH_app, h, h1, h2]
theorem BK_hd (n : Nat) {i : Nat} {c : PE} (h : (.inr (.inr (3, fmF (n + 1))) :: hd (n + 1) (mkF (n + 1) 10) : PH)[i]? = some c) : (BK n)[i]? = some c := by
  show ((.inr (.inr (3, fmF (n + 1))) :: hd (n + 1) (mkF (n + 1) 10) : PH) ++ cns (n + 1) 10)[i]? = some c
  rw [List.getElem?_append_left (List.getElem?_eq_some_iff.mp h).1]
  exact h
theorem BK_cn (n : Nat) {j w : Nat} (hj : j < 10) (hw : w < 5) : (BK n)[15 + 5 * j + w]? = (cn5 (n + 1 + 14 + 5 * j))[w]? := by
  show ((.inr (.inr (3, fmF (n + 1))) :: hd (n + 1) (mkF (n + 1) 10) : PH) ++ cns (n + 1) 10)[15 + 5 * j + w]? = _
  rw [List.getElem?_append_right (by show 15 ≤ _; omega)]
  show (cns (n + 1) 10)[15 + 5 * j + w - 15]? = _
  rw [show 15 + 5 * j + w - 15 = 5 * j + w by omega]
  exact cns_get _ 10 j w hj hw
theorem BK_cell {b n len : Nat} (hn : n = 87 + 65 * b) (hlen : n + 65 ≤ len) : ∀ i, i < 65 → ∀ t, tyT[faT.getD i 0]? = some t → ∃ c, (BK n)[i]? = some c ∧ cellT len t c := by
  intro i hi t ht
  by_cases h15 : i < 15
  · match i, h15, ht with
    | 0, _, ht =>
      rw [show faT.getD 0 0 = 10 from rfl, ty_10] at ht
      cases ht
      refine ⟨_, BK_hd (i := 0) n rfl, ?_⟩
      refine ⟨_, rfl, rfl, fun j q hq => ?_⟩
      match j, hq with
      | 0, hq => cases hq; exact ⟨_, rfl, fit_ref (by omega) (by omega) (ps (b := b) (i := 1) (by omega) (by omega) rfl)⟩
      | 1, hq => cases hq; exact ⟨_, rfl, fit_ref (by omega) (by omega) (ps (b := b) (i := 2) (by omega) (by omega) rfl)⟩
      | 2, hq => cases hq; exact ⟨_, rfl, fit_full _ _⟩
      | 3, hq => cases hq; exact ⟨_, rfl, fit_full _ _⟩
      | 4, hq => cases hq; exact ⟨_, rfl, fit_full _ _⟩
      | 5, hq => cases hq; exact ⟨_, rfl, fit_full _ _⟩
      | 6, hq => cases hq; exact ⟨_, rfl, fit_ref (by omega) (by omega) (ps (b := b) (i := 13) (by omega) (by omega) rfl)⟩
      | 7, hq => cases hq; exact ⟨_, rfl, fit_ref (by omega) (by omega) (ps (b := b) (i := 14) (by omega) (by omega) rfl)⟩
      | j + 8, hq => simp at hq
    | 1, _, ht =>
      rw [show faT.getD 1 0 = 11 from rfl, ty_11] at ht
      cases ht
      refine ⟨_, BK_hd (i := 1) n rfl, ?_⟩
      refine Or.inr ⟨_, rfl, by decide, fun j hj => ⟨n + 1 + 14 + 5 * j, if_pos hj, by omega, by omega, ps (b := b) (i := 15 + 5 * j + 0) (by omega) (by omega) (psC j hj 0 (by omega))⟩⟩
    | 2, _, ht =>
      rw [show faT.getD 2 0 = 12 from rfl, ty_12] at ht
      cases ht
      refine ⟨_, BK_hd (i := 2) n rfl, ?_⟩
      refine ⟨_, rfl, rfl, fun j q hq => ?_⟩
      match j, hq with
      | 0, hq => cases hq; exact ⟨_, rfl, fit_k 20 rfl (by omega) (by omega) (by omega)⟩
      | 1, hq => cases hq; exact ⟨_, rfl, fit_k 2 rfl (by omega) (by omega) (by omega)⟩
      | 2, hq => cases hq; exact ⟨_, rfl, fit_k 5 rfl (by omega) (by omega) (by omega)⟩
      | 3, hq => cases hq; exact ⟨_, rfl, fit_ref (by omega) (by omega) (ps (b := b) (i := 3) (by omega) (by omega) rfl)⟩
      | 4, hq => cases hq; exact ⟨_, rfl, fit_ref (by omega) (by omega) (ps (b := b) (i := 8) (by omega) (by omega) rfl)⟩
      | j + 5, hq => simp at hq
    | 3, _, ht =>
      rw [show faT.getD 3 0 = 13 from rfl, ty_13] at ht
      cases ht
      refine ⟨_, BK_hd (i := 3) n rfl, ?_⟩
      refine ⟨_, rfl, rfl, fun j q hq => ?_⟩
      match j, hq with
      | 0, hq => cases hq; exact ⟨_, rfl, fit_ref (by omega) (by omega) (ps (b := b) (i := 4) (by omega) (by omega) rfl)⟩
      | 1, hq => cases hq; exact ⟨_, rfl, fit_ref (by omega) (by omega) (ps (b := b) (i := 5) (by omega) (by omega) rfl)⟩
      | 2, hq => cases hq; exact ⟨_, rfl, fit_ref (by omega) (by omega) (ps (b := b) (i := 6) (by omega) (by omega) rfl)⟩
      | 3, hq => cases hq; exact ⟨_, rfl, fit_ref (by omega) (by omega) (ps (b := b) (i := 7) (by omega) (by omega) rfl)⟩
      | 4, hq => cases hq; exact ⟨_, rfl, fit_0 (by omega) (by omega)⟩
      | j + 5, hq => simp at hq
    | 4, _, ht =>
      rw [show faT.getD 4 0 = 14 from rfl, ty_14] at ht
      cases ht
      refine ⟨_, BK_hd (i := 4) n rfl, ?_⟩
      exact ar0
    | 5, _, ht =>
      rw [show faT.getD 5 0 = 14 from rfl, ty_14] at ht
      cases ht
      refine ⟨_, BK_hd (i := 5) n rfl, ?_⟩
      exact ar0
    | 6, _, ht =>
      rw [show faT.getD 6 0 = 14 from rfl, ty_14] at ht
      cases ht
      refine ⟨_, BK_hd (i := 6) n rfl, ?_⟩
      exact ar0
    | 7, _, ht =>
      rw [show faT.getD 7 0 = 14 from rfl, ty_14] at ht
      cases ht
      refine ⟨_, BK_hd (i := 7) n rfl, ?_⟩
      exact ar0
    | 8, _, ht =>
      rw [show faT.getD 8 0 = 15 from rfl, ty_15] at ht
      cases ht
      refine ⟨_, BK_hd (i := 8) n rfl, ?_⟩
      refine ⟨_, rfl, rfl, fun j q hq => ?_⟩
      match j, hq with
      | 0, hq => cases hq; exact ⟨_, rfl, fit_ref (by omega) (by omega) (ps (b := b) (i := 9) (by omega) (by omega) rfl)⟩
      | 1, hq => cases hq; exact ⟨_, rfl, fit_ref (by omega) (by omega) (ps (b := b) (i := 10) (by omega) (by omega) rfl)⟩
      | 2, hq => cases hq; exact ⟨_, rfl, fit_ref (by omega) (by omega) (ps (b := b) (i := 11) (by omega) (by omega) rfl)⟩
      | 3, hq => cases hq; exact ⟨_, rfl, fit_ref (by omega) (by omega) (ps (b := b) (i := 12) (by omega) (by omega) rfl)⟩
      | 4, hq => cases hq; exact ⟨_, rfl, fit_0 (by omega) (by omega)⟩
      | j + 5, hq => simp at hq
    | 9, _, ht =>
      rw [show faT.getD 9 0 = 16 from rfl, ty_16] at ht
      cases ht
      refine ⟨_, BK_hd (i := 9) n rfl, ?_⟩
      exact ar0
    | 10, _, ht =>
      rw [show faT.getD 10 0 = 16 from rfl, ty_16] at ht
      cases ht
      refine ⟨_, BK_hd (i := 10) n rfl, ?_⟩
      exact ar0
    | 11, _, ht =>
      rw [show faT.getD 11 0 = 16 from rfl, ty_16] at ht
      cases ht
      refine ⟨_, BK_hd (i := 11) n rfl, ?_⟩
      exact ar0
    | 12, _, ht =>
      rw [show faT.getD 12 0 = 16 from rfl, ty_16] at ht
      cases ht
      refine ⟨_, BK_hd (i := 12) n rfl, ?_⟩
      exact ar0
    | 13, _, ht =>
      rw [show faT.getD 13 0 = 17 from rfl, ty_17] at ht
      cases ht
      refine ⟨_, BK_hd (i := 13) n rfl, ?_⟩
      exact ar0
    | 14, _, ht =>
      rw [show faT.getD 14 0 = 17 from rfl, ty_17] at ht
      cases ht
      refine ⟨_, BK_hd (i := 14) n rfl, ?_⟩
      exact ar0
    | i + 15, h15, _ => exact absurd h15 (by omega)
  · obtain ⟨j, w, hj, hw, rfl⟩ : ∃ j w, j < 10 ∧ w < 5 ∧ i = 15 + 5 * j + w := ⟨(i - 15) / 5, (i - 15) % 5, by omega, by omega, by omega⟩
    rw [psC j hj w hw] at ht
    rw [BK_cn n hj hw]
    match w, hw, ht with
    | 0, _, ht =>
      rw [show [18, 19, 20, 21, 21].getD 0 0 = 18 from rfl, ty_18] at ht
      cases ht
      refine ⟨_, rfl, ?_⟩
      refine ⟨_, rfl, rfl, fun k q hq => ?_⟩
      match k, hq with
      | 0, hq => cases hq; exact ⟨_, rfl, fit_0 (by omega) (by omega)⟩
      | 1, hq => cases hq; exact ⟨_, rfl, fit_full _ _⟩
      | 2, hq => cases hq; exact ⟨_, rfl, fit_full _ _⟩
      | 3, hq => cases hq; exact ⟨_, rfl, fit_full _ _⟩
      | 4, hq => cases hq; exact ⟨_, rfl, fit_full _ _⟩
      | 5, hq => cases hq; exact ⟨_, rfl, fit_full _ _⟩
      | 6, hq => cases hq; exact ⟨_, rfl, fit_full _ _⟩
      | 7, hq => cases hq; exact ⟨_, rfl, fit_full _ _⟩
      | 8, hq => cases hq; exact ⟨_, rfl, fit_full _ _⟩
      | 9, hq => cases hq; exact ⟨_, rfl, fit_full _ _⟩
      | 10, hq => cases hq; exact ⟨_, rfl, fit_full _ _⟩
      | 11, hq => cases hq; exact ⟨_, rfl, fit_full _ _⟩
      | 12, hq => cases hq; exact ⟨_, rfl, fit_full _ _⟩
      | 13, hq => cases hq; exact ⟨_, rfl, fit_full _ _⟩
      | 14, hq => cases hq; exact ⟨_, rfl, fit_full _ _⟩
      | 15, hq => cases hq; exact ⟨_, rfl, fit_full _ _⟩
      | 16, hq => cases hq; exact ⟨_, rfl, fit_full _ _⟩
      | 17, hq => cases hq; exact ⟨_, rfl, fit_full _ _⟩
      | 18, hq => cases hq; exact ⟨_, rfl, fit_ref (by omega) (by omega) (ps (b := b) (i := 15 + 5 * j + 1) (by omega) (by omega) (psC j hj 1 (by omega)))⟩
      | 19, hq => cases hq; exact ⟨_, rfl, fit_ref (by omega) (by omega) (ps (b := b) (i := 15 + 5 * j + 2) (by omega) (by omega) (psC j hj 2 (by omega)))⟩
      | k + 20, hq => simp at hq
    | 1, _, ht =>
      rw [show [18, 19, 20, 21, 21].getD 1 0 = 19 from rfl, ty_19] at ht
      cases ht
      refine ⟨_, rfl, ?_⟩
      refine ⟨_, rfl, rfl, fun k q hq => ?_⟩
      match k, hq with
      | 0, hq => cases hq; exact ⟨_, rfl, fit_0 (by omega) (by omega)⟩
      | 1, hq => cases hq; exact ⟨_, rfl, fit_full _ _⟩
      | 2, hq => cases hq; exact ⟨_, rfl, fit_full64 _ _⟩
      | 3, hq => cases hq; exact ⟨_, rfl, fit_full _ _⟩
      | k + 4, hq => simp at hq
    | 2, _, ht =>
      rw [show [18, 19, 20, 21, 21].getD 2 0 = 20 from rfl, ty_20] at ht
      cases ht
      refine ⟨_, rfl, ?_⟩
      refine ⟨_, rfl, rfl, fun k q hq => ?_⟩
      match k, hq with
      | 0, hq => cases hq; exact ⟨_, rfl, fit_ref (by omega) (by omega) (ps (b := b) (i := 15 + 5 * j + 3) (by omega) (by omega) (psC j hj 3 (by omega)))⟩
      | 1, hq => cases hq; exact ⟨_, rfl, fit_ref (by omega) (by omega) (ps (b := b) (i := 15 + 5 * j + 4) (by omega) (by omega) (psC j hj 4 (by omega)))⟩
      | 2, hq => cases hq; exact ⟨_, rfl, fit_0 (by omega) (by omega)⟩
      | k + 3, hq => simp at hq
    | 3, _, ht =>
      rw [show [18, 19, 20, 21, 21].getD 3 0 = 21 from rfl, ty_21] at ht
      cases ht
      refine ⟨_, rfl, ?_⟩
      exact ar0
    | 4, _, ht =>
      rw [show [18, 19, 20, 21, 21].getD 4 0 = 21 from rfl, ty_21] at ht
      cases ht
      refine ⟨_, rfl, ?_⟩
      exact ar0
    | w + 5, hw, _ => exact absurd hw (by omega)
theorem WT_BK {ph : PH} {b : Nat} (hW : WT ph) (hn : ph.length = 87 + 65 * b) : WT (ph ++ BK ph.length) := by
  intro a h1 h2 t ht
  have hl : (ph ++ BK ph.length).length = ph.length + 65 := by rw [List.length_append, BK_len]
  rw [hl] at h2 ⊢
  by_cases ha : a < ph.length
  · obtain ⟨c, c1, c2⟩ := hW a h1 ha t ht
    exact ⟨c, by rw [List.getElem?_append_left ha]; exact c1, c2.mono (by omega)⟩
  · obtain ⟨i, rfl⟩ : ∃ i, a = ph.length + i := ⟨a - ph.length, by omega⟩
    rw [List.getElem?_append_right (by omega), Nat.add_sub_cancel_left]
    rw [hn, psi_hi b i (by omega)] at ht
    exact BK_cell hn (Nat.le_refl _) i (by omega) t ht
theorem Fr.at {mk a : Nat} {ph ph' : PH} {c : PE} (h : Fr mk ph ph') (ha : ph[a]? = some c) (hb : Nat.testBit mk (psi a) = false) : ph'[a]? = some c := by
  obtain ⟨c', h1, h2, -⟩ := h.2 a c ha
  rw [h1, h2 hb]
theorem Fr_app (mk : Nat) (ph l : PH) : Fr mk ph (ph ++ l) := by
  refine ⟨by rw [List.length_append]; omega, fun a c hc => ⟨c, ?_, fun _ => rfl, fun _ => stay.rfl' _ _⟩⟩
  rw [List.getElem?_append_left (List.getElem?_eq_some_iff.mp hc).1]
  exact hc
theorem Fr_setX {mk a : Nat} {ph : PH} {c c' : PE} (ha : ph[a]? = some c) (hb : Nat.testBit mk (psi a) = true) (hs : Nat.testBit mk (64 + psi a) = true ∨ stay (psi a) c c') : Fr mk ph (ph.set a c') := by
  have hlt := (List.getElem?_eq_some_iff.mp ha).1
  refine ⟨by rw [List.length_set]; exact Nat.le_refl _, fun x q hq => ?_⟩
  by_cases e : a = x
  · subst e
    rw [ha] at hq
    cases hq
    refine ⟨c', List.getElem?_set_self hlt, fun z => ?_, fun z => ?_⟩
    · rw [hb] at z
      cases z
    · rcases hs with hs | hs
      · rw [hs] at z
        cases z
      · exact hs
  · exact ⟨q, by rw [List.getElem?_set_ne e]; exact hq, fun _ => rfl, fun _ => stay.rfl' _ _⟩
theorem GC.det {S0 e e' : Nat} {ph ph' : PH} {tr tr' : Option Nat} {f f' : Nat → Option Nat} {s s' : Nat} (h : GC S0 e ph tr f s) (h' : GC S0 e' ph' tr' f' s') (e2 : ph'[2]? = ph[2]?) (e8 : ph'[8]? = ph[8]?) (e9 : ph'[9]? = ph[9]?) : tr' = tr ∧ f' = f ∧ s' = s := by
  obtain ⟨a2, a8, a9, as, -⟩ := h
  obtain ⟨b2, b8, b9, bs, -⟩ := h'
  rw [e2, a2] at b2
  rw [e8, a8] at b8
  rw [e9, a9] at b9
  refine ⟨?_, ?_, ?_⟩
  · have hv : va_rf tr = va_rf tr' := by
      injection b2 with b2
      injection b2 with b2
      injection b2 with b2
      injection b2 with _ b2
      injection b2 with _ b2
      injection b2 with _ b2
      injection b2 with _ b2
      injection b2 with b2 _
    cases tr with
    | none => cases tr' with
      | none => rfl
      | some r => cases hv
    | some r => cases tr' with
      | none => cases hv
      | some r' => cases hv; rfl
  · cases b9
    rfl
  · have hv : iv (s : Int) = iv (s' : Int) := by
      injection b8 with b8
      injection b8 with b8
      injection b8 with b8
      injection b8 with _ b8
      injection b8 with _ b8
      injection b8 with b8 _
      injection b8
    exact (iv_nat (by omega) (by omega) hv).symm
theorem MH.app {ph l : PH} {p : Nat → Int32} {a : Nat → Nat → Int32} {z : Nat → Int32} (h : MH ph p a z) (hl : 87 ≤ ph.length) : MH (ph ++ l) p a z := fun i hi => by
  rw [List.getElem?_append_left (by omega)]
  exact h i hi
theorem GC.app {S0 : Nat} {ph : PH} {tr : Option Nat} {f : Nat → Option Nat} {s : Nat} (h : GC S0 0 ph tr f s) : GC S0 1 (ph ++ BK ph.length) tr f s := by
  obtain ⟨a2, a8, a9, as, an, at', af, al, az⟩ := h
  have hl : (ph ++ BK ph.length).length = ph.length + 65 := by rw [List.length_append, BK_len]
  have key : ∀ i, i < 87 → (ph ++ BK ph.length)[i]? = ph[i]? := fun i hi => List.getElem?_append_left (by omega)
  have mono : ∀ r, isF ph.length r → isF (ph ++ BK ph.length).length r := fun r hr => ⟨hr.1, by rw [hl]; have := hr.2.1; omega, hr.2.2⟩
  refine ⟨(key 2 (by omega)).trans a2, (key 8 (by omega)).trans a8, (key 9 (by omega)).trans a9, as, an, fun r hr => mono r (at' r hr), fun j hj r hr => mono r (af j hj r hr), ?_, ?_⟩
  · rw [hl]
    omega
  · rw [szH_app, BK_sz, az]
    omega
theorem ct_11 : ctT[11]? = some (some ([(2, 10, 0), (0, 0, 4294967295)], [none], 1876992, 2)) := rfl
theorem ct_16 : ctT[16]? = some (some ([(2, 10, 0)], [none], 393216, 3)) := rfl
theorem ct_32 : ctT[32]? = some (some ([(2, 10, 0), (2, 10, 0)], [none], 4060160, 3)) := rfl
theorem zc_ct {GI : PH → Prop} {D d kc : Nat} {c : CT} {as : List Value} {ph : PH} (hK : CtAll GI D) (hc : ctT[kc]? = some (some c)) (hD : c.2.2.2 < D) (hd : c.2.2.2 ≤ d) (hW : WT ph) (hI : GI ph) (hf : fitAs ph.length c.1 as) : ZC d kc as ph (fun v ph' => WT ph' ∧ GI ph' ∧ Fr c.2.2.1 ph ph' ∧ ∃ q ∈ c.2.1, fitO ph'.length q v) := hK kc c hc hD d ph as hd hW hI hf
theorem none_of {len : Nat} {v : Option Value} (h : ∃ q ∈ ([none] : List (Option FT)), fitO len q v) : v = none := by
  obtain ⟨q, hq, h⟩ := h
  cases List.mem_singleton.mp hq
  cases v with
  | none => rfl
  | some x => exact h.elim
theorem fam_cell {ph : PH} {r : Nat} (hW : WT ph) (h1 : 1 ≤ r) (h2 : r < ph.length) (h3 : psi r = 10) : ∃ fs, ph[r]? = some (.inr (.inr (3, fs))) := by
  obtain ⟨c, hc, fs, rfl, -⟩ := hW.get h1 h2 h3 ty_10
  exact ⟨fs, hc⟩
theorem fam_new {S0 d : Nat} {p z : Nat → Int32} {ph : PH} (hK : CtAll (GI S0 1 p z) 4) (hW : WT ph) {tr : Option Nat} {f : Nat → Option Nat} {s : Nat} (hC : GC S0 0 ph tr f s) {a : Nat → Nat → Int32} (hM : MH ph p a z) : ZC (d + 4) 4 [.ref ph.length] (ph ++ [.inr (.inr (3, [.null, .null, .int 0, .int 0, .int 0, .int 0, .null, .null]))]) (fun w ph' => w = none ∧ WT ph' ∧ (GC S0 1 ph' tr f s ∧ ∃ a, MH ph' p a z) ∧ Fr 2008064 ph ph') := by
  have hlen := hC.2.2.2.2.2.2.2.1
  have hn : ∃ b, ph.length = 87 + 65 * b := ⟨_, hC.2.2.2.2.2.2.2.1⟩
  obtain ⟨b, hb⟩ := hn
  have hpsi : psi ph.length = 10 := ps (b := b) (i := 0) hb (by omega) rfl
  have hG : ∀ M : PH, G (ph ++ [.inr (.inr (3, [.null, .null, .int 0, .int 0, .int 0, .int 0, .null, .null]))]) ph.length 3 (fmF (ph.length + 1)) M = ph ++ .inr (.inr (3, fmF (ph.length + 1))) :: M := by
    intro M
    unfold G
    rw [List.set_append_right _ _ (Nat.le_refl _), Nat.sub_self, List.append_assoc]
    rfl
  refine fam_init (by rw [List.getElem?_append_right (Nat.le_refl _), Nat.sub_self]; rfl) (by omega) ?_
  rw [List.length_append, show ph.length + ([.inr (.inr (3, [.null, .null, .int 0, .int 0, .int 0, .int 0, .null, .null]))] : PH).length = ph.length + 1 from rfl, hG]
  show ZR (d + 4) 4 37 _ [] (ph ++ BK ph.length) _
  have hW0 := WT_BK hW hb
  have hC0 := hC.app
  have hI0 : GI S0 1 p z (ph ++ BK ph.length) := ⟨⟨tr, f, s, hC0⟩, a, hM.app (by omega)⟩
  have hl0 : ph.length < (ph ++ BK ph.length).length := by rw [List.length_append, BK_len]; omega
  obtain ⟨fs0, hf0⟩ := fam_cell hW0 (by omega) hl0 hpsi
  refine zr_aload hk_4 rw_4_37 rfl ?_
  refine zi_const hk_4 rw_4_38 (c := 1) rfl ?_
  refine zr_virtual (L := 3) (n := 1) (as := [.int (iv 1)]) (r := []) hk_4 rw_4_39 (by decide) (by decide) ⟨rfl, rfl, rfl, rfl⟩ hf0 (by omega) rfl rfl (by decide) (Nat.le_of_ble_eq_true rfl) (zc_ct hK ct_11 (by show 2 < 4; omega) (by show 2 ≤ d + 3; omega) hW0 hI0 ⟨fit_ref (by omega) hl0 hpsi, fit_full _ _, trivial⟩) ?_
  rintro w1 ph1 ⟨W1, I1, F1, v1⟩
  cases none_of v1
  obtain ⟨fs1, hf1⟩ := fam_cell W1 (by omega) (Nat.lt_of_lt_of_le hl0 F1.1) hpsi
  refine zr_aload hk_4 rw_4_40 rfl ?_
  refine zr_virtual (L := 4) (n := 0) (as := []) (r := []) hk_4 rw_4_41 (by decide) (by decide) ⟨rfl, rfl, rfl, rfl⟩ hf1 (by omega) rfl rfl (by decide) (Nat.le_of_ble_eq_true rfl) (zc_ct hK ct_16 (by show 3 < 4; omega) (by show 3 ≤ d + 3; omega) W1 I1 ⟨fit_ref (by omega) (Nat.lt_of_lt_of_le hl0 F1.1) hpsi, trivial⟩) ?_
  rintro w2 ph2 ⟨W2, I2, F2, v2⟩
  cases none_of v2
  have FF : Fr 2008064 ph ph2 := ((Fr_app _ ph _).trans (F1.widen (mk := 2008064) (by decide))).trans (F2.widen (by decide))
  refine zr_return (a := 0) hk_4 rw_4_42 ⟨rfl, W2, ?_, FF⟩
  obtain ⟨⟨tr', f', s', hC2⟩, a', hM2⟩ := I2
  obtain ⟨rfl, rfl, rfl⟩ := hC.det hC2 ((FF.at hC.1 (by decide)).trans hC.1.symm) ((FF.at hC.2.1 (by decide)).trans hC.2.1.symm) ((FF.at hC.2.2.1 (by decide)).trans hC.2.2.1.symm)
  exact ⟨hC2, a', hM2⟩

/-! ===== by hand: the class's object is made ===== -/
theorem and_2 {a b : Bool} (h : (a && b) = true) : a = true ∧ b = true := by
  cases a with
  | false => cases h
  | true => exact ⟨rfl, h⟩
theorem ckS_some {r : CR} (h : ckS r = true) : ∃ o, r = some [o] ∧ ckO o = true := by
  cases r with
  | none => cases h
  | some l =>
    cases l with
    | nil => cases h
    | cons o l =>
      cases l with
      | nil => exact ⟨o, rfl, h⟩
      | cons _ _ => cases h
theorem ckO_all {o : CO} (h : ckO o = true) : noB o.1 = true ∧ Nat.beq o.2.2.1 75 = true ∧ ckWT o.2.1 = true ∧ eqOb (tget AC 8 2 o.2.1) 0 [rfA 3, rfA 8, rfA 10, nul] = true ∧ eqOb (tget AC 8 3 o.2.1) 1 txA = true ∧ zerB (tget AC 8 4 o.2.1) 60 = true ∧ eqOb (tget AC 8 8 o.2.1) 2 [rfA 9, .inl 2147483648] = true ∧ eqO5 (tget AC 8 9 o.2.1) = true ∧ Nat.beq o.2.2.2.2.1 2904 = true := by
  unfold ckO at h
  obtain ⟨k1, h⟩ := and_2 h
  obtain ⟨k2, h⟩ := and_2 h
  obtain ⟨k3, h⟩ := and_2 h
  obtain ⟨k4, h⟩ := and_2 h
  obtain ⟨k5, h⟩ := and_2 h
  obtain ⟨k6, h⟩ := and_2 h
  obtain ⟨k7, h⟩ := and_2 h
  obtain ⟨k8, h⟩ := and_2 h
  exact ⟨k1, k2, k3, k4, k5, k6, k7, k8, h⟩
theorem int_eq {x y : Int32} (h : Value.int x = .int y) : y = x := by
  cases h
  rfl
theorem oI_Z : oI 2147483648 = 0 := by
  rw [oI_iv, show (((2147483648 : Nat) : Int) - 2147483648) = 0 from by omega]
  rfl
theorem kc1_eq' : codeOf 1 = kc1 := rfl
theorem cf_new {L : Nat} {xs : Nat → Int32} : ZC 11 1 [.ref 2] [.inl (L, xs), .inl (5, tbV), .inr (.inr (0, [.null, .null, .null, .null]))] (fun w ph' => w = none ∧ ph'.length = 75 ∧ WT ph' ∧ ph'[0]? = some (.inl (L, xs)) ∧ ph'[2]? = some (.inr (.inr (0, [.ref 3, .ref 8, .ref 10, .null]))) ∧ ph'[3]? = some (.inr (.inr (1, txA.map (cvV sg0)))) ∧ (∃ t, ph'[4]? = some (.inl (60, t)) ∧ ∀ j, j < 60 → t j = 0) ∧ ph'[8]? = some (.inr (.inr (2, [.ref 9, .int 0]))) ∧ (∃ f, ph'[9]? = some (.inr (.inl (3, 5, f))) ∧ ∀ j, j < 5 → f j = none) ∧ szH ph' = L + 2913) := by
  have hk := ckS_ok
  generalize hr : cx B00 100000 kc1 kc1 [some (rfA 2)] [] hS 3 0 0 ev0 11 = r at hk
  have hσ : sg0 4 = sg0 0 &&& 31 := by decide
  obtain ⟨M, hM⟩ := zr_M (k := 1) (by decide)
  obtain ⟨e0, r0, hc1, hc2⟩ := (cert_all 1 M hM).2.2.1
  have hA : AtC 1 M kc1 kc1 0 := ⟨hM, kc1_eq'.symm, 0, e0, r0, by rw [← kc1_eq']; exact hc1, rfl, hc2⟩
  have hI := cx_ok (B := B00) cert_all copies_ok hσ (B00_ok sg0) 100000
  obtain ⟨o, rfl, hk⟩ := ckS_some hk
  · obtain ⟨k1, k2, k3, k4, k5, k6, k7, k8, k9⟩ := ckO_all hk
    obtain ⟨o', ho, m, g, h1, ⟨-, -, hlen, hcell⟩, -⟩ := hI.2 1 M kc1 kc1 _ _ _ _ _ _ _ _ [o] hr 0 (lv_args 0 [.ref 2]) _ hA ev0_ok hS_HR (by
      intro i v hv
      match i, hv with
      | 0, hv => cases hv; rfl
      | i + 1, hv => simp at hv)
    cases List.mem_singleton.mp ho
    have hv : o.1 = none := by
      cases h : o.1 with
      | none => rfl
      | some _ => rw [h] at k1; cases k1
    have hl : g.length = 75 := by rw [hlen]; exact beq_of k2
    rw [beq_of k2] at hcell
    rw [hv] at h1
    obtain ⟨f1, f2⟩ := run_f0 (.inl (L, xs)) m 11 1 _ _ rfl h1
    have hget : ∀ a, 1 ≤ a → a < 75 → ∃ c, (g.set 0 (.inl (L, xs)))[a]? = some c ∧ cellR sg0 (tget AC 8 a o.2.1) c := by
      intro a a1 a2
      obtain ⟨c, c1, c2⟩ := hcell a a2
      exact ⟨c, by rw [List.getElem?_set_ne (by omega)]; exact c1, c2⟩
    refine ⟨m, none, g.set 0 (.inl (L, xs)), _, _, f1, rfl, by rw [List.length_set]; exact hl, ?_, List.getElem?_set_self (by omega), ?_, ?_, ?_, ?_, ?_, ?_⟩
    · intro a a1 a2 t ht
      rw [List.length_set, hl] at a2 ⊢
      obtain ⟨c, c1, c2⟩ := hget a a1 a2
      unfold ckWT at k3
      have h5 := List.all_eq_true.mp k3 a (List.mem_range'_1.mpr ⟨a1, by omega⟩)
      rw [ht] at h5
      exact ⟨c, c1, cellB_ok h5 c2⟩
    · obtain ⟨c, c1, c2⟩ := hget 2 (by omega) (by omega)
      rw [c1, eqOb_ok k4 c2]
      rfl
    · obtain ⟨c, c1, c2⟩ := hget 3 (by omega) (by omega)
      rw [c1, eqOb_ok k5 c2]
    · obtain ⟨c, c1, c2⟩ := hget 4 (by omega) (by omega)
      rw [c1]
      generalize tget AC 8 4 o.2.1 = q at k6 c2
      match q, c, k6, c2 with
      | .inl q, .inl x, k6, c2 =>
        obtain ⟨x1, x2⟩ := x
        have k6 : (Nat.beq q.1 60 && (List.range 60).all (fun j => eqA (tget AV q.2.1 j q.2.2) (.inl 2147483648))) = true := k6
        rw [Bool.and_eq_true] at k6
        obtain ⟨e1, e2, e3⟩ := c2
        dsimp only at e1 e3
        rw [beq_of k6.1] at e1 e3
        subst e1
        refine ⟨x2, rfl, fun j hj => ?_⟩
        have h6 := eqA_ok (List.all_eq_true.mp k6.2 j (List.mem_range.mpr hj))
        have h7 := e3 j hj
        rw [h6] at h7
        exact (int_eq h7).trans oI_Z
    · obtain ⟨c, c1, c2⟩ := hget 8 (by omega) (by omega)
      rw [c1, eqOb_ok k7 c2]
      rfl
    · obtain ⟨c, c1, c2⟩ := hget 9 (by omega) (by omega)
      rw [c1]
      generalize tget AC 8 9 o.2.1 = q at k8 c2
      unfold eqO5 at k8
      split at k8
      case h_2 => cases k8
      match c, c2 with
      | .inr (.inl x), c2 =>
        obtain ⟨x1, x2, x3⟩ := x
        obtain ⟨e1, e2, e3, e4⟩ := c2
        dsimp only at e1 e2 e4
        subst e1
        have e2 : 5 = x2 := e2
        subst e2
        refine ⟨x3, rfl, fun j hj => ?_⟩
        have h9 := e4 j hj
        match j, hj, h9 with
        | 0, _, h9 => exact (Option.some.inj h9).symm
        | 1, _, h9 => exact (Option.some.inj h9).symm
        | 2, _, h9 => exact (Option.some.inj h9).symm
        | 3, _, h9 => exact (Option.some.inj h9).symm
        | 4, _, h9 => exact (Option.some.inj h9).symm
    · obtain ⟨-, b2⟩ := run_room _ _ _ _ _ f1
      have e3 : szH [.inl (L, xs), .inl (5, tbV), .inr (.inr (0, [.null, .null, .null, .null]))] = L + 9 := by
        show L + (5 + (4 + 0)) = _
        omega
      have b2 : o.2.2.2.2.1 + szH [.inl (L, xs), .inl (5, tbV), .inr (.inr (0, [.null, .null, .null, .null]))] = 0 + szH (g.set 0 (.inl (L, xs))) := b2
      rw [e3, beq_of k9] at b2
      omega

/-! ===== from the evaluator's answer to the claim ===== -/
def sg (xs : Nat → Int32) : Nat → Int32 := fun k => if k < 4 then xs k else if k = 4 then xs 0 &&& 31 else oI 0
theorem cI'_oI {v : Nat} (h : v < oM) : cI' (oI v) = v := by
  unfold cI'
  rw [oI_toInt h]
  omega
theorem and31_nI (x : Int32) : ∃ op, op < 32 ∧ x &&& 31 = oI (op + oZ) := by
  refine ⟨x.toBitVec.toNat &&& 31, Nat.lt_of_le_of_lt Nat.and_le_right (by decide), ?_⟩
  have h1 : x.toBitVec.toNat &&& 31 ≤ 31 := Nat.and_le_right
  rw [oI_back (by unfold oZ; omega)]
  apply Int32.toBitVec_inj.1
  apply BitVec.eq_of_toNat_eq
  have e1 : (nI (x.toBitVec.toNat &&& 31)).toBitVec = BitVec.ofNat 32 (x.toBitVec.toNat &&& 31) := rfl
  rw [e1, BitVec.toNat_ofNat, Nat.mod_eq_of_lt (by omega)]
  show (x.toBitVec &&& (31 : Int32).toBitVec).toNat = _
  rw [BitVec.toNat_and]
  rfl
theorem sg_hi (xs : Nat → Int32) (k : Nat) : cI' (sg xs k) < oM := cI'_lt _
/-- nothing is known of the four ints but what the fifth sign says -/
def env5 (a b : Nat) : EV := [(0, 4294967295), (0, 4294967295), (0, 4294967295), (0, 4294967295), (a, b)]
theorem env5_ok {xs : Nat → Int32} {a b : Nat} (h1 : a ≤ cI' (sg xs 4)) (h2 : cI' (sg xs 4) ≤ b) : eOK (sg xs) (env5 a b) := by
  intro k
  have hk := sg_hi xs k
  unfold oM at hk
  match k with
  | 0 => exact ⟨Nat.zero_le _, by show _ ≤ 4294967295; omega⟩
  | 1 => exact ⟨Nat.zero_le _, by show _ ≤ 4294967295; omega⟩
  | 2 => exact ⟨Nat.zero_le _, by show _ ≤ 4294967295; omega⟩
  | 3 => exact ⟨Nat.zero_le _, by show _ ≤ 4294967295; omega⟩
  | 4 => exact ⟨h1, h2⟩
  | k + 5 =>
    have e : cI' (sg xs (k + 5)) = 0 := by
      unfold sg
      rw [if_neg (by omega), if_neg (by omega)]
      exact cI'_oI (by decide)
    rw [e]
    exact ⟨Nat.le_refl _, Nat.le_refl _⟩
theorem h0_cells (L : Nat) : tget AC 8 0 (h0L L) = .inl (L, ⟨4, tput AV 4 0 (.inr (.inl 0)) (tput AV 4 1 (.inr (.inl 1)) (tput AV 4 2 (.inr (.inl 2)) (tput AV 4 3 (.inr (.inl 3)) (tall AV (.inl oZ) 4))))⟩) := by
  unfold h0L
  simp only [tset_put, id]
  rw [tget_put AC 8 0 0 _ _ (by decide) (by decide), if_pos rfl]
theorem h1_cells (L : Nat) : tget AC 8 1 (h0L L) = .inl (5, ⟨4, tput AV 4 0 (.inl 2147483668) (tput AV 4 1 (.inl 2147483688) (tput AV 4 2 (.inl 2147483708) (tput AV 4 3 (.inl 2147483728) (tput AV 4 4 (.inl 2147483748) (tall AV (.inl oZ) 4)))))⟩) := by
  unfold h0L
  simp only [tset_put, id]
  rw [tget_put AC 8 0 1 _ _ (by decide) (by decide), if_neg (by decide)]
  unfold h00
  simp only [tset_put, id]
  rw [tget_put AC 8 1 1 _ _ (by decide) (by decide), if_pos rfl]
theorem start_HR {L : Nat} (hL : L ≤ 4) (xs : Nat → Int32) : HR (sg xs) (h0L L) 2 [.inl (L, xs), .inl (5, tbV)] := by
  refine ⟨by decide, by decide, rfl, fun v hv => ?_⟩
  match v, hv with
  | 0, _ =>
    refine ⟨_, rfl, ?_⟩
    rw [h0_cells]
    refine ⟨rfl, by show L ≤ 16; omega, fun j hj => ?_⟩
    have hj : j < 4 := Nat.lt_of_lt_of_le hj hL
    show cvV (sg xs) (tget AV 4 j _) = .int (xs j)
    match j, hj with
    | 0, _ => exact congrArg Value.int (if_pos (by decide))
    | 1, _ => exact congrArg Value.int (if_pos (by decide))
    | 2, _ => exact congrArg Value.int (if_pos (by decide))
    | 3, _ => exact congrArg Value.int (if_pos (by decide))
  | 1, _ =>
    refine ⟨_, rfl, ?_⟩
    rw [h1_cells]
    refine ⟨rfl, by show 5 ≤ 16; decide, fun j hj => ?_⟩
    have hj : j < 5 := hj
    show cvV (sg xs) (tget AV 4 j _) = .int (tbV j)
    match j, hj with
    | 0, _ => exact congrArg Value.int (by decide)
    | 1, _ => exact congrArg Value.int (by decide)
    | 2, _ => exact congrArg Value.int (by decide)
    | 3, _ => exact congrArg Value.int (by decide)
    | 4, _ => exact congrArg Value.int (by decide)
/-- the evaluator over the law -/
noncomputable def law_x (B : CP) (n L : Nat) (env : EV) : CR := cx B n kc0 kc0 [some (.inr (.inr (.inr (some 0))))] [] (h0L L) 2 0 0 env 12
theorem fin_of {B : CP} {N L : Nat} {env : EV} {xs : Nat → Int32} (hB : CutOK (sg xs) B) (he : eOK (sg xs) env) (hL : L ≤ 4) (h : okR (law_x B N L env) = true) : ∃ (n : Nat) (h' : PH) (nc ns : Nat), run n 12 0 (0, [(0, .ref 0)], [], [.inl (L, xs), .inl (5, tbV)], 0, 0) = some (some (.int 1), h', nc, ns) ∧ nc ≤ 600000 ∧ ns ≤ 7302250 := by
  unfold law_x okR at h
  generalize hr : cx B N kc0 kc0 [some (.inr (.inr (.inr (some 0))))] [] (h0L L) 2 0 0 env 12 = r at h
  cases r with
  | none => cases h
  | some l =>
    have hσ : sg xs 4 = sg xs 0 &&& 31 := by
      unfold sg
      rw [if_neg (by decide), if_pos rfl, if_pos (by decide)]
    have hM : mT[0]? = some lawM := rfl
    obtain ⟨e0, r0, hc1, hc2⟩ := (cert_all 0 lawM hM).2.2.1
    have hA : AtC 0 lawM kc0 kc0 0 := ⟨hM, rfl, 0, e0, r0, hc1, rfl, hc2⟩
    have hI := cx_ok (B := B) cert_all copies_ok hσ hB N
    obtain ⟨o, ho, m, ph', h1, -, -⟩ := hI.2 0 lawM kc0 kc0 _ _ _ _ _ _ _ _ l hr 0 [(0, .ref 0)] _ hA he (start_HR hL xs) (by
      intro i v hv
      match i, hv with
      | 0, hv => cases hv; rfl
      | i + 1, hv => simp at hv)
    have hok := List.all_eq_true.mp h o ho
    unfold okO at hok
    split at hok
    case h_2 => cases hok
    rename_i v hv
    simp only [Bool.and_eq_true] at hok
    obtain ⟨⟨a1, a2⟩, a3⟩ := hok
    rw [hv, beq_of a1] at h1
    refine ⟨m, ph', _, _, ?_, ble_of a2, ble_of a3⟩
    rw [show Value.int 1 = cvV (sg xs) (.inl (oZ + 1)) from congrArg Value.int oI_one.symm]
    exact h1
def B0 : CP := fun _ _ _ _ _ _ _ _ _ _ _ _ => none
theorem B0_ok (σ : Nat → Int32) : CutOK σ B0 := fun _ _ _ _ _ _ _ _ _ _ _ _ _ h => by cases h
theorem short0 : okR (law_x B0 10000000 0 (env5 2147483648 2147483679)) = true := by decide +kernel
theorem short1 : okR (law_x B0 10000000 1 (env5 2147483648 2147483679)) = true := by decide +kernel
theorem short2 : okR (law_x B0 10000000 2 (env5 2147483648 2147483679)) = true := by decide +kernel
theorem short3 : okR (law_x B0 10000000 3 (env5 2147483648 2147483679)) = true := by decide +kernel

/-! ===== every script of at most four ints ===== -/
theorem env23_ok {xs : Nat → Int32} {lo hi : Nat} (h1 : lo ≤ cI' (sg xs 2)) (h2 : cI' (sg xs 2) ≤ hi) (h3 : cI' (sg xs 4) = 2147483671) : eOK (sg xs) (env23 lo hi) := by
  have he := env5_ok (xs := xs) (a := 2147483671) (b := 2147483671) (by omega) (by omega)
  intro k
  match k with
  | 0 => exact he 0
  | 1 => exact he 1
  | 2 => exact ⟨h1, h2⟩
  | 3 => exact he 3
  | 4 => exact he 4
  | k + 5 => exact he (k + 5)
theorem sg_op (xs : Nat → Int32) : ∃ op, op < 32 ∧ cI' (sg xs 4) = 2147483648 + op := by
  obtain ⟨op, h1, h2⟩ := and31_nI (xs 0)
  refine ⟨op, h1, ?_⟩
  have e : sg xs 4 = xs 0 &&& 31 := by
    unfold sg
    rw [if_neg (by decide), if_pos rfl]
  rw [e, h2, cI'_oI (by unfold oM oZ; omega)]
  unfold oZ
  omega
theorem sg_four (xs : Nat → Int32) : sg xs 4 = sg xs 0 &&& 31 := by
  unfold sg
  rw [if_neg (by decide), if_pos rfl, if_pos (by decide)]
theorem fin_op {B : CP} {xs : Nat → Int32} (a b : Nat) (hB : CutOK (sg xs) B) (h1 : a ≤ cI' (sg xs 4)) (h2 : cI' (sg xs 4) ≤ b) (h : okR (law_x B 10000000 4 (env5 a b)) = true) : ∃ (n : Nat) (h' : PH) (nc ns : Nat), run n 12 0 (0, [(0, .ref 0)], [], [.inl (4, xs), .inl (5, tbV)], 0, 0) = some (some (.int 1), h', nc, ns) ∧ nc ≤ 600000 ∧ ns ≤ 7302250 :=
  fin_of hB (env5_ok h1 h2) (Nat.le_refl _) h
theorem fin_23 {xs : Nat → Int32} (lo hi : Nat) (h1 : lo ≤ cI' (sg xs 2)) (h2 : cI' (sg xs 2) ≤ hi) (h3 : cI' (sg xs 4) = 2147483671) (h : okR (law_x B0 10000000 4 (env23 lo hi)) = true) : ∃ (n : Nat) (h' : PH) (nc ns : Nat), run n 12 0 (0, [(0, .ref 0)], [], [.inl (4, xs), .inl (5, tbV)], 0, 0) = some (some (.int 1), h', nc, ns) ∧ nc ≤ 600000 ∧ ns ≤ 7302250 :=
  fin_of (B0_ok _) (env23_ok h1 h2 h3) (Nat.le_refl _) h
theorem all_runs (L : Nat) (xs : Nat → Int32) (hL : L ≤ 4) : ∃ (n : Nat) (h' : PH) (nc ns : Nat), run n 12 0 (0, [(0, .ref 0)], [], [.inl (L, xs), .inl (5, tbV)], 0, 0) = some (some (.int 1), h', nc, ns) ∧ nc ≤ 600000 ∧ ns ≤ 7302250 := by
  obtain ⟨op, ho, hc⟩ := sg_op xs
  by_cases l0 : L = 0
  · subst l0
    exact fin_of (B0_ok _) (env5_ok (by omega) (by omega)) (by decide) short0
  by_cases l1 : L = 1
  · subst l1
    exact fin_of (B0_ok _) (env5_ok (by omega) (by omega)) (by decide) short1
  by_cases l2 : L = 2
  · subst l2
    exact fin_of (B0_ok _) (env5_ok (by omega) (by omega)) (by decide) short2
  by_cases l3 : L = 3
  · subst l3
    exact fin_of (B0_ok _) (env5_ok (by omega) (by omega)) (by decide) short3
  have l4 : L = 4 := by omega
  subst l4
  by_cases o0 : op = 0
  · exact fin_op _ _ (B0_ok _) (by omega) (by omega) op_0
  by_cases o1 : op = 1
  · exact fin_op _ _ (B0_ok _) (by omega) (by omega) op_1
  by_cases o2 : op = 2
  · exact fin_op _ _ (B0_ok _) (by omega) (by omega) op_2
  by_cases o3 : op = 3
  · exact fin_op _ _ (B0_ok _) (by omega) (by omega) op_3
  by_cases o4 : op = 4
  · exact fin_op _ _ (B0_ok _) (by omega) (by omega) op_4
  by_cases o5 : op = 5
  · exact fin_op _ _ (B0_ok _) (by omega) (by omega) op_5
  by_cases o6 : op = 6
  · exact fin_op _ _ (B0_ok _) (by omega) (by omega) op_6
  by_cases o7 : op = 7
  · exact fin_op _ _ (B0_ok _) (by omega) (by omega) op_7
  by_cases o8 : op = 8
  · exact fin_op _ _ (B0_ok _) (by omega) (by omega) op_8
  by_cases o9 : op = 9
  · exact fin_op _ _ (B0_ok _) (by omega) (by omega) op_9
  by_cases o10 : op = 10
  · exact fin_op _ _ (K10_ok (sg_four xs)) (by omega) (by omega) op_10
  by_cases o11 : op = 11
  · exact fin_op _ _ (B0_ok _) (by omega) (by omega) op_11
  by_cases o12 : op = 12
  · exact fin_op _ _ (B0_ok _) (by omega) (by omega) op_12
  by_cases o13 : op = 13
  · exact fin_op _ _ (B0_ok _) (by omega) (by omega) op_13
  by_cases o14 : op = 14
  · exact fin_op _ _ (B0_ok _) (by omega) (by omega) op_14
  by_cases o15 : op = 15
  · exact fin_op _ _ (B0_ok _) (by omega) (by omega) op_15
  by_cases o16 : op = 16
  · exact fin_op _ _ (B0_ok _) (by omega) (by omega) op_16
  by_cases o17 : op = 17
  · exact fin_op _ _ (B0_ok _) (by omega) (by omega) op_17
  by_cases o18 : op = 18
  · exact fin_op _ _ (B0_ok _) (by omega) (by omega) op_18
  by_cases o19 : op = 19
  · exact fin_op _ _ (B0_ok _) (by omega) (by omega) op_19
  by_cases o20 : op = 20
  · exact fin_op _ _ (B0_ok _) (by omega) (by omega) op_20
  by_cases o21 : op = 21
  · exact fin_op _ _ (K21_ok (sg_four xs)) (by omega) (by omega) op_21
  by_cases o22 : op = 22
  · exact fin_op _ _ (K22_ok (sg_four xs)) (by omega) (by omega) op_22
  by_cases o23 : op = 23
  · have hc : cI' (sg xs 4) = 2147483671 := by omega
    by_cases w0 : cI' (sg xs 2) ≤ 2147483648
    · exact fin_23 _ _ (Nat.zero_le _) w0 hc op_23_l
    by_cases w1 : cI' (sg xs 2) = 2147483649
    · exact fin_23 _ _ (Nat.le_of_eq w1.symm) (Nat.le_of_eq w1) hc op_23_1
    by_cases w2 : cI' (sg xs 2) = 2147483650
    · exact fin_23 _ _ (Nat.le_of_eq w2.symm) (Nat.le_of_eq w2) hc op_23_2
    by_cases w3 : cI' (sg xs 2) = 2147483651
    · exact fin_23 _ _ (Nat.le_of_eq w3.symm) (Nat.le_of_eq w3) hc op_23_3
    by_cases w4 : cI' (sg xs 2) = 2147483652
    · exact fin_23 _ _ (Nat.le_of_eq w4.symm) (Nat.le_of_eq w4) hc op_23_4
    by_cases w5 : cI' (sg xs 2) = 2147483653
    · exact fin_23 _ _ (Nat.le_of_eq w5.symm) (Nat.le_of_eq w5) hc op_23_5
    by_cases w6 : cI' (sg xs 2) = 2147483654
    · exact fin_23 _ _ (Nat.le_of_eq w6.symm) (Nat.le_of_eq w6) hc op_23_6
    by_cases w7 : cI' (sg xs 2) = 2147483655
    · exact fin_23 _ _ (Nat.le_of_eq w7.symm) (Nat.le_of_eq w7) hc op_23_7
    by_cases w8 : cI' (sg xs 2) = 2147483656
    · exact fin_23 _ _ (Nat.le_of_eq w8.symm) (Nat.le_of_eq w8) hc op_23_8
    by_cases w9 : cI' (sg xs 2) = 2147483657
    · exact fin_23 _ _ (Nat.le_of_eq w9.symm) (Nat.le_of_eq w9) hc op_23_9
    have hm := sg_hi xs 2
    unfold oM at hm
    exact fin_23 _ _ (by omega) (by omega) hc op_23_h
  by_cases o24 : op = 24
  · exact fin_op _ _ (B0_ok _) (by omega) (by omega) op_24
  by_cases o25 : op = 25
  · exact fin_op _ _ (B0_ok _) (by omega) (by omega) op_25
  exact fin_op _ _ (B0_ok _) (by omega) (by omega) op_26
theorem whole_start {p : Program} {e : Env} {s : State} {m : MethodId} {below : List Frame} {meth : Method} {c : Code} (l : Launch) (hflags : l.flags = flags0) {b L : Nat} {xs : Nat → Int32} (hL : L ≤ 4) (C0 : lw_At p s m meth c b L xs) : W p l e room_1 s m #[Value.ref b] below meth c s.heap [] 0 0 (lw_Z below #[Value.ref b] s) (entryFrame m ([Value.ref b] : List Value).toArray 4) := by
  exact start_of all_runs l hL C0

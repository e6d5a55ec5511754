/-! ===== the law's start: the claim out of a run of the pure machine ===== -/
def inL (i : Nat) (w : Cond) : Bool := match lw_tbl[i]? with
  | some x => decide (x = w)
  | none => false
theorem inL_ok {i : Nat} {w : Cond} (h : inL i w = true) : w ∈ lw_tbl := by
  unfold inL at h
  cases hx : lw_tbl[i]? with
  | none => rw [hx] at h; cases h
  | some x =>
    rw [hx] at h
    have h2 : x = w := by simpa using h
    rw [← h2]
    exact List.mem_of_getElem? hx
theorem nlT_ok : nlT.all (fun q => inL q.2.2.2 (.methodLinkNest (cnN q.1) q.2.1 (mYk q.2.2.1) "ConnectionFamily")) = true := by decide +kernel
theorem aoP_ok : aoP.all (fun q => inL q.2 (.arrayOver (.object (cnN q.1)))) = true := by decide +kernel
theorem lay_ok : inL w_lay (.laysStatic "ConnectionFamily" "TRIAL_BUDGETS" "[I") = true := by decide +kernel
theorem cf_ok : Cond.initialized "ConnectionFamily" ∈ uw := by
  have h : cls[0]? = some (RC0, TC0, 4) := rfl
  exact (cls_ok h).2.2.2.1
theorem Wk_start {s : State} {a : Array Value} (hts : ∀ w ∈ lw_tbl, w.before a s = true) : ∃ (D : va_G) (cI : ClassId) (cR : Nat → ClassId), Wk D cI cR s := by
  have hu : ∀ w ∈ uw, w.before a s = true := fun w hw => hts w (List.mem_filter.mp hw).1
  have h1 : ∀ k : Nat, ∃ (cC : ClassId) (iS : Nat → Nat), ∀ q, cls[k]? = some q → u_Kn s q.1 q.2.1 q.2.2 cC iS := by
    intro k
    cases hq : cls[k]? with
    | none => exact ⟨0, fun _ => 0, fun q h => by cases h⟩
    | some q =>
      obtain ⟨-, hin, hinst, -⟩ := cls_ok hq
      obtain ⟨cC, iS, h⟩ := u_known (C := q.1) (T := q.2.1) (N := q.2.2) (n := q.2.2) hu hin (hu _ hinst)
      exact ⟨cC, iS, fun q' h' => by cases h'; exact h⟩
  obtain ⟨cI, kI, comp, i1, i2, i3⟩ := Cond.arrayClass_spec (hu _ (inT_ok arr_ok))
  have h2 : ∀ k : Nat, ∃ cA : ClassId, (∃ q ∈ aoP, q.1 = k) → ArrOfT s cA (.object (cnN k)) ∧ va_RA s cA (.object (cnN k)) := by
    intro k
    by_cases hk : ∃ q ∈ aoP, q.1 = k
    · obtain ⟨q, hq, rfl⟩ := hk
      have hw := hts _ (inL_ok (List.all_eq_true.mp aoP_ok q hq))
      obtain ⟨cp, cA, kA, a1, a2, a3, a4, a5⟩ := Cond.arrayOver_spec hw
      exact ⟨cA, fun _ => ⟨fun n z => ⟨fun k h => (by cases h), kA, a3, cp, a4⟩, kA, cp, a3, a4, a1, a5⟩⟩
    · exact ⟨0, fun h => absurd h hk⟩
  refine ⟨(fun k => Classical.choose (h1 k), fun k => Classical.choose (Classical.choose_spec (h1 k))), cI, fun k => Classical.choose (h2 k), ⟨fun k q hq => Classical.choose_spec (Classical.choose_spec (h1 k)) q hq, fun k q hq => ?_⟩, fun q hq => ?_, fun q hq => ?_⟩
  · unfold tysW at hq
    cases k with
    | zero =>
      rw [List.getElem?_cons_zero] at hq
      cases hq
      exact ⟨fun n z => ⟨fun k h => (by cases h), kI, i2, comp, i3⟩, i1⟩
    | succ k =>
      rw [List.getElem?_cons_succ, List.getElem?_map] at hq
      obtain ⟨x, hx, rfl⟩ := Option.map_eq_some_iff.mp hq
      exact Classical.choose_spec (h2 x.1) ⟨x, List.mem_of_getElem? hx, rfl⟩
  · exact va_Nw.of rfl (hts _ (inL_ok (List.all_eq_true.mp nlT_ok q hq)))
  · exact va_AO.of (hts _ (inL_ok (List.all_eq_true.mp aoP_ok q hq)))
set_option maxHeartbeats 1000000 in
theorem start_of {N : Nat} (hrun : ∀ (L : Nat) (xs : Nat → Int32), L ≤ N → ∃ (n : Nat) (h' : PH) (nc ns : Nat), run n 12 0 (0, [(0, .ref 0)], [], [.inl (L, xs), .inl (5, tbV)], 0, 0) = some (some (.int 1), h', nc, ns) ∧ nc ≤ 600000 ∧ ns ≤ 7302250)
    {p : Program} {e : Env} {s : State} {m : MethodId} {below : List Frame} {meth : Method} {c : Code} (l : Launch) {b L : Nat} {xs : Nat → Int32} (hL : L ≤ N) (C0 : lw_At p s m meth c b L xs) : W p l e room_1 s m #[Value.ref b] below meth c s.heap [] 0 0 (lw_Z below #[Value.ref b] s) (entryFrame m ([Value.ref b] : List Value).toArray 4) := by
  obtain ⟨hx, hb, hr, hml, hown, hts, hX, hbl, hlocks, hgv⟩ := C0
  have hu : ∀ w ∈ uw, w.before #[Value.ref b] s = true := fun w hw => hts w (List.mem_filter.mp hw).1
  obtain ⟨D, cI, cR, hK⟩ := Wk_start hts
  have hs := flat_of_before _ hgv
  have harr : (Cond.arrayOf (.static "ConnectionFamily" "TRIAL_BUDGETS" "[I") .int).before #[Value.ref b] s = true := hs _ (by decide +kernel)
  have hlen := va_eqt (hs (Cond.eq (.length (.static "ConnectionFamily" "TRIAL_BUDGETS" "[I")) (.int 5)) (by decide +kernel))
  have hel : ∀ j : Nat, j < 5 → (Term.elem (.static "ConnectionFamily" "TRIAL_BUDGETS" "[I") (.int (Int32.ofNat j))).eval #[Value.ref b] s none [] s = some ((fun j => .int (tbV j)) j) := by
    intro j hj
    match j, hj with
    | 0, _ => exact va_eqt (z := 20) (hs (Cond.eq (.elem (.static "ConnectionFamily" "TRIAL_BUDGETS" "[I") (.int 0)) (.int 20)) (by decide +kernel))
    | 1, _ => exact va_eqt (z := 40) (hs (Cond.eq (.elem (.static "ConnectionFamily" "TRIAL_BUDGETS" "[I") (.int 1)) (.int 40)) (by decide +kernel))
    | 2, _ => exact va_eqt (z := 60) (hs (Cond.eq (.elem (.static "ConnectionFamily" "TRIAL_BUDGETS" "[I") (.int 2)) (.int 60)) (by decide +kernel))
    | 3, _ => exact va_eqt (z := 80) (hs (Cond.eq (.elem (.static "ConnectionFamily" "TRIAL_BUDGETS" "[I") (.int 3)) (.int 80)) (by decide +kernel))
    | 4, _ => exact va_eqt (z := 100) (hs (Cond.eq (.elem (.static "ConnectionFamily" "TRIAL_BUDGETS" "[I") (.int 4)) (.int 100)) (by decide +kernel))
    | j + 5, h => exact absurd h (by omega)
  have hA : ∀ a : Nat, a < s.heap.size → ¬ (fun q => s.heap.size ≤ q) a := fun a h1 h2 => absurd h1 (Nat.not_lt.mpr h2)
  obtain ⟨sa, hsa, hT⟩ := va_Tof (N := 5) (f := fun j => .int (tbV j)) (A := fun q => s.heap.size ≤ q) (by decide) harr hlen hel hA
  have hZ := va_Zof (A := fun q => s.heap.size ≤ q) (hts _ (inL_ok lay_ok)) (hu _ cf_ok) hsa hA
  have hsal : sa < s.heap.size := by
    obtain ⟨cell, h1, -⟩ := hT
    exact (Array.getElem?_eq_some_iff.mp h1).1
  obtain ⟨n, h', nc, ns, hr1, hnc, hns⟩ := hrun L xs hL
  have hE : We b sa s.heap.size L xs s s.heap := ⟨hbl, hsal, Nat.le_refl _, hX, hZ, hT⟩
  have hW : Wh D cI cR b sa s.heap.size L xs [.inl (L, xs), .inl (5, tbV)] s.heap := ⟨Nat.le_refl _, rfl, rfl, rfl, fun k q h => by simp [wz] at h⟩
  have hent := lv_entry ([.ref b]) (n := 4) (Nat.le_of_ble_eq_true rfl)
  rw [lg_entry_eq]
  refine run_ok l n 12 0 lawM 0 [(0, .ref 0)] [] [.inl (L, xs), .inl (5, tbV)] 0 0 (some (.int 1)) h' nc ns rfl hr1 p e room_1 s m #[Value.ref b] below meth c s.heap [] _ _ D cI cR b sa s.heap.size L xs hx hb hml hown hu (fun h => by cases h) hK hE (Nat.le_refl _) (Nat.le_refl _) hnc hns hW va_S.rf hent ?_
  intro pc ls H locs i len st hdg hre hW1 hS
  unfold x_re at hre
  split at hre
  case isFalse => cases hre
  rename_i h3
  subst h3
  cases i <;> simp only [reduceCtorEq] at hre
  all_goals (repeat' (first | (cases hre; done) | split at hre))
  cases hre
  refine va_forget (fun q hq => hS.2.2 q hq) ?_
  refine W.widen (k := 600000) (n := 7302250) hnc hns ?_
  exact lw_ret hx hb hr hlocks hdg

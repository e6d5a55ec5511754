/-! ===== the reference copies a page: 2000 places, one by one ===== -/
theorem run_step {n d mi len : Nat} {q q' : Sg} {x : Option Value × PH × Nat × Nat} {M : MR} {i : Instr} (hM : mT[mi]? = some M) (hd : decode (mC M) q.1 = .ok (i, len)) (hc : x_ca (mO M) i len q.2.2.1 q.2.2.2.1 = none) (hr : x_re M i len q.2.2.1 = none) (hs : stp M d i len q = some q') (h : run n d mi q' = some x) : run (n + 1) d mi q = some x := by
  rw [run, hM]
  dsimp only
  rw [hd]
  dsimp only
  rw [hc]
  dsimp only
  rw [hr]
  dsimp only
  rw [hs]
  exact h
noncomputable def cpM : MR := (mT[127]?).getD lawM
theorem cp_M : mT[127]? = some cpM := by
  have h : 127 < mT.length := by rw [ce_mT]; decide
  unfold cpM
  rw [List.getElem?_eq_getElem h]
  rfl
theorem cp_d0 : decode (mC cpM) 0 = .ok (.iconst 0, 1) := by decide +kernel
theorem cp_d1 : decode (mC cpM) 1 = .ok (.istore_n 3, 1) := by decide +kernel
theorem cp_d2 : decode (mC cpM) 2 = .ok (.iload_n 3, 1) := by decide +kernel
theorem cp_d3 : decode (mC cpM) 3 = .ok (.sipush 2000, 3) := by decide +kernel
theorem cp_d6 : decode (mC cpM) 6 = .ok (.if_icmp .ge 33, 3) := by decide +kernel
theorem cp_d9 : decode (mC cpM) 9 = .ok (.aload_n 0, 1) := by decide +kernel
theorem cp_d10 : decode (mC cpM) 10 = .ok (.getfield 7, 3) := by decide +kernel
theorem cp_d13 : decode (mC cpM) 13 = .ok (.sipush 2000, 3) := by decide +kernel
theorem cp_d16 : decode (mC cpM) 16 = .ok (.iload_n 2, 1) := by decide +kernel
theorem cp_d17 : decode (mC cpM) 17 = .ok (.imul, 1) := by decide +kernel
theorem cp_d18 : decode (mC cpM) 18 = .ok (.iload_n 3, 1) := by decide +kernel
theorem cp_d19 : decode (mC cpM) 19 = .ok (.iadd, 1) := by decide +kernel
theorem cp_d20 : decode (mC cpM) 20 = .ok (.aload_n 0, 1) := by decide +kernel
theorem cp_d21 : decode (mC cpM) 21 = .ok (.getfield 7, 3) := by decide +kernel
theorem cp_d24 : decode (mC cpM) 24 = .ok (.sipush 2000, 3) := by decide +kernel
theorem cp_d27 : decode (mC cpM) 27 = .ok (.iload_n 1, 1) := by decide +kernel
theorem cp_d28 : decode (mC cpM) 28 = .ok (.imul, 1) := by decide +kernel
theorem cp_d29 : decode (mC cpM) 29 = .ok (.iload_n 3, 1) := by decide +kernel
theorem cp_d30 : decode (mC cpM) 30 = .ok (.iadd, 1) := by decide +kernel
theorem cp_d31 : decode (mC cpM) 31 = .ok (.iaload, 1) := by decide +kernel
theorem cp_d32 : decode (mC cpM) 32 = .ok (.iastore, 1) := by decide +kernel
theorem cp_d33 : decode (mC cpM) 33 = .ok (.iinc 3 1, 3) := by decide +kernel
theorem cp_d36 : decode (mC cpM) 36 = .ok (.goto (-34), 3) := by decide +kernel
theorem cp_d39 : decode (mC cpM) 39 = .ok (.return_, 1) := by decide +kernel
theorem cp_mO : mO cpM = 9 := by decide +kernel
theorem cp_mL : mL cpM = 4 := by decide +kernel
theorem cp_mR : mR cpM = none := by decide +kernel
theorem cp_fl : flF 9 7 = some (9, 0) := by decide +kernel
theorem cp_only : (List.range 186).all (fun k => Nat.beq k 127 || !decide (mYk k = ⟨"ConnectionFamilyModel", "copies", "(II)V"⟩)) = true := by decide +kernel
theorem cp_page : (List.range 15).all (fun b => Nat.beq b 0 || (match cls[9]? with
  | some q => !decide ((q.2.1 b).2.1 = "page")
  | none => false)) = true := by decide +kernel
theorem cp_len : (match cls[9]? with
  | some q => Nat.beq q.2.2 15
  | none => false) = true := by decide +kernel
def cpL (a fr to j : Nat) : PV := [(3, .int (nI j)), (0, .ref a), (1, .int (nI fr)), (2, .int (nI to))]
def cpH (ph : PH) (w : Nat) (f : Nat → Int32) (fr to j : Nat) : PH := ph.set w (.inl (14000, va_cpy f f (2000 * fr) (2000 * to) j))
theorem nI_2000 : (Int16.ofInt 2000).toInt32 = nI 2000 := by decide
theorem nI_mul' (a b : Nat) : nI (a * b) = nI a * nI b := by unfold nI; exact Int32.ofNat_mul a b
theorem nI_add' (a b : Nat) : nI (a + b) = nI a + nI b := by unfold nI; exact Int32.ofNat_add a b
theorem gl3 (a fr to j : Nat) : gl (cpL a fr to j) 3 = some (.int (nI j)) := by simp [gl, cpL]
theorem gl0 (a fr to j : Nat) : gl (cpL a fr to j) 0 = some (.ref a) := by simp [gl, cpL]
theorem gl1 (a fr to j : Nat) : gl (cpL a fr to j) 1 = some (.int (nI fr)) := by simp [gl, cpL]
theorem gl2 (a fr to j : Nat) : gl (cpL a fr to j) 2 = some (.int (nI to)) := by simp [gl, cpL]
theorem s_il {M : MR} {d pc nc ns : Nat} {lv : PV} {st : List Value} {ph : PH} {k : Fin 4} {x : Int32} (h : gl lv (k : Nat) = some (.int x)) : stp M d (.iload_n k) 1 (pc, lv, st, ph, nc, ns) = some (pc + 1, lv, .int x :: st, ph, nc, ns) := by
  simp [stp, x_ld, h]
theorem s_al {M : MR} {d pc nc ns : Nat} {lv : PV} {st : List Value} {ph : PH} {k : Fin 4} {x : Nat} (h : gl lv (k : Nat) = some (.ref x)) : stp M d (.aload_n k) 1 (pc, lv, st, ph, nc, ns) = some (pc + 1, lv, .ref x :: st, ph, nc, ns) := by
  simp [stp, x_ld, h]
theorem s_sip {M : MR} {d pc nc ns : Nat} {lv : PV} {st : List Value} {ph : PH} : stp M d (.sipush 2000) 3 (pc, lv, st, ph, nc, ns) = some (pc + 3, lv, .int (nI 2000) :: st, ph, nc, ns) := by
  rw [← nI_2000]
  rfl
theorem cp_inc (a fr to j : Nat) : sl1 (cpL a fr to j) 3 (.int (nI j + Int32.ofInt 1)) = cpL a fr to (j + 1) := by
  have h : nI j + Int32.ofInt 1 = nI (j + 1) := by rw [nI_add']; rfl
  rw [h]
  simp [sl1, cpL, Value.category]
theorem cp_upd {f : Nat → Int32} {fr to j : Nat} (hj : j < 2000) : upd (va_cpy f f (2000 * fr) (2000 * to) j) (2000 * to + j) (f (2000 * fr + j)) = va_cpy f f (2000 * fr) (2000 * to) (j + 1) := by
  funext i
  unfold upd va_cpy
  by_cases h1 : i = 2000 * to + j
  · subst h1
    rw [if_pos rfl, if_pos (by omega)]
    congr 1
    omega
  · rw [if_neg h1]
    by_cases h2 : 2000 * to ≤ i ∧ i < 2000 * to + j
    · rw [if_pos h2, if_pos (by omega)]
    · rw [if_neg h2, if_neg (by omega)]
theorem cp_read {f : Nat → Int32} {fr to j : Nat} (hj : j < 2000) : va_cpy f f (2000 * fr) (2000 * to) j (2000 * fr + j) = f (2000 * fr + j) := by
  unfold va_cpy
  by_cases h2 : 2000 * to ≤ 2000 * fr + j ∧ 2000 * fr + j < 2000 * to + j
  · omega
  · rw [if_neg h2]
section CP
variable {d a w fr to : Nat} {ph : PH} {gs : List Value} {f : Nat → Int32}
theorem cp_ha (ha : ph[a]? = some (.inr (.inr (9, gs)))) (hw : ph[w]? = some (.inl (14000, f))) (j : Nat) : (cpH ph w f fr to j)[a]? = some (.inr (.inr (9, gs))) := by
  unfold cpH
  rw [List.getElem?_set_ne, ha]
  intro e
  subst e
  rw [ha] at hw
  cases hw
theorem cp_hw (hw : ph[w]? = some (.inl (14000, f))) (j : Nat) : (cpH ph w f fr to j)[w]? = some (.inl (14000, va_cpy f f (2000 * fr) (2000 * to) j)) := by
  unfold cpH
  rw [List.getElem?_set_self (List.getElem?_eq_some_iff.mp hw).1]
theorem cp_set (hw : ph[w]? = some (.inl (14000, f))) {j : Nat} (hj : j < 2000) : (cpH ph w f fr to j).set w (.inl (14000, upd (va_cpy f f (2000 * fr) (2000 * to) j) (2000 * to + j) (f (2000 * fr + j)))) = cpH ph w f fr to (j + 1) := by
  rw [cp_upd hj]
  unfold cpH
  rw [List.set_set]
theorem cp_ge {j : Nat} (hj : j < 2000) : ¬ nI 2000 ≤ nI j := by
  intro h
  have := (nI_leI (a := 2000) (b := j) (by omega) (by omega)).mp h
  omega
theorem cp_s31 (hw : ph[w]? = some (.inl (14000, f))) (hf : fr ≤ 6) {j : Nat} (hj : j < 2000) {r : List Value} {lv : PV} : stp cpM d .iaload 1 (31, lv, .int (nI (2000 * fr + j)) :: .ref w :: r, cpH ph w f fr to j, 0, 0) = some (32, lv, .int (f (2000 * fr + j)) :: r, cpH ph w f fr to j, 0, 0) := by
  have hc := nI_clamp (n := 2000 * fr + j) (by omega)
  have h := st_iald (M := cpM) (d := d) (pc := 31) (clv := lv) (nc := 0) (ns := 0) (r := r) (j := nI (2000 * fr + j)) (cp_hw (fr := fr) (to := to) hw j) (nI_pos' (by omega)) (by rw [hc]; omega)
  rw [hc, cp_read hj] at h
  exact h
theorem cp_s32 (hw : ph[w]? = some (.inl (14000, f))) (ht : to ≤ 6) (h3 : 2 ≤ w) {j : Nat} (hj : j < 2000) {lv : PV} : stp cpM d .iastore 1 (32, lv, [.int (f (2000 * fr + j)), .int (nI (2000 * to + j)), .ref w], cpH ph w f fr to j, 0, 0) = some (33, lv, [], cpH ph w f fr to (j + 1), 0, 0) := by
  have hc := nI_clamp (n := 2000 * to + j) (by omega)
  have h := st_iast (M := cpM) (d := d) (pc := 32) (clv := lv) (nc := 0) (ns := 0) (r := []) (x := f (2000 * fr + j)) (j := nI (2000 * to + j)) (cp_hw (fr := fr) (to := to) hw j) (nI_pos' (by omega)) (by rw [hc]; omega) h3
  rw [hc, cp_set hw hj] at h
  exact h
theorem cp_it (ha : ph[a]? = some (.inr (.inr (9, gs)))) (h0 : gs[0]? = some (.ref w)) (h2 : 2 ≤ a) (h3 : 2 ≤ w) (hw : ph[w]? = some (.inl (14000, f))) (hf : fr ≤ 6) (ht : to ≤ 6) {n j : Nat} {x : Option Value × PH × Nat × Nat} (hj : j < 2000) (h : run n d 127 (2, cpL a fr to (j + 1), [], cpH ph w f fr to (j + 1), 0, 0) = some x) : run (n + 21) d 127 (2, cpL a fr to j, [], cpH ph w f fr to j, 0, 0) = some x := by
  refine run_step (q' := (3, cpL a fr to j, [(Value.int (nI j))], cpH ph w f fr to j, 0, 0)) cp_M cp_d2 rfl rfl (s_il (gl3 _ _ _ _)) ?_
  refine run_step (q' := (6, cpL a fr to j, [(Value.int (nI 2000)), (Value.int (nI j))], cpH ph w f fr to j, 0, 0)) cp_M cp_d3 rfl rfl s_sip ?_
  refine run_step (q' := (9, cpL a fr to j, [], cpH ph w f fr to j, 0, 0)) cp_M cp_d6 rfl rfl (by simp [stp, x_ld, x_st, x_ar, x_br, goB, tg, cp_ge hj]) ?_
  refine run_step (q' := (10, cpL a fr to j, [(Value.ref a)], cpH ph w f fr to j, 0, 0)) cp_M cp_d9 rfl rfl (s_al (gl0 _ _ _ _)) ?_
  refine run_step (q' := (13, cpL a fr to j, [(Value.ref w)], cpH ph w f fr to j, 0, 0)) cp_M cp_d10 rfl rfl (st_get (r := []) (by rw [cp_mO]; exact cp_fl) (cp_ha ha hw j) h2 h0) ?_
  refine run_step (q' := (16, cpL a fr to j, [(Value.int (nI 2000)), (Value.ref w)], cpH ph w f fr to j, 0, 0)) cp_M cp_d13 rfl rfl s_sip ?_
  refine run_step (q' := (17, cpL a fr to j, [(Value.int (nI to)), (Value.int (nI 2000)), (Value.ref w)], cpH ph w f fr to j, 0, 0)) cp_M cp_d16 rfl rfl (s_il (gl2 _ _ _ _)) ?_
  refine run_step (q' := (18, cpL a fr to j, [(Value.int (nI (2000 * to))), (Value.ref w)], cpH ph w f fr to j, 0, 0)) cp_M cp_d17 rfl rfl (by simp [stp, x_ld, x_st, x_ar, nI_mul', nI_add']) ?_
  refine run_step (q' := (19, cpL a fr to j, [(Value.int (nI j)), (Value.int (nI (2000 * to))), (Value.ref w)], cpH ph w f fr to j, 0, 0)) cp_M cp_d18 rfl rfl (s_il (gl3 _ _ _ _)) ?_
  refine run_step (q' := (20, cpL a fr to j, [(Value.int (nI (2000 * to + j))), (Value.ref w)], cpH ph w f fr to j, 0, 0)) cp_M cp_d19 rfl rfl (by simp [stp, x_ld, x_st, x_ar, nI_mul', nI_add']) ?_
  refine run_step (q' := (21, cpL a fr to j, [(Value.ref a), (Value.int (nI (2000 * to + j))), (Value.ref w)], cpH ph w f fr to j, 0, 0)) cp_M cp_d20 rfl rfl (s_al (gl0 _ _ _ _)) ?_
  refine run_step (q' := (24, cpL a fr to j, [(Value.ref w), (Value.int (nI (2000 * to + j))), (Value.ref w)], cpH ph w f fr to j, 0, 0)) cp_M cp_d21 rfl rfl (st_get (r := [(Value.int (nI (2000 * to + j))), (Value.ref w)]) (by rw [cp_mO]; exact cp_fl) (cp_ha ha hw j) h2 h0) ?_
  refine run_step (q' := (27, cpL a fr to j, [(Value.int (nI 2000)), (Value.ref w), (Value.int (nI (2000 * to + j))), (Value.ref w)], cpH ph w f fr to j, 0, 0)) cp_M cp_d24 rfl rfl s_sip ?_
  refine run_step (q' := (28, cpL a fr to j, [(Value.int (nI fr)), (Value.int (nI 2000)), (Value.ref w), (Value.int (nI (2000 * to + j))), (Value.ref w)], cpH ph w f fr to j, 0, 0)) cp_M cp_d27 rfl rfl (s_il (gl1 _ _ _ _)) ?_
  refine run_step (q' := (29, cpL a fr to j, [(Value.int (nI (2000 * fr))), (Value.ref w), (Value.int (nI (2000 * to + j))), (Value.ref w)], cpH ph w f fr to j, 0, 0)) cp_M cp_d28 rfl rfl (by simp [stp, x_ld, x_st, x_ar, nI_mul', nI_add']) ?_
  refine run_step (q' := (30, cpL a fr to j, [(Value.int (nI j)), (Value.int (nI (2000 * fr))), (Value.ref w), (Value.int (nI (2000 * to + j))), (Value.ref w)], cpH ph w f fr to j, 0, 0)) cp_M cp_d29 rfl rfl (s_il (gl3 _ _ _ _)) ?_
  refine run_step (q' := (31, cpL a fr to j, [(Value.int (nI (2000 * fr + j))), (Value.ref w), (Value.int (nI (2000 * to + j))), (Value.ref w)], cpH ph w f fr to j, 0, 0)) cp_M cp_d30 rfl rfl (by simp [stp, x_ld, x_st, x_ar, nI_mul', nI_add']) ?_
  refine run_step (q' := (32, cpL a fr to j, [(Value.int (f (2000 * fr + j))), (Value.int (nI (2000 * to + j))), (Value.ref w)], cpH ph w f fr to j, 0, 0)) cp_M cp_d31 rfl rfl (cp_s31 (d := d) (fr := fr) (to := to) (j := j) (r := [.int (nI (2000 * to + j)), .ref w]) (lv := cpL a fr to j) hw hf hj) ?_
  refine run_step (q' := (33, cpL a fr to j, [], cpH ph w f fr to (j + 1), 0, 0)) cp_M cp_d32 rfl rfl (cp_s32 (d := d) (fr := fr) (to := to) (j := j) (lv := cpL a fr to j) hw ht h3 hj) ?_
  refine run_step (q' := (36, cpL a fr to (j + 1), [], cpH ph w f fr to (j + 1), 0, 0)) cp_M cp_d33 rfl rfl (by simp [stp, x_ld, x_st, cp_mL, gl3]; exact cp_inc a fr to j) ?_
  refine run_step (q' := (2, cpL a fr to (j + 1), [], cpH ph w f fr to (j + 1), 0, 0)) cp_M cp_d36 rfl rfl (by simp [stp, x_ld, x_st, x_ar, x_br, tg]) ?_
  exact h
theorem cp_end {j : Nat} (hj : j = 2000) : run 4 d 127 (2, cpL a fr to j, [], cpH ph w f fr to j, 0, 0) = some (none, cpH ph w f fr to 2000, 0, 0) := by
  subst hj
  refine run_step (q' := (3, cpL a fr to 2000, [.int (nI 2000)], cpH ph w f fr to 2000, 0, 0)) cp_M cp_d2 rfl rfl (s_il (gl3 _ _ _ _)) ?_
  refine run_step (q' := (6, cpL a fr to 2000, [.int (nI 2000), .int (nI 2000)], cpH ph w f fr to 2000, 0, 0)) cp_M cp_d3 rfl rfl s_sip ?_
  refine run_step (q' := (39, cpL a fr to 2000, [], cpH ph w f fr to 2000, 0, 0)) cp_M cp_d6 rfl rfl (by simp [stp, x_ld, x_st, x_ar, x_br, goB, tg]) ?_
  rw [run, cp_M]
  dsimp only
  rw [cp_d39]
  simp [x_ca, x_re, cp_mR]
theorem cp_loop (ha : ph[a]? = some (.inr (.inr (9, gs)))) (h0 : gs[0]? = some (.ref w)) (h2 : 2 ≤ a) (h3 : 2 ≤ w) (hw : ph[w]? = some (.inl (14000, f))) (hf : fr ≤ 6) (ht : to ≤ 6) : ∀ (k j : Nat), j + k = 2000 → ∃ m, run m d 127 (2, cpL a fr to j, [], cpH ph w f fr to j, 0, 0) = some (none, cpH ph w f fr to 2000, 0, 0)
  | 0, j, hj => ⟨4, cp_end (by omega)⟩
  | k + 1, j, hj => by
    obtain ⟨m, hm⟩ := cp_loop ha h0 h2 h3 hw hf ht k (j + 1) (by omega)
    exact ⟨_, cp_it ha h0 h2 h3 hw hf ht (by omega) hm⟩
theorem cp_zero (hw : ph[w]? = some (.inl (14000, f))) : cpH ph w f fr to 0 = ph := by
  unfold cpH
  have : va_cpy f f (2000 * fr) (2000 * to) 0 = f := by
    funext i
    unfold va_cpy
    rw [if_neg (by omega)]
  rw [this]
  exact List.ext_getElem? fun i => by
    by_cases e : w = i
    · subst e
      rw [List.getElem?_set_self (List.getElem?_eq_some_iff.mp hw).1, hw]
    · rw [List.getElem?_set_ne e]
end CP
theorem copies_ok : CopiesOK := by
  intro k K b q hK hy hq hb hpg d ph a w frm to gs f ha hg h2 h3 hw hf ht
  have hk : k = 127 := by
    have hlt : k < 186 := by rw [← ce_mT]; exact (List.getElem?_eq_some_iff.mp hK).1
    have h := List.all_eq_true.mp cp_only k (List.mem_range.mpr hlt)
    rw [Bool.or_eq_true] at h
    rcases h with z | z
    · exact beq_of z
    · rw [hy] at z
      simp at z
  have hb0 : b = 0 := by
    have hl := cp_len
    rw [hq] at hl
    have hl := beq_of hl
    have h := List.all_eq_true.mp cp_page b (List.mem_range.mpr (by omega))
    rw [hq, Bool.or_eq_true] at h
    rcases h with z | z
    · exact beq_of z
    · simp [hpg] at z
  subst hk
  subst hb0
  obtain ⟨m, hm⟩ := cp_loop (d := d) ha hg h2 h3 hw hf ht 2000 0 (by omega)
  refine ⟨m + 2, ?_⟩
  rw [cp_zero hw] at hm
  refine run_step (q' := (1, lv_args 0 [.ref a, .int (nI frm), .int (nI to)], [.int (nI 0)], ph, 0, 0)) cp_M cp_d0 rfl rfl (by simp [stp, x_ld]; rfl) ?_
  refine run_step (q' := (2, cpL a frm to 0, [], ph, 0, 0)) cp_M cp_d1 rfl rfl (by simp [stp, x_ld, x_st, cp_mL, sl1, lv_args, cpL, Value.category]; exact ⟨rfl, by decide, by decide, by decide⟩) ?_
  exact hm

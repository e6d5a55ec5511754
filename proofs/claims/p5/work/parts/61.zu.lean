/-! ===== by hand: calls, and from rows to contracts ===== -/
section ZD
variable {d k j : Nat} {lv : List (Option Value)} {st : List Value} {ph : PH} {Q : Option Value → PH → Prop} {M : MR} {e : CE}
/-- a method comes to an end of which P holds -/
def ZC (d kc : Nat) (as : List Value) (ph : PH) (P : Option Value → PH → Prop) : Prop := ∃ (m : Nat) (v : Option Value) (ph' : PH) (nc ns : Nat), run m d kc (0, lv_args 0 as, [], ph, 0, 0) = some (v, ph', nc, ns) ∧ P v ph'
theorem ZC.of (hk : k < 186) {as : List Value} {P : Option Value → PH → Prop} (hL : LZ lv (lv_args 0 as)) (h : ZR d k 0 lv [] ph P) : ZC d k as ph P := by
  obtain ⟨M, hM⟩ := zr_M hk
  obtain ⟨e0, r0, hc1, hc2⟩ := (cert_all k M hM).2.2.1
  obtain ⟨e', he', m, v, ph', nc', ns', r1, r2⟩ := h _ 0 0 hL
  rw [hc1, List.getElem?_cons_zero] at he'
  cases he'
  rw [hc2] at r1
  exact ⟨m, v, ph', nc', ns', r1, r2⟩
theorem ZC.deep {d' kc : Nat} {as : List Value} {P : Option Value → PH → Prop} (h : ZC d kc as ph P) (hd : d ≤ d') : ZC d' kc as ph P := by
  obtain ⟨m, v, ph', nc, ns, r1, r2⟩ := h
  have := run_deeper r1 (d' - d)
  rw [Nat.add_sub_cancel' hd] at this
  exact ⟨m, v, ph', nc, ns, this, r2⟩
theorem zr_call (hk : k < 186) {pc a b x len kc : Nat} {t i0 : Instr} {ts : List Nat} {as r : List Value} {P : Option Value → PH → Prop} {K : MR} (hrow : (codeOf k)[j]? = some (pc, t, a, b, x, 3, ts)) (hne : t ≠ .monitorexit)
    (hs : ∀ (M : MR) (i : Instr), nrm M (codeOf k) (pc, t, a, b, x, 3, ts) i = true → x_ca (mO M) i 3 st ph = some (kc, as, r)) (hK : mT[kc]? = some K) (hl : (lg_sl as).length ≤ mL K) (hc : ZC d kc as ph P) (h : ∀ v ph', P v ph' → ZR (d + 1) k (j + 1) lv (v.toList ++ r) ph' Q) : ZR (d + 1) k j lv st ph Q := by
  intro clv nc ns hL
  obtain ⟨M, hM⟩ := zr_M hk
  obtain ⟨i, ln, hd, hl0, hn⟩ := row_at hM hrow hne
  have hl0 : ln = 3 := hl0
  subst hl0
  have hca := hs M i hn
  obtain ⟨m1, v, ph1, nc1, ns1, r1, r2⟩ := hc
  obtain ⟨e', he', m, v2, ph2, nc2, ns2, q1, q2⟩ := h v ph1 r2 clv (nc + nc1) (ns + ns1) hL
  have hpc : e'.1 = pc + 3 := row_next hM hrow he'
  rw [hpc] at q1
  refine ⟨_, hrow, (m1 + m) + 1, v2, ph2, nc2, ns2, ?_, q2⟩
  rw [run, hM]
  dsimp only
  rw [hd]
  dsimp only
  rw [hca]
  dsimp only
  rw [hK]
  dsimp only
  rw [if_pos hl, run_add r1 m]
  dsimp only
  rw [Nat.add_comm m1 m]
  exact run_add q1 m1
theorem zr_static (hk : k < 186) {pc b x kc n L ix : Nat} {ts : List Nat} {as r : List Value} {P : Option Value → PH → Prop} (hrow : (codeOf k)[j]? = some (pc, .invokestatic ix, kc, b, x, 3, ts)) (hkc : kc < 186) (h0 : kc ≠ 0) (hI : (tget CM 8 kc mTab).2.1 = L ∧ (tget CM 8 kc mTab).2.2.1 = n ∧ (tget CM 8 kc mTab).2.2.2.1 = 1) (hn : as.length = n) (hst : st = as.reverse ++ r) (hcat : catS r ≤ 8) (hl : (lg_sl as).length ≤ L)
    (hc : ZC d kc as ph P) (h : ∀ v ph', P v ph' → ZR (d + 1) k (j + 1) lv (v.toList ++ r) ph' Q) : ZR (d + 1) k j lv st ph Q := by
  obtain ⟨K, hK⟩ := zr_M hkc
  have hinf := (cert_all kc K hK).2.2.2 h0
  unfold infOK at hinf
  simp only [Bool.and_eq_true] at hinf
  obtain ⟨⟨⟨i1, i2⟩, i3⟩, i4⟩ := hinf
  have hmL : mL K = L := by rw [← beq_of i1]; exact hI.1
  have hmN : mN K = n := by rw [← beq_of i2]; exact hI.2.1
  have hmK : mK K = 1 := by rw [← beq_of i3]; exact hI.2.2
  refine zr_call (i0 := .nop) (len := 3) hk hrow (by simp) (fun M i hnr => ?_) hK (by rw [hmL]; exact hl) hc h
  cases i <;> simp [nrm] at hnr
  obtain ⟨⟨h1, h2⟩, h3⟩ := hnr
  subst h1
  have hN : mN K = as.reverse.length := by rw [hmN, List.length_reverse, hn]
  have hdr : st.drop (mN K) = r := by rw [hst, hN, List.drop_left' rfl]
  have htk : st.take (mN K) = as.reverse := by rw [hst, hN, List.take_left' rfl]
  unfold x_ca
  rw [if_pos rfl]
  simp only [h3, hK, hdr]
  rw [if_pos ⟨h0, hmK, by rw [hst, hN]; simp, hcat⟩, htk, List.reverse_reverse]
theorem zr_virtual (hk : k < 186) {pc b x kc n L ci v ix : Nat} {ts : List Nat} {fs as r : List Value} {P : Option Value → PH → Prop} (hrow : (codeOf k)[j]? = some (pc, .invokevirtual ix, kc, b, x, 3, ts)) (hkc : kc < 186) (h0 : kc ≠ 0) (hI : (tget CM 8 kc mTab).2.1 = L ∧ (tget CM 8 kc mTab).2.2.1 = n ∧ (tget CM 8 kc mTab).2.2.2.1 = 0 ∧ (tget CM 8 kc mTab).2.2.2.2.1 = ci) (hv : ph[v]? = some (.inr (.inr (ci, fs)))) (h2v : 2 ≤ v) (hn : as.length = n) (hst : st = as.reverse ++ .ref v :: r) (hcat : catS r ≤ 8) (hl : (lg_sl (.ref v :: as)).length ≤ L)
    (hc : ZC d kc (.ref v :: as) ph P) (h : ∀ w ph', P w ph' → ZR (d + 1) k (j + 1) lv (w.toList ++ r) ph' Q) : ZR (d + 1) k j lv st ph Q := by
  obtain ⟨K, hK⟩ := zr_M hkc
  have hinf := (cert_all kc K hK).2.2.2 h0
  unfold infOK at hinf
  simp only [Bool.and_eq_true] at hinf
  obtain ⟨⟨⟨i1, i2⟩, i3⟩, i4⟩ := hinf
  have hmL : mL K = L := by rw [← beq_of i1]; exact hI.1
  have hmN : mN K = n := by rw [← beq_of i2]; exact hI.2.1
  have hmK : mK K = 0 := by rw [← beq_of i3]; exact hI.2.2.1
  have hmO : mO K = ci := by rw [← beq_of i4]; exact hI.2.2.2
  refine zr_call (i0 := .nop) (len := 3) hk hrow (by simp) (fun M i hnr => ?_) hK (by rw [hmL]; exact hl) hc h
  cases i <;> simp [nrm] at hnr
  obtain ⟨⟨h1, h2⟩, h3⟩ := hnr
  have hN : mN K = as.reverse.length := by rw [hmN, List.length_reverse, hn]
  have hdr : st.drop (mN K) = .ref v :: r := by rw [hst, hN, List.drop_left' rfl]
  have htk : st.take (mN K) = as.reverse := by rw [hst, hN, List.take_left' rfl]
  unfold x_ca
  rw [if_pos rfl]
  simp only [h2, hK, hdr, hv]
  rw [if_pos ⟨h0, hmK, hmO, h2v, hcat⟩, htk, List.reverse_reverse]
end ZD

/-! ===== by hand: jumps, the heap, calls, ends ===== -/
section ZC
variable {d k j : Nat} {lv : List (Option Value)} {st : List Value} {ph : PH} {Q : Option Value → PH → Prop} {M : MR} {e : CE}
/-- an instruction, then a jump to row b or the next row -/
theorem zr_br (hk : k < 186) {pc a b x : Nat} {t : Instr} {ts : List Nat} {st' : List Value} {o : Int} (T : Bool) (hrow : (codeOf k)[j]? = some (pc, t, a, b, x, 3, ts)) (hne : t ≠ .monitorexit)
    (hs : ∀ (M : MR) (i : Instr) (clv : PV) (nc ns : Nat), nrm M (codeOf k) (pc, t, a, b, x, 3, ts) i = true → jB (codeOf k) b pc o = true ∧ x_ca (mO M) i 3 st ph = none ∧ x_re M i 3 st = none ∧ ∀ p, tg pc o = some p → stp M d i 3 (pc, clv, st, ph, nc, ns) = some (if T = true then p else pc + 3, clv, st', ph, nc, ns))
    (h : ZR d k (bif T then b else j + 1) lv st' ph Q) : ZR d k j lv st ph Q := by
  intro clv nc ns hL
  obtain ⟨M, hM⟩ := zr_M hk
  obtain ⟨i, ln, hd, hl, hn⟩ := row_at hM hrow hne
  have hl : ln = 3 := hl
  subst hl
  obtain ⟨hj, g1, g2, g3⟩ := hs M i clv nc ns hn
  obtain ⟨p, hp⟩ := jB_tg hj
  have g3 := g3 p hp
  obtain ⟨e', he', m, v, ph2, nc2, ns2, r1, r2⟩ := h clv nc ns hL
  cases T with
  | true =>
    have he' : (codeOf k)[b]? = some e' := he'
    unfold jB at hj
    rw [hp, he'] at hj
    have hpc : e'.1 = p := beq_of hj
    rw [hpc] at r1
    exact ⟨_, hrow, m + 1, v, ph2, nc2, ns2, run_step hM hd g1 g2 g3 r1, r2⟩
  | false =>
    have he' : (codeOf k)[j + 1]? = some e' := he'
    have hpc : e'.1 = pc + 3 := row_next hM hrow he'
    rw [hpc] at r1
    exact ⟨_, hrow, m + 1, v, ph2, nc2, ns2, run_step hM hd g1 g2 g3 r1, r2⟩
theorem zr_goto (hk : k < 186) {pc a b x : Nat} {o : Int} {ts : List Nat} (hrow : (codeOf k)[j]? = some (pc, .goto o, a, b, x, 3, ts)) (h : ZR d k b lv st ph Q) : ZR d k j lv st ph Q := by
  refine zr_br hk (o := o) true hrow (by simp) (fun M i clv nc ns hn => ?_) h
  cases i <;> simp [nrm] at hn
  obtain ⟨h1, h2⟩ := hn
  subst h1
  exact ⟨h2, rfl, rfl, fun p hp => by simp [stp, x_ld, x_st, x_ar, x_br, hp]⟩
theorem zr_icmp_eq (hk : k < 186) {pc a b x : Nat} {o : Int} {y z : Int32} {ts : List Nat} (hrow : (codeOf k)[j]? = some (pc, .if_icmp .eq o, a, b, x, 3, ts)) (h : ZR d k (bif decide (z = y) then b else j + 1) lv st ph Q) : ZR d k j lv (.int y :: .int z :: st) ph Q := by
  refine zr_br hk (o := o) (decide (z = y)) hrow (by simp) (fun M i clv nc ns hn => ?_) h
  cases i <;> simp [nrm] at hn
  obtain ⟨⟨h0, h1⟩, h2⟩ := hn
  subst h0 h1
  exact ⟨h2, rfl, rfl, fun p hp => by simp only [stp, x_ld, x_st, x_ar, x_br, goB, hp]; rfl⟩
theorem zr_if_eq (hk : k < 186) {pc a b x : Nat} {o : Int} {z : Int32} {ts : List Nat} (hrow : (codeOf k)[j]? = some (pc, .ifCond .eq o, a, b, x, 3, ts)) (h : ZR d k (bif decide (z = 0) then b else j + 1) lv st ph Q) : ZR d k j lv (.int z :: st) ph Q := by
  refine zr_br hk (o := o) (decide (z = 0)) hrow (by simp) (fun M i clv nc ns hn => ?_) h
  cases i <;> simp [nrm] at hn
  obtain ⟨⟨h0, h1⟩, h2⟩ := hn
  subst h0 h1
  exact ⟨h2, rfl, rfl, fun p hp => by simp only [stp, x_ld, x_st, x_ar, x_br, goB, hp]; rfl⟩
theorem zr_icmp_ne (hk : k < 186) {pc a b x : Nat} {o : Int} {y z : Int32} {ts : List Nat} (hrow : (codeOf k)[j]? = some (pc, .if_icmp .ne o, a, b, x, 3, ts)) (h : ZR d k (bif decide (¬ z = y) then b else j + 1) lv st ph Q) : ZR d k j lv (.int y :: .int z :: st) ph Q := by
  refine zr_br hk (o := o) (decide (¬ z = y)) hrow (by simp) (fun M i clv nc ns hn => ?_) h
  cases i <;> simp [nrm] at hn
  obtain ⟨⟨h0, h1⟩, h2⟩ := hn
  subst h0 h1
  exact ⟨h2, rfl, rfl, fun p hp => by simp only [stp, x_ld, x_st, x_ar, x_br, goB, hp]; rfl⟩
theorem zr_if_ne (hk : k < 186) {pc a b x : Nat} {o : Int} {z : Int32} {ts : List Nat} (hrow : (codeOf k)[j]? = some (pc, .ifCond .ne o, a, b, x, 3, ts)) (h : ZR d k (bif decide (¬ z = 0) then b else j + 1) lv st ph Q) : ZR d k j lv (.int z :: st) ph Q := by
  refine zr_br hk (o := o) (decide (¬ z = 0)) hrow (by simp) (fun M i clv nc ns hn => ?_) h
  cases i <;> simp [nrm] at hn
  obtain ⟨⟨h0, h1⟩, h2⟩ := hn
  subst h0 h1
  exact ⟨h2, rfl, rfl, fun p hp => by simp only [stp, x_ld, x_st, x_ar, x_br, goB, hp]; rfl⟩
theorem zr_icmp_lt (hk : k < 186) {pc a b x : Nat} {o : Int} {y z : Int32} {ts : List Nat} (hrow : (codeOf k)[j]? = some (pc, .if_icmp .lt o, a, b, x, 3, ts)) (h : ZR d k (bif decide (z < y) then b else j + 1) lv st ph Q) : ZR d k j lv (.int y :: .int z :: st) ph Q := by
  refine zr_br hk (o := o) (decide (z < y)) hrow (by simp) (fun M i clv nc ns hn => ?_) h
  cases i <;> simp [nrm] at hn
  obtain ⟨⟨h0, h1⟩, h2⟩ := hn
  subst h0 h1
  exact ⟨h2, rfl, rfl, fun p hp => by simp only [stp, x_ld, x_st, x_ar, x_br, goB, hp]; rfl⟩
theorem zr_if_lt (hk : k < 186) {pc a b x : Nat} {o : Int} {z : Int32} {ts : List Nat} (hrow : (codeOf k)[j]? = some (pc, .ifCond .lt o, a, b, x, 3, ts)) (h : ZR d k (bif decide (z < 0) then b else j + 1) lv st ph Q) : ZR d k j lv (.int z :: st) ph Q := by
  refine zr_br hk (o := o) (decide (z < 0)) hrow (by simp) (fun M i clv nc ns hn => ?_) h
  cases i <;> simp [nrm] at hn
  obtain ⟨⟨h0, h1⟩, h2⟩ := hn
  subst h0 h1
  exact ⟨h2, rfl, rfl, fun p hp => by simp only [stp, x_ld, x_st, x_ar, x_br, goB, hp]; rfl⟩
theorem zr_icmp_ge (hk : k < 186) {pc a b x : Nat} {o : Int} {y z : Int32} {ts : List Nat} (hrow : (codeOf k)[j]? = some (pc, .if_icmp .ge o, a, b, x, 3, ts)) (h : ZR d k (bif decide (y ≤ z) then b else j + 1) lv st ph Q) : ZR d k j lv (.int y :: .int z :: st) ph Q := by
  refine zr_br hk (o := o) (decide (y ≤ z)) hrow (by simp) (fun M i clv nc ns hn => ?_) h
  cases i <;> simp [nrm] at hn
  obtain ⟨⟨h0, h1⟩, h2⟩ := hn
  subst h0 h1
  exact ⟨h2, rfl, rfl, fun p hp => by simp only [stp, x_ld, x_st, x_ar, x_br, goB, hp]; rfl⟩
theorem zr_if_ge (hk : k < 186) {pc a b x : Nat} {o : Int} {z : Int32} {ts : List Nat} (hrow : (codeOf k)[j]? = some (pc, .ifCond .ge o, a, b, x, 3, ts)) (h : ZR d k (bif decide (0 ≤ z) then b else j + 1) lv st ph Q) : ZR d k j lv (.int z :: st) ph Q := by
  refine zr_br hk (o := o) (decide (0 ≤ z)) hrow (by simp) (fun M i clv nc ns hn => ?_) h
  cases i <;> simp [nrm] at hn
  obtain ⟨⟨h0, h1⟩, h2⟩ := hn
  subst h0 h1
  exact ⟨h2, rfl, rfl, fun p hp => by simp only [stp, x_ld, x_st, x_ar, x_br, goB, hp]; rfl⟩
theorem zr_icmp_gt (hk : k < 186) {pc a b x : Nat} {o : Int} {y z : Int32} {ts : List Nat} (hrow : (codeOf k)[j]? = some (pc, .if_icmp .gt o, a, b, x, 3, ts)) (h : ZR d k (bif decide (y < z) then b else j + 1) lv st ph Q) : ZR d k j lv (.int y :: .int z :: st) ph Q := by
  refine zr_br hk (o := o) (decide (y < z)) hrow (by simp) (fun M i clv nc ns hn => ?_) h
  cases i <;> simp [nrm] at hn
  obtain ⟨⟨h0, h1⟩, h2⟩ := hn
  subst h0 h1
  exact ⟨h2, rfl, rfl, fun p hp => by simp only [stp, x_ld, x_st, x_ar, x_br, goB, hp]; rfl⟩
theorem zr_if_gt (hk : k < 186) {pc a b x : Nat} {o : Int} {z : Int32} {ts : List Nat} (hrow : (codeOf k)[j]? = some (pc, .ifCond .gt o, a, b, x, 3, ts)) (h : ZR d k (bif decide (0 < z) then b else j + 1) lv st ph Q) : ZR d k j lv (.int z :: st) ph Q := by
  refine zr_br hk (o := o) (decide (0 < z)) hrow (by simp) (fun M i clv nc ns hn => ?_) h
  cases i <;> simp [nrm] at hn
  obtain ⟨⟨h0, h1⟩, h2⟩ := hn
  subst h0 h1
  exact ⟨h2, rfl, rfl, fun p hp => by simp only [stp, x_ld, x_st, x_ar, x_br, goB, hp]; rfl⟩
theorem zr_icmp_le (hk : k < 186) {pc a b x : Nat} {o : Int} {y z : Int32} {ts : List Nat} (hrow : (codeOf k)[j]? = some (pc, .if_icmp .le o, a, b, x, 3, ts)) (h : ZR d k (bif decide (z ≤ y) then b else j + 1) lv st ph Q) : ZR d k j lv (.int y :: .int z :: st) ph Q := by
  refine zr_br hk (o := o) (decide (z ≤ y)) hrow (by simp) (fun M i clv nc ns hn => ?_) h
  cases i <;> simp [nrm] at hn
  obtain ⟨⟨h0, h1⟩, h2⟩ := hn
  subst h0 h1
  exact ⟨h2, rfl, rfl, fun p hp => by simp only [stp, x_ld, x_st, x_ar, x_br, goB, hp]; rfl⟩
theorem zr_if_le (hk : k < 186) {pc a b x : Nat} {o : Int} {z : Int32} {ts : List Nat} (hrow : (codeOf k)[j]? = some (pc, .ifCond .le o, a, b, x, 3, ts)) (h : ZR d k (bif decide (z ≤ 0) then b else j + 1) lv st ph Q) : ZR d k j lv (.int z :: st) ph Q := by
  refine zr_br hk (o := o) (decide (z ≤ 0)) hrow (by simp) (fun M i clv nc ns hn => ?_) h
  cases i <;> simp [nrm] at hn
  obtain ⟨⟨h0, h1⟩, h2⟩ := hn
  subst h0 h1
  exact ⟨h2, rfl, rfl, fun p hp => by simp only [stp, x_ld, x_st, x_ar, x_br, goB, hp]; rfl⟩
theorem zr_getfield (hk : k < 186) {pc a b x ix v : Nat} {fs : List Value} {w : Value} {ts : List Nat} (hrow : (codeOf k)[j]? = some (pc, .getfield ix, a, b, x, 3, ts)) (hv : ph[v]? = some (.inr (.inr (a, fs)))) (h2 : 2 ≤ v) (hw : fs[b]? = some w) (h : ZR d k (j + 1) lv (w :: st) ph Q) : ZR d k j lv (.ref v :: st) ph Q := by
  refine zr_go hk hrow (by simp) (fun M i clv nc ns hn hL => ?_) h
  cases i <;> simp [nrm] at hn
  obtain ⟨h0, h1⟩ := hn
  subst h0
  exact ⟨rfl, rfl, clv, hL, st_get h1 hv h2 hw⟩
theorem zr_iaload (hk : k < 186) {pc a b x v n : Nat} {f : Nat → Int32} {z : Int32} {ts : List Nat} (hrow : (codeOf k)[j]? = some (pc, .iaload, a, b, x, 1, ts)) (hv : ph[v]? = some (.inl (n, f))) (h0 : 0 ≤ z) (h1 : z.toNatClampNeg < n) (h : ZR d k (j + 1) lv (.int (f z.toNatClampNeg) :: st) ph Q) : ZR d k j lv (.int z :: .ref v :: st) ph Q := by
  refine zr_go hk hrow (by simp) (fun M i clv nc ns hn hL => ?_) h
  cases i <;> simp [nrm] at hn
  exact ⟨rfl, rfl, clv, hL, st_iald hv h0 h1⟩
theorem zr_iastore (hk : k < 186) {pc a b x v n : Nat} {f : Nat → Int32} {y z : Int32} {ts : List Nat} (hrow : (codeOf k)[j]? = some (pc, .iastore, a, b, x, 1, ts)) (hv : ph[v]? = some (.inl (n, f))) (h0 : 0 ≤ z) (h1 : z.toNatClampNeg < n) (h2 : 2 ≤ v) (h : ZR d k (j + 1) lv st (ph.set v (.inl (n, upd f z.toNatClampNeg y))) Q) : ZR d k j lv (.int y :: .int z :: .ref v :: st) ph Q := by
  refine zr_go hk hrow (by simp) (fun M i clv nc ns hn hL => ?_) h
  cases i <;> simp [nrm] at hn
  exact ⟨rfl, rfl, clv, hL, st_iast hv h0 h1 h2⟩
theorem zr_return (hk : k < 186) {pc a b x : Nat} {ts : List Nat} (hrow : (codeOf k)[j]? = some (pc, .return_, 0, b, x, 1, ts)) (h : Q none ph) : ZR d k j lv [] ph Q := by
  intro clv nc ns hL
  obtain ⟨M, hM⟩ := zr_M hk
  obtain ⟨i, ln, hd, hl, hn⟩ := row_at hM hrow (by simp)
  have hl : ln = 1 := hl
  subst hl
  refine ⟨_, hrow, 1, none, ph, nc, ns, ?_, h⟩
  cases i <;> simp [nrm] at hn
  have h0 : mR M = none := retT_0 hn.symm
  rw [run, hM]
  dsimp only
  rw [hd]
  simp [x_ca, x_re, h0]
theorem zr_ireturn (hk : k < 186) {pc b x : Nat} {z : Int32} {ts : List Nat} (hrow : (codeOf k)[j]? = some (pc, .ireturn, 1, b, x, 1, ts)) (h : Q (some (.int z)) ph) : ZR d k j lv [.int z] ph Q := by
  intro clv nc ns hL
  obtain ⟨M, hM⟩ := zr_M hk
  obtain ⟨i, ln, hd, hl, hn⟩ := row_at hM hrow (by simp)
  have hl : ln = 1 := hl
  subst hl
  refine ⟨_, hrow, 1, some (.int z), ph, nc, ns, ?_, h⟩
  cases i <;> simp [nrm] at hn
  have h0 : mR M = some .int := retT_1 hn.symm
  rw [run, hM]
  dsimp only
  rw [hd]
  simp [x_ca, x_re, h0]
end ZC

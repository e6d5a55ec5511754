/-! ===== by hand: rows of longs, of what is new, of references ===== -/
def lzD : List (Option Value) → Nat → List (Option Value)
  | [], _ => []
  | _ :: t, 0 => none :: t
  | x :: t, i + 1 => x :: lzD t i
theorem lzD_get : ∀ (l : List (Option Value)) (i j : Nat) (w : Value), (lzD l i)[j]? = some (some w) → j ≠ i ∧ l[j]? = some (some w)
  | [], i, j, w, h => by simp [lzD] at h
  | x :: t, 0, 0, w, h => by simp [lzD] at h
  | x :: t, 0, j + 1, w, h => by
    rw [lzD, List.getElem?_cons_succ] at h
    exact ⟨by omega, by rw [List.getElem?_cons_succ]; exact h⟩
  | x :: t, i + 1, 0, w, h => by
    rw [lzD, List.getElem?_cons_zero] at h
    exact ⟨by omega, by rw [List.getElem?_cons_zero]; exact h⟩
  | x :: t, i + 1, j + 1, w, h => by
    rw [lzD, List.getElem?_cons_succ] at h
    obtain ⟨a, b⟩ := lzD_get t i j w h
    exact ⟨by omega, by rw [List.getElem?_cons_succ]; exact b⟩
theorem LZ.st2 {lv : List (Option Value)} {clv : PV} (h : LZ lv clv) {i : Nat} {v : Value} (hp : preZ lv i = true) : LZ (lzD (lzS lv i v) (i + 1)) (sl2 clv i v) := by
  intro j w hw
  obtain ⟨hne2, hw⟩ := lzD_get _ _ _ _ hw
  rcases lzS_get _ _ _ _ _ hw with ⟨rfl, rfl⟩ | ⟨hne, hj⟩
  · exact gl_sl2_self _ _ _
  · exact gl_sl2 (h j w hj) hne hne2 (preZ_ok hp hj)
section ZF
variable {d k j : Nat} {lv : List (Option Value)} {st : List Value} {ph : PH} {Q : Option Value → PH → Prop} {M : MR} {e : CE}
theorem zr_goN (hk : k < 186) {pc a b x len : Nat} {t : Instr} {ts : List Nat} {lv' : List (Option Value)} {st' : List Value} {ph' : PH} (hrow : (codeOf k)[j]? = some (pc, t, a, b, x, len, ts)) (hne : t ≠ .monitorexit)
    (hs : ∀ (M : MR) (i : Instr) (clv : PV) (nc ns : Nat), nrm M (codeOf k) (pc, t, a, b, x, len, ts) i = true → LZ lv clv → x_ca (mO M) i len st ph = none ∧ x_re M i len st = none ∧ ∃ clv' nc' ns', LZ lv' clv' ∧ stp M d i len (pc, clv, st, ph, nc, ns) = some (pc + len, clv', st', ph', nc', ns'))
    (h : ZR d k (j + 1) lv' st' ph' Q) : ZR d k j lv st ph Q := by
  intro clv nc ns hL
  obtain ⟨M, hM⟩ := zr_M hk
  obtain ⟨i, ln, hd, hl, hn⟩ := row_at hM hrow hne
  have hl : ln = len := hl
  subst hl
  obtain ⟨g1, g2, clv', nc', ns', g3, g4⟩ := hs M i clv nc ns hn hL
  obtain ⟨e', he', m, v, ph2, nc2, ns2, r1, r2⟩ := h clv' nc' ns' g3
  have hpc : e'.1 = pc + ln := row_next hM hrow he'
  rw [hpc] at r1
  exact ⟨_, hrow, m + 1, v, ph2, nc2, ns2, run_step hM hd g1 g2 g4 r1, r2⟩
theorem zr_lconst (hk : k < 186) {pc a b x len : Nat} {w : Fin 2} {ts : List Nat} (hrow : (codeOf k)[j]? = some (pc, .lconst w, a, b, x, len, ts)) (h : ZR d k (j + 1) lv (.long (oL a) :: st) ph Q) : ZR d k j lv st ph Q := by
  refine zr_go hk hrow (by simp) (fun M i clv nc ns hn hL => ?_) h
  cases i <;> simp [nrm] at hn
  obtain ⟨⟨_, h2⟩, h3⟩ := hn
  subst h3
  exact ⟨rfl, rfl, clv, hL, by simp [stp, x_ld, h2]⟩
theorem zr_ldc (hk : k < 186) {pc a b x len ix : Nat} {ts : List Nat} (hrow : (codeOf k)[j]? = some (pc, .ldc2_w ix, a, b, x, len, ts)) (h : ZR d k (j + 1) lv (.long (oL a) :: st) ph Q) : ZR d k j lv st ph Q := by
  refine zr_go hk hrow (by simp) (fun M i clv nc ns hn hL => ?_) h
  cases i <;> simp [nrm] at hn
  obtain ⟨⟨h1, h2⟩, h3⟩ := hn
  subst h1 h3
  exact ⟨rfl, rfl, clv, hL, by simp [stp, x_ld, x_st, x_ar, x_br, x_hp, h2]⟩
theorem zr_lload (hk : k < 186) {pc a b len n : Nat} {z : Int64} {ts : List Nat} (hrow : (codeOf k)[j]? = some (pc, .lload n, a, b, 2, len, ts)) (hg : lv[a]? = some (some (.long z))) (h : ZR d k (j + 1) lv (.long z :: st) ph Q) : ZR d k j lv st ph Q := by
  refine zr_go hk hrow (by simp) (fun M i clv nc ns hn hL => ?_) h
  have hgl := hL a _ hg
  cases i <;> simp [nrm] at hn
  · obtain ⟨⟨_, h2⟩, h3⟩ := hn
    subst h2 h3
    exact ⟨rfl, rfl, clv, hL, by simp [stp, x_ld, hgl]⟩
  · obtain ⟨⟨_, h2⟩, h3⟩ := hn
    subst h2 h3
    exact ⟨rfl, rfl, clv, hL, by simp [stp, x_ld, hgl]⟩
theorem zr_lstore (hk : k < 186) {pc a b len n : Nat} {z : Int64} {lv' : List (Option Value)} {ts : List Nat} (hrow : (codeOf k)[j]? = some (pc, .lstore n, a, b, 2, len, ts)) (hp : preZ lv a = true) (hl : lzD (lzS lv a (.long z)) (a + 1) = lv') (h : ZR d k (j + 1) lv' st ph Q) : ZR d k j lv (.long z :: st) ph Q := by
  subst hl
  refine zr_go hk hrow (by simp) (fun M i clv nc ns hn hL => ?_) h
  cases i <;> simp [nrm] at hn
  · obtain ⟨⟨⟨_, h2⟩, h3⟩, h4⟩ := hn
    subst h2 h3
    exact ⟨rfl, rfl, _, hL.st2 hp, by simp [stp, x_ld, x_st, h4]⟩
  · obtain ⟨⟨⟨_, h2⟩, h3⟩, h4⟩ := hn
    subst h2 h3
    exact ⟨rfl, rfl, _, hL.st2 hp, by simp [stp, x_ld, x_st, h4]⟩
theorem zr_ladd (hk : k < 186) {pc a b x len : Nat} {ts : List Nat} {y z : Int64} (hrow : (codeOf k)[j]? = some (pc, .ladd, a, b, x, len, ts)) (h : ZR d k (j + 1) lv (.long (z + y) :: st) ph Q) : ZR d k j lv (.long y :: .long z :: st) ph Q := by
  refine zr_go hk hrow (by simp) (fun M i clv nc ns hn hL => ?_) h
  cases i <;> simp [nrm] at hn
  have hn : len = 1 := by simpa using hn
  subst hn
  exact ⟨rfl, rfl, clv, hL, by simp [stp, x_ld, x_st, x_ar]⟩
theorem zr_lsub (hk : k < 186) {pc a b x len : Nat} {ts : List Nat} {y z : Int64} (hrow : (codeOf k)[j]? = some (pc, .lsub, a, b, x, len, ts)) (h : ZR d k (j + 1) lv (.long (z - y) :: st) ph Q) : ZR d k j lv (.long y :: .long z :: st) ph Q := by
  refine zr_go hk hrow (by simp) (fun M i clv nc ns hn hL => ?_) h
  cases i <;> simp [nrm] at hn
  have hn : len = 1 := by simpa using hn
  subst hn
  exact ⟨rfl, rfl, clv, hL, by simp [stp, x_ld, x_st, x_ar]⟩
theorem zr_lmul (hk : k < 186) {pc a b x len : Nat} {ts : List Nat} {y z : Int64} (hrow : (codeOf k)[j]? = some (pc, .lmul, a, b, x, len, ts)) (h : ZR d k (j + 1) lv (.long (z * y) :: st) ph Q) : ZR d k j lv (.long y :: .long z :: st) ph Q := by
  refine zr_go hk hrow (by simp) (fun M i clv nc ns hn hL => ?_) h
  cases i <;> simp [nrm] at hn
  have hn : len = 1 := by simpa using hn
  subst hn
  exact ⟨rfl, rfl, clv, hL, by simp [stp, x_ld, x_st, x_ar]⟩
theorem zr_lcmp (hk : k < 186) {pc a b x len : Nat} {ts : List Nat} {y z : Int64} (hrow : (codeOf k)[j]? = some (pc, .lcmp, a, b, x, len, ts)) (h : ZR d k (j + 1) lv (.int (lg_cmp z y) :: st) ph Q) : ZR d k j lv (.long y :: .long z :: st) ph Q := by
  refine zr_go hk hrow (by simp) (fun M i clv nc ns hn hL => ?_) h
  cases i <;> simp [nrm] at hn
  have hn : len = 1 := by simpa using hn
  subst hn
  exact ⟨rfl, rfl, clv, hL, by simp [stp, x_ld, x_st, x_ar]⟩
theorem zr_ldiv (hk : k < 186) {pc a b x len : Nat} {ts : List Nat} {y z : Int64} (hrow : (codeOf k)[j]? = some (pc, .ldiv, a, b, x, len, ts)) (hy : ¬ y = 0) (h : ZR d k (j + 1) lv (.long (z / y) :: st) ph Q) : ZR d k j lv (.long y :: .long z :: st) ph Q := by
  refine zr_go hk hrow (by simp) (fun M i clv nc ns hn hL => ?_) h
  cases i <;> simp [nrm] at hn
  have hn : len = 1 := by simpa using hn
  subst hn
  exact ⟨rfl, rfl, clv, hL, by simp [stp, x_ld, x_st, x_ar, hy]⟩
theorem zr_i2l (hk : k < 186) {pc a b x len : Nat} {ts : List Nat} {z : Int32} (hrow : (codeOf k)[j]? = some (pc, .i2l, a, b, x, len, ts)) (h : ZR d k (j + 1) lv (.long z.toInt64 :: st) ph Q) : ZR d k j lv (.int z :: st) ph Q := by
  refine zr_go hk hrow (by simp) (fun M i clv nc ns hn hL => ?_) h
  cases i <;> simp [nrm] at hn
  have hn : len = 1 := by simpa using hn
  subst hn
  exact ⟨rfl, rfl, clv, hL, by simp [stp, x_ld, x_st, x_ar]⟩
theorem zr_l2i (hk : k < 186) {pc a b x len : Nat} {ts : List Nat} {z : Int64} (hrow : (codeOf k)[j]? = some (pc, .l2i, a, b, x, len, ts)) (h : ZR d k (j + 1) lv (.int z.toInt32 :: st) ph Q) : ZR d k j lv (.long z :: st) ph Q := by
  refine zr_go hk hrow (by simp) (fun M i clv nc ns hn hL => ?_) h
  cases i <;> simp [nrm] at hn
  have hn : len = 1 := by simpa using hn
  subst hn
  exact ⟨rfl, rfl, clv, hL, by simp [stp, x_ld, x_st, x_ar]⟩
theorem zr_pop2 (hk : k < 186) {pc a b x len : Nat} {ts : List Nat} {z : Int64} (hrow : (codeOf k)[j]? = some (pc, .pop2, a, b, x, len, ts)) (h : ZR d k (j + 1) lv st ph Q) : ZR d k j lv (.long z :: st) ph Q := by
  refine zr_go hk hrow (by simp) (fun M i clv nc ns hn hL => ?_) h
  cases i <;> simp [nrm] at hn
  have hn : len = 1 := by simpa using hn
  subst hn
  exact ⟨rfl, rfl, clv, hL, by simp [stp, x_ld, x_st, x_ar, Value.category]⟩
theorem zr_lreturn (hk : k < 186) {pc b x : Nat} {z : Int64} {ts : List Nat} (hrow : (codeOf k)[j]? = some (pc, .lreturn, 3, b, x, 1, ts)) (h : Q (some (.long z)) ph) : ZR d k j lv [.long z] ph Q := by
  intro clv nc ns hL
  obtain ⟨M, hM⟩ := zr_M hk
  obtain ⟨i, ln, hd, hl, hn⟩ := row_at hM hrow (by simp)
  have hl : ln = 1 := hl
  subst hl
  refine ⟨_, hrow, 1, some (.long z), ph, nc, ns, ?_, h⟩
  cases i <;> simp [nrm] at hn
  have h0 : mR M = some .long := retT_3 hn.symm
  rw [run, hM]
  dsimp only
  rw [hd]
  simp [x_ca, x_re, h0]
theorem zr_areturn (hk : k < 186) {pc b x v : Nat} {ts : List Nat} (hrow : (codeOf k)[j]? = some (pc, .areturn, 4, b, x, 1, ts)) (h : Q (some (.ref v)) ph) : ZR d k j lv [.ref v] ph Q := by
  intro clv nc ns hL
  obtain ⟨M, hM⟩ := zr_M hk
  obtain ⟨i, ln, hd, hl, hn⟩ := row_at hM hrow (by simp)
  have hl : ln = 1 := hl
  subst hl
  refine ⟨_, hrow, 1, some (.ref v), ph, nc, ns, ?_, h⟩
  cases i <;> simp [nrm] at hn
  obtain ⟨n, h0⟩ := retT_4 hn.symm
  rw [run, hM]
  dsimp only
  rw [hd]
  simp [x_ca, x_re, h0]
theorem zr_aaload (hk : k < 186) {pc a b x v n ci : Nat} {f : Nat → Option Nat} {z : Int32} {ts : List Nat} (hrow : (codeOf k)[j]? = some (pc, .aaload, a, b, x, 1, ts)) (hv : ph[v]? = some (.inr (.inl (ci, n, f)))) (h0 : 0 ≤ z) (h1 : z.toNatClampNeg < n) (h2 : 2 ≤ v) (ha : aoK ci = true) (h : ZR d k (j + 1) lv (va_rf (f z.toNatClampNeg) :: st) ph Q) : ZR d k j lv (.int z :: .ref v :: st) ph Q := by
  refine zr_go hk hrow (by simp) (fun M i clv nc ns hn hL => ?_) h
  cases i <;> simp [nrm] at hn
  exact ⟨rfl, rfl, clv, hL, st_aald hv h0 h1 h2 ha⟩
theorem zr_aastore (hk : k < 186) {pc a b x v w n ci : Nat} {f : Nat → Option Nat} {fs : List Value} {z : Int32} {ts : List Nat} (hrow : (codeOf k)[j]? = some (pc, .aastore, a, b, x, 1, ts)) (hv : ph[v]? = some (.inr (.inl (ci, n, f)))) (hw : ph[w]? = some (.inr (.inr (ci, fs)))) (h0 : 0 ≤ z) (h1 : z.toNatClampNeg < n) (h2 : 2 ≤ v) (h3 : 2 ≤ w) (ha : aoK ci = true) (h : ZR d k (j + 1) lv st (ph.set v (.inr (.inl (ci, n, va_up f z.toNatClampNeg (some w))))) Q) : ZR d k j lv (.ref w :: .int z :: .ref v :: st) ph Q := by
  refine zr_go hk hrow (by simp) (fun M i clv nc ns hn hL => ?_) h
  cases i <;> simp [nrm] at hn
  exact ⟨rfl, rfl, clv, hL, st_aast hv hw h0 h1 h2 h3 ha⟩
theorem zr_alen (hk : k < 186) {pc a b x v n : Nat} {f : Nat → Int32} {ts : List Nat} (hrow : (codeOf k)[j]? = some (pc, .arraylength, a, b, x, 1, ts)) (hv : ph[v]? = some (.inl (n, f))) (h : ZR d k (j + 1) lv (.int (Int32.ofNat n) :: st) ph Q) : ZR d k j lv (.ref v :: st) ph Q := by
  refine zr_go hk hrow (by simp) (fun M i clv nc ns hn hL => ?_) h
  cases i <;> simp [nrm] at hn
  exact ⟨rfl, rfl, clv, hL, st_alen hv⟩
theorem zr_newarray (hk : k < 186) {pc a b x : Nat} {ty : ArrayType} {z : Int32} {ts : List Nat} (hrow : (codeOf k)[j]? = some (pc, .newarray ty, a, b, x, 2, ts)) (h0 : 0 ≤ z) (h1 : z.toNatClampNeg ≤ 100000) (h : ZR d k (j + 1) lv (.ref ph.length :: st) (ph ++ [.inl (z.toNatClampNeg, fun _ => 0)]) Q) : ZR d k j lv (.int z :: st) ph Q := by
  refine zr_goN hk hrow (by simp) (fun M i clv nc ns hn hL => ?_) h
  cases i <;> simp [nrm] at hn
  obtain ⟨-, hn⟩ := hn
  subst hn
  exact ⟨rfl, rfl, clv, _, _, hL, st_newa h0 h1⟩
theorem zr_anewarray (hk : k < 186) {pc a b x ix : Nat} {z : Int32} {ts : List Nat} (hrow : (codeOf k)[j]? = some (pc, .anewarray ix, a, b, x, 3, ts)) (h0 : 0 ≤ z) (h1 : z.toNatClampNeg ≤ 100000) (h : ZR d k (j + 1) lv (.ref ph.length :: st) (ph ++ [.inr (.inl (a, z.toNatClampNeg, fun _ => none))]) Q) : ZR d k j lv (.int z :: st) ph Q := by
  refine zr_goN hk hrow (by simp) (fun M i clv nc ns hn hL => ?_) h
  cases i <;> simp [nrm] at hn
  obtain ⟨⟨h3, h4⟩, h5⟩ := hn
  subst h3
  exact ⟨rfl, rfl, clv, _, _, hL, st_anew h4 h5 h0 h1⟩
theorem zr_new (hk : k < 186) {pc a b x ix : Nat} {q : vw_C} {fs : List Value} {ts : List Nat} (hrow : (codeOf k)[j]? = some (pc, .new ix, a, b, x, 3, ts)) (hq : cls[a]? = some q) (hfs : dfL[a]? = some fs) (h : ZR d k (j + 1) lv (.ref ph.length :: st) (ph ++ [.inr (.inr (a, fs))]) Q) : ZR d k j lv st ph Q := by
  refine zr_goN hk hrow (by simp) (fun M i clv nc ns hn hL => ?_) h
  cases i <;> simp [nrm] at hn
  obtain ⟨h3, h4⟩ := hn
  subst h3
  exact ⟨rfl, rfl, clv, _, _, hL, st_new h4 hq hfs⟩
theorem zr_oi (hk : k < 186) {pc a b x v : Nat} {ts : List Nat} (hrow : (codeOf k)[j]? = some (pc, .nop, a, b, x, 3, ts)) (hd1 : 1 ≤ d) (hr : catS st ≤ 8) (h : ZR d k (j + 1) lv st ph Q) : ZR d k j lv (.ref v :: st) ph Q := by
  refine zr_go hk hrow (by simp) (fun M i clv nc ns hn hL => ?_) h
  cases i <;> simp [nrm] at hn
  obtain ⟨⟨h1, h2⟩, h3⟩ := hn
  exact ⟨by simp [x_ca, h2, h3], rfl, clv, hL, st_oi h1 hd1 hr⟩
theorem zr_ifnn_ref (hk : k < 186) {pc a b x v : Nat} {o : Int} {ts : List Nat} (hrow : (codeOf k)[j]? = some (pc, .ifnonnull o, a, b, x, 3, ts)) (h : ZR d k b lv st ph Q) : ZR d k j lv (.ref v :: st) ph Q := by
  refine zr_br hk (o := o) true hrow (by simp) (fun M i clv nc ns hn => ?_) h
  cases i <;> simp [nrm] at hn
  obtain ⟨h1, h2⟩ := hn
  subst h1
  exact ⟨h2, rfl, rfl, fun p hp => by simp [stp, x_ld, x_st, x_ar, x_br, hp]⟩
theorem zr_ifnn_null (hk : k < 186) {pc a b x : Nat} {o : Int} {ts : List Nat} (hrow : (codeOf k)[j]? = some (pc, .ifnonnull o, a, b, x, 3, ts)) (h : ZR d k (j + 1) lv st ph Q) : ZR d k j lv (.null :: st) ph Q := by
  refine zr_br hk (o := o) false hrow (by simp) (fun M i clv nc ns hn => ?_) h
  cases i <;> simp [nrm] at hn
  obtain ⟨h1, h2⟩ := hn
  subst h1
  exact ⟨h2, rfl, rfl, fun p hp => by simp [stp, x_ld, x_st, x_ar, x_br]⟩
theorem zr_putX (hk : k < 186) {pc a b x ix v : Nat} {fs : List Value} {y : Value} {ts : List Nat} {q : vw_C} {t : Nat → FieldType} (hrow : (codeOf k)[j]? = some (pc, .putfield ix, a, b, x, 3, ts)) (hv : ph[v]? = some (.inr (.inr (a, fs)))) (h2 : 2 ≤ v) (hb : b < fs.length) (hq : cls[a]? = some q) (ht : tyL[a]? = some t) (hfit : fitV (t b) y = true) (h : ZR d k (j + 1) lv st (ph.set v (.inr (.inr (a, fs.set b y)))) Q) : ZR d k j lv (y :: .ref v :: st) ph Q := by
  refine zr_go hk hrow (by simp) (fun M i clv nc ns hn hL => ?_) h
  cases i <;> simp [nrm] at hn
  obtain ⟨⟨h0, h1⟩, h3⟩ := hn
  subst h0
  unfold putB at h3
  rw [hq, ht] at h3
  simp only [Bool.and_eq_true, Bool.or_eq_true, Bool.not_eq_true'] at h3
  obtain ⟨⟨b1, b2⟩, b3⟩ := h3
  refine ⟨rfl, rfl, clv, hL, st_put h1 hv h2 hq ht hb (blt_iff.mp b1) hfit (fun z => ?_)⟩
  rcases b3 with w | w
  · rw [w] at z; cases z
  · exact ⟨beq_of w.1, beq_of w.2⟩
theorem zr_special (hk : k < 186) {pc b x kc n L v ix : Nat} {ts : List Nat} {as r : List Value} {P : Option Value → PH → Prop} (hrow : (codeOf k)[j]? = some (pc, .invokespecial ix, kc, b, x, 3, ts)) (hkc : kc < 186) (h0 : kc ≠ 0) (hI : (tget CM 8 kc mTab).2.1 = L ∧ (tget CM 8 kc mTab).2.2.1 = n ∧ (tget CM 8 kc mTab).2.2.2.1 = 2) (hn : as.length = n) (hst : st = as.reverse ++ .ref v :: r) (hcat : catS r ≤ 8) (hl : (lg_sl (.ref v :: as)).length ≤ L)
    (hc : ZC d kc (.ref v :: as) ph P) (h : ∀ w ph', P w ph' → ZR (d + 1) k (j + 1) lv (w.toList ++ r) ph' Q) : ZR (d + 1) k j lv st ph Q := by
  obtain ⟨K, hK⟩ := zr_M hkc
  have hinf := (cert_all kc K hK).2.2.2 h0
  unfold infOK at hinf
  simp only [Bool.and_eq_true] at hinf
  obtain ⟨⟨⟨i1, i2⟩, i3⟩, i4⟩ := hinf
  have hmL : mL K = L := by rw [← beq_of i1]; exact hI.1
  have hmN : mN K = n := by rw [← beq_of i2]; exact hI.2.1
  have hmK : mK K = 2 := by rw [← beq_of i3]; exact hI.2.2
  refine zr_call (i0 := .nop) (len := 3) hk hrow (by simp) (fun M i hnr => ?_) hK (by rw [hmL]; exact hl) hc h
  have hN : mN K = as.reverse.length := by rw [hmN, List.length_reverse, hn]
  have hdr : st.drop (mN K) = .ref v :: r := by rw [hst, hN, List.drop_left' rfl]
  have htk : st.take (mN K) = as.reverse := by rw [hst, hN, List.take_left' rfl]
  cases i <;> simp [nrm] at hnr
  obtain ⟨⟨h1, h2⟩, h3⟩ := hnr
  subst h1
  unfold x_ca
  rw [if_pos rfl]
  rcases h3 with h3 | ⟨h3, h4⟩
  · simp only [h3, hK, hdr]
    rw [if_pos ⟨h0, hmK, hcat⟩, htk, List.reverse_reverse]
  · simp only [h3, h4, hK, hdr]
    rw [if_pos ⟨h0, hmK, hcat⟩, htk, List.reverse_reverse]
end ZF
/-! ===== longs as numbers ===== -/
def lo (e : Int) : Int64 := Int64.ofInt e
def inL64 (e : Int) : Prop := -9223372036854775808 ≤ e ∧ e < 9223372036854775808
theorem lo_toInt {e : Int} (h : inL64 e) : (lo e).toInt = e := Int64.toInt_ofInt_of_le (by have := h.1; omega) (by have := h.2; omega)
theorem lo_add (a b : Int) : lo a + lo b = lo (a + b) := (Int64.ofInt_add a b).symm
theorem lo_mul (a b : Int) : lo a * lo b = lo (a * b) := (Int64.ofInt_mul a b).symm
theorem lo_of (x : Int64) : x = lo x.toInt := (Int64.ofInt_toInt x).symm
theorem lo_ne {a : Int} (h : inL64 a) (hne : a ≠ 0) : ¬ lo a = 0 := by
  intro e
  have := congrArg Int64.toInt e
  rw [lo_toInt h] at this
  exact hne this
theorem i2l_lo (x : Int32) : x.toInt64 = lo x.toInt := by
  refine Int64.toInt.inj ?_
  rw [Int32.toInt_toInt64, lo_toInt]
  have := x.le_toInt
  have := x.toInt_lt
  unfold inL64
  omega
theorem lo_div {a b : Int} (h0 : 0 ≤ a) (h1 : a < 4000000000000000000) (hb : 0 < b) (hb2 : b < 2147483648) : lo a / lo b = lo (a / b) := by
  unfold lo
  rw [← Int.tdiv_eq_ediv_of_nonneg h0]
  exact (Int64.ofInt_tdiv (by have e : Int64.minValue.toInt = -9223372036854775808 := rfl
                              omega) (by have e : Int64.maxValue.toInt = 9223372036854775807 := rfl
                                         omega) (by have e : Int64.minValue.toInt = -9223372036854775808 := rfl
                                                    omega) (by have e : Int64.maxValue.toInt = 9223372036854775807 := rfl
                                                               omega)).symm
theorem oL_lo (a : Nat) : oL a = lo ((a : Int) - 9223372036854775808) := by
  unfold oL lo
  rw [← Int64.ofInt_eq_ofNat]
  refine Int64.toInt.inj ?_
  rw [Int64.toInt_ofInt, Int64.toInt_ofInt]
  have e : (((a + oY : Nat) : Int)) = ((a : Int) - 9223372036854775808) + (Int64.size : Nat) := by
    have : (Int64.size : Nat) = 18446744073709551616 := rfl
    rw [this]
    unfold oY
    omega
  rw [e, Int.add_bmod_right]

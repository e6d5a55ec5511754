/-! ===== BY HAND: a row of the decoded code at a time, over values as they are ===== -/
def LZ (lv : List (Option Value)) (clv : PV) : Prop := ∀ i v, lv[i]? = some (some v) → gl clv i = some v
/-- from row j of method k on, the run comes to an end of which Q holds -/
def ZR (d k j : Nat) (lv : List (Option Value)) (st : List Value) (ph : PH) (Q : Option Value → PH → Prop) : Prop := ∀ (clv : PV) (nc ns : Nat), LZ lv clv → ∃ e, (codeOf k)[j]? = some e ∧ ∃ (m : Nat) (v : Option Value) (ph' : PH) (nc' ns' : Nat), run m d k (e.1, clv, st, ph, nc, ns) = some (v, ph', nc', ns') ∧ Q v ph'
section ZA
variable {d k j : Nat} {lv : List (Option Value)} {st : List Value} {ph : PH} {Q : Option Value → PH → Prop} {M : MR} {e : CE}
theorem row_at (hM : mT[k]? = some M) (h : (codeOf k)[j]? = some e) (hne : e.2.1 ≠ .monitorexit) : ∃ i len, decode (mC M) e.1 = .ok (i, len) ∧ len = e.2.2.2.2.2.1 ∧ nrm M (codeOf k) e i = true := by
  have hrow := (cert_all k M hM).1 e (List.mem_of_getElem? h)
  unfold rowOK at hrow
  cases hc : decide (e.2.1 = .monitorexit) with
  | true => exact absurd (of_decide_eq_true hc) hne
  | false =>
    rw [hc, cond_false] at hrow
    split at hrow
    case h_2 => cases hrow
    rename_i i len hd
    rw [Bool.and_eq_true] at hrow
    exact ⟨i, len, hd, beq_of hrow.1, hrow.2⟩
theorem row_next (hM : mT[k]? = some M) (h : (codeOf k)[j]? = some e) {e' : CE} (h' : (codeOf k)[j + 1]? = some e') : e'.1 = e.1 + e.2.2.2.2.2.1 := by
  obtain ⟨h1, h2⟩ := List.getElem?_eq_some_iff.mp h
  obtain ⟨h3, h4⟩ := List.getElem?_eq_some_iff.mp h'
  refine adj_drop (codeOf k) j e e' ((codeOf k).drop (j + 1 + 1)) (cert_all k M hM).2.1 ?_
  rw [List.drop_eq_getElem_cons h1, h2, List.drop_eq_getElem_cons h3, h4]
theorem zr_M {k : Nat} (hk : k < 186) : ∃ M, mT[k]? = some M := ⟨_, List.getElem?_eq_getElem (by rw [ce_mT]; exact hk)⟩
theorem zr_cut (hk : k < 186) {pc a b x : Nat} {ts : List Nat} (hrow : (codeOf k)[j]? = some (pc, .monitorexit, a, b, x, 0, ts)) (h : ZR d k (j + 1) lv st ph Q) : ZR d k j lv st ph Q := by
  intro clv nc ns hL
  obtain ⟨e', he', r⟩ := h clv nc ns hL
  obtain ⟨M, hM⟩ := zr_M hk
  have := row_next hM hrow he'
  refine ⟨_, hrow, ?_⟩
  rw [show e'.1 = pc from this] at r
  exact r
/-- an instruction, then the next row -/
theorem zr_go (hk : k < 186) {pc a b x len : Nat} {t : Instr} {ts : List Nat} {lv' : List (Option Value)} {st' : List Value} {ph' : PH} (hrow : (codeOf k)[j]? = some (pc, t, a, b, x, len, ts)) (hne : t ≠ .monitorexit)
    (hs : ∀ (M : MR) (i : Instr) (clv : PV) (nc ns : Nat), nrm M (codeOf k) (pc, t, a, b, x, len, ts) i = true → LZ lv clv → x_ca (mO M) i len st ph = none ∧ x_re M i len st = none ∧ ∃ clv', LZ lv' clv' ∧ stp M d i len (pc, clv, st, ph, nc, ns) = some (pc + len, clv', st', ph', nc, ns))
    (h : ZR d k (j + 1) lv' st' ph' Q) : ZR d k j lv st ph Q := by
  intro clv nc ns hL
  obtain ⟨M, hM⟩ := zr_M hk
  obtain ⟨i, ln, hd, hl, hn⟩ := row_at hM hrow hne
  have hl : ln = len := hl
  subst hl
  obtain ⟨g1, g2, clv', g3, g4⟩ := hs M i clv nc ns hn hL
  obtain ⟨e', he', m, v, ph2, nc2, ns2, r1, r2⟩ := h clv' nc ns g3
  have hpc : e'.1 = pc + ln := row_next hM hrow he'
  rw [hpc] at r1
  exact ⟨_, hrow, m + 1, v, ph2, nc2, ns2, run_step hM hd g1 g2 g4 r1, r2⟩
theorem zr_iconst (hk : k < 186) {pc a b x len : Nat} {w : Int} {ts : List Nat} (hrow : (codeOf k)[j]? = some (pc, .iconst w, a, b, x, len, ts)) (h : ZR d k (j + 1) lv (.int (oI a) :: st) ph Q) : ZR d k j lv st ph Q := by
  refine zr_go hk hrow (by simp) (fun M i clv nc ns hn hL => ?_) h
  cases i <;> simp [nrm] at hn
  · obtain ⟨⟨_, h2⟩, h3⟩ := hn
    subst h3
    exact ⟨rfl, rfl, clv, hL, by simp [stp, x_ld, h2]⟩
  · obtain ⟨⟨_, h2⟩, h3⟩ := hn
    subst h3
    exact ⟨rfl, rfl, clv, hL, by simp [stp, x_ld, h2]⟩
  · obtain ⟨⟨_, h2⟩, h3⟩ := hn
    subst h3
    exact ⟨rfl, rfl, clv, hL, by simp [stp, x_ld, h2]⟩
theorem zr_iload (hk : k < 186) {pc a b len n : Nat} {z : Int32} {ts : List Nat} (hrow : (codeOf k)[j]? = some (pc, .iload n, a, b, 0, len, ts)) (hg : lv[a]? = some (some (.int z))) (h : ZR d k (j + 1) lv (.int z :: st) ph Q) : ZR d k j lv st ph Q := by
  refine zr_go hk hrow (by simp) (fun M i clv nc ns hn hL => ?_) h
  have hgl := hL a _ hg
  cases i <;> simp [nrm] at hn
  · obtain ⟨⟨_, h2⟩, h3⟩ := hn
    subst h2 h3
    exact ⟨rfl, rfl, clv, hL, by simp [stp, x_ld, hgl]⟩
  · obtain ⟨⟨_, h2⟩, h3⟩ := hn
    subst h2 h3
    exact ⟨rfl, rfl, clv, hL, by simp [stp, x_ld, hgl]⟩
end ZA

/-! ===== by hand: a field put, a copy; Math.min ===== -/
section ZE
variable {d k j : Nat} {lv : List (Option Value)} {st : List Value} {ph : PH} {Q : Option Value → PH → Prop} {M : MR} {e : CE}
theorem zr_putI (hk : k < 186) {pc a b ix v : Nat} {fs : List Value} {z : Int32} {ts : List Nat} (hrow : (codeOf k)[j]? = some (pc, .putfield ix, a, b, 0, 3, ts)) (hv : ph[v]? = some (.inr (.inr (a, fs)))) (h2 : 2 ≤ v) (hb : b < fs.length) (h : ZR d k (j + 1) lv st (ph.set v (.inr (.inr (a, fs.set b (.int z))))) Q) : ZR d k j lv (.int z :: .ref v :: st) ph Q := by
  refine zr_go hk hrow (by simp) (fun M i clv nc ns hn hL => ?_) h
  cases i <;> simp [nrm] at hn
  obtain ⟨⟨h0, h1⟩, h3⟩ := hn
  subst h0
  unfold putB at h3
  split at h3
  case h_2 => cases h3
  rename_i qc tl hq1 hq2
  simp only [Bool.and_eq_true, Bool.or_eq_true, Bool.not_eq_true'] at h3
  obtain ⟨⟨b1, b2⟩, b3⟩ := h3
  refine ⟨rfl, rfl, clv, hL, st_put h1 hv h2 hq1 hq2 hb (blt_iff.mp b1) ?_ (fun z => ?_)⟩
  · have hkt : kindT (tl b) = 0 := beq_of b2
    exact putK_fit (len := 0) (p := full32) hkt rfl (fit_full _ _)
  · rcases b3 with w | w
    · rw [w] at z; cases z
    · exact ⟨beq_of w.1, beq_of w.2⟩
theorem zr_copy (hk : k < 186) {pc a b x v w n0 n1 : Nat} {f g : Nat → Int32} {sp dp n : Int32} {ts : List Nat} (hrow : (codeOf k)[j]? = some (pc, .swap, a, b, x, 3, ts)) (hd1 : 1 ≤ d) (hv : ph[v]? = some (.inl (n0, f))) (hw : ph[w]? = some (.inl (n1, g))) (h2 : 2 ≤ v) (h3 : 2 ≤ w) (h4 : 0 ≤ sp) (h5 : 0 ≤ dp) (h6 : 0 ≤ n) (h7 : sp.toNatClampNeg + n.toNatClampNeg ≤ n0) (h8 : dp.toNatClampNeg + n.toNatClampNeg ≤ n1) (hr : catS st ≤ 8)
    (h : ZR d k (j + 1) lv st (ph.set w (.inl (n1, va_cpy f g sp.toNatClampNeg dp.toNatClampNeg n.toNatClampNeg))) Q) : ZR d k j lv (.int n :: .int dp :: .ref w :: .int sp :: .ref v :: st) ph Q := by
  refine zr_go hk hrow (by simp) (fun M i clv nc ns hn hL => ?_) h
  cases i <;> simp [nrm] at hn
  exact ⟨by simp [x_ca, hn.2], rfl, clv, hL, st_cpy hn.1 hd1 hv hw h2 h3 h4 h5 h6 h7 h8 hr⟩
end ZE
theorem kc38_eq : codeOf 38 = kc38 := rfl
theorem rw_38_0 : (codeOf 38)[0]? = some (0, .iload 0, 0, 0, 0, 1, []) := by rw [kc38_eq]; rfl
theorem rw_38_1 : (codeOf 38)[1]? = some (1, .iload 1, 1, 0, 0, 1, []) := by rw [kc38_eq]; rfl
theorem rw_38_2 : (codeOf 38)[2]? = some (2, .if_icmp .gt 7, 9, 5, 0, 3, []) := by rw [kc38_eq]; rfl
theorem rw_38_3 : (codeOf 38)[3]? = some (5, .iload 0, 0, 0, 0, 1, []) := by rw [kc38_eq]; rfl
theorem rw_38_4 : (codeOf 38)[4]? = some (6, .goto 4, 10, 6, 0, 3, []) := by rw [kc38_eq]; rfl
theorem rw_38_5 : (codeOf 38)[5]? = some (9, .iload 1, 1, 0, 0, 1, []) := by rw [kc38_eq]; rfl
theorem rw_38_6 : (codeOf 38)[6]? = some (10, .ireturn, 1, 0, 0, 1, []) := by rw [kc38_eq]; rfl
theorem min_ok (d : Nat) (x y : Int32) (ph : PH) : ZC d 38 [.int x, .int y] ph (fun v ph' => ph' = ph ∧ v = some (.int (if y < x then y else x))) := by
  refine ZC.of (lv := [some (.int x), some (.int y)]) (by decide) (fun i v hv => ?_) ?_
  · match i, hv with
    | 0, hv => cases hv; rfl
    | 1, hv => cases hv; rfl
    | i + 2, hv => simp at hv
  · refine zr_iload (by decide) rw_38_0 rfl ?_
    refine zr_iload (by decide) rw_38_1 rfl ?_
    refine zr_icmp_gt (by decide) rw_38_2 ?_
    by_cases h : y < x
    · rw [decide_eq_true h]
      refine zr_iload (j := 5) (by decide) rw_38_5 rfl ?_
      refine zr_ireturn (by decide) rw_38_6 ⟨rfl, by rw [if_pos h]⟩
    · rw [decide_eq_false h]
      refine zr_iload (j := 3) (by decide) rw_38_3 rfl ?_
      refine zr_goto (by decide) rw_38_4 ?_
      refine zr_ireturn (by decide) rw_38_6 ⟨rfl, by rw [if_neg h]⟩

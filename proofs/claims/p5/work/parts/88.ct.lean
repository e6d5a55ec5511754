/-! ===== by hand: all contracts; the other side's readers; a switch ===== -/
theorem ct_30 : ctT[30]? = some (some ([(2, 8, 0), (2, 10, 0)], [none], 4722366482869649407744, 5)) := rfl
theorem ct_68 : ctT[68]? = some (some ([(2, 20, 0), (0, 2147483648, 2147483712)], [none], 3145728, 1)) := rfl
theorem ct_82 : ctT[82]? = some (some ([(0, 0, 4294967295), (0, 2147483658, 2147483658)], [some (0, 2147483648, 2147483657)], 0, 0)) := rfl
theorem ct_90 : ctT[90]? = some (some ([(2, 13, 0), (0, 2147483648, 2147483656)], [none], 24576, 1)) := rfl
theorem ct_110 : ctT[110]? = some (some ([(2, 2, 0)], [some (2, 10, 0)], 73786976294842399748, 5)) := rfl
theorem ct_114 : ctT[114]? = some (some ([(2, 8, 0), (2, 10, 0)], [some (0, 2147483648, 2147483649)], 4722366482869649407232, 4)) := rfl
theorem ct_161 : ctT[161]? = some (some ([(2, 22, 0)], [none], 16911433728, 3)) := rfl
theorem Fr_mh {B : PH} {p : Nat → Int32} {a b : Nat → Nat → Int32} {z : Nat → Int32} (hB : 87 ≤ B.length) (hK : K4 a b) : Fr 16911433728 (mh B p a z) (mh B p b z) := by
  refine ⟨by rw [mh_len hB, mh_len hB]; exact Nat.le_refl _, fun x c hc => ?_⟩
  by_cases hm : x < 75 ∨ 87 ≤ x
  · refine ⟨c, ?_, fun _ => rfl, fun _ => stay.rfl' _ _⟩
    rcases hm with hm | hm
    · rw [mh_lo hB hm] at hc ⊢
      exact hc
    · rw [mh_hi hB hm] at hc ⊢
      exact hc
  · obtain ⟨i, rfl⟩ : ∃ i, x = 75 + i := ⟨x - 75, by omega⟩
    have hi : i < 12 := by omega
    rw [mh_get hB hi] at hc ⊢
    rw [psi_mo i hi]
    by_cases i0 : i = 0
    · subst i0
      exact ⟨c, hc, fun _ => rfl, fun _ => stay.rfl' _ _⟩
    by_cases i1 : i = 1
    · subst i1
      exact ⟨c, hc, fun _ => rfl, fun _ => stay.rfl' _ _⟩
    rw [mcl_ar i (by omega) hi] at hc ⊢
    cases hc
    refine ⟨_, rfl, fun hb => ?_, fun _ => ?_⟩
    · by_cases i5 : i ≤ 5
      · rw [hK (i - 1) (by omega)]
      · exfalso
        have : i = 6 ∨ i = 7 ∨ i = 8 ∨ i = 9 ∨ i = 10 ∨ i = 11 := by omega
        rcases this with rfl | rfl | rfl | rfl | rfl | rfl <;> exact absurd hb (by decide)
    · unfold stay
      rw [ty_mo i (by omega) hi]
      intro f hf
      cases hf
      exact ⟨_, rfl, Or.inl rfl⟩
theorem sh_ct {S0 e T : Nat} {p z : Nat → Int32} (hP : PageOK T p) : CtH (GI S0 e p z) 161 ([(2, 22, 0)], [none], 16911433728, 3) := by
  intro d ph as hd hW hGI hf
  match as, hf with
  | [v0], ⟨⟨v, hv, v1, v2, v3⟩, _⟩ =>
    subst hv
    obtain ⟨rfl, -⟩ := psi_is v3 (by omega)
    have hB := hGI.len
    obtain ⟨a, hM⟩ := hGI.2
    have heq := hM.eq hB
    obtain ⟨d, rfl⟩ : ∃ d', d = d' + 3 := ⟨d - 3, by have : 3 ≤ d := hd; omega⟩
    obtain ⟨m, w, ph', nc, ns, r1, b, rfl, rfl, hK⟩ := shares_ok (p := p) (a := a) (z := z) d hB hP.1.2.2.1 hP.1.2.2.2.1 hP.1.1
    have hW2 : WT (mh ph p a z) := by rw [← heq]; exact hW
    have hI2 : GI S0 e p z (mh ph p a z) := by rw [← heq]; exact hGI
    have hF := Fr_mh (z := z) (p := p) hB hK
    rw [← heq] at r1 hF
    exact ⟨m, none, _, nc, ns, r1, WT_mh hB hW2 hP, GI_mh hB hI2, hF, none, List.mem_cons_self, trivial⟩
theorem GI_2 {S0 e : Nat} {p z : Nat → Int32} : ∀ ph, GI S0 e p z ph → 2 ≤ ph.length := fun ph h => by
  have := h.len
  omega
theorem ct_e {S0 e T : Nat} {p z : Nat → Int32} (hP : PageOK T p) : CtAll (GI S0 e p z) 4 := by
  refine ct_upto (D0 := 4) (GI_ok S0 e p z) GI_2 (fun k hk c hc hlt _ => ?_) 4 (Nat.le_refl _)
  simp only [exL, List.mem_cons, List.not_mem_nil, or_false] at hk
  rcases hk with rfl | rfl | rfl | rfl | rfl | rfl | rfl
  · rw [ct_30] at hc
    cases hc
    exact absurd hlt (by show ¬ 5 < 4; omega)
  · rw [ct_68] at hc
    cases hc
    exact fl_remove (GI_ok S0 e p z)
  · rw [ct_82] at hc
    cases hc
    exact fm_ok
  · rw [ct_90] at hc
    cases hc
    exact pr_remove (GI_ok S0 e p z)
  · rw [ct_110] at hc
    cases hc
    exact absurd hlt (by show ¬ 5 < 4; omega)
  · rw [ct_114] at hc
    cases hc
    exact absurd hlt (by show ¬ 4 < 4; omega)
  · rw [ct_161] at hc
    cases hc
    exact sh_ct hP
theorem ct_full {S0 T : Nat} {p z : Nat → Int32} (hP : PageOK T p) (D : Nat) : CtAll (GI S0 0 p z) D := by
  refine ct_upto (D0 := D) (GI_ok S0 0 p z) GI_2 (fun k hk c hc hlt _ => ?_) D (Nat.le_refl _)
  simp only [exL, List.mem_cons, List.not_mem_nil, or_false] at hk
  rcases hk with rfl | rfl | rfl | rfl | rfl | rfl | rfl
  · rw [ct_30] at hc
    cases hc
    exact record_ok (ct_e hP) (ct_e hP)
  · rw [ct_68] at hc
    cases hc
    exact fl_remove (GI_ok S0 0 p z)
  · rw [ct_82] at hc
    cases hc
    exact fm_ok
  · rw [ct_90] at hc
    cases hc
    exact pr_remove (GI_ok S0 0 p z)
  · rw [ct_110] at hc
    cases hc
    exact cft_ok (ct_e hP) (ct_e hP)
  · rw [ct_114] at hc
    cases hc
    exact restore_ok (ct_e hP)
  · rw [ct_161] at hc
    cases hc
    exact sh_ct hP
/-- a contract that changes the other side's scratch arrays alone -/
theorem rd_ct {S0 T d kc : Nat} {c : CT} {as : List Value} {B : PH} {p z : Nat → Int32} {a : Nat → Nat → Int32} (hB : 87 ≤ B.length) (hP : PageOK T p) (hW : WT (mh B p a z)) (hI : GI S0 0 p z (mh B p a z)) (hc : ctT[kc]? = some (some c)) (hd : c.2.2.2 ≤ d) (hm : Nat.land c.2.2.1 16911433728 = c.2.2.1) (hf : fitAs (mh B p a z).length c.1 as) : ZC d kc as (mh B p a z) (fun v ph' => ∃ b, ph' = mh B p b z ∧ K4 a b ∧ ∃ q ∈ c.2.1, fitO ph'.length q v) := by
  obtain ⟨m, v, ph', nc, ns, r1, W1, I1, F1, hq⟩ := ct_full (S0 := S0) hP (c.2.2.2 + 1) kc c hc (Nat.lt_succ_self _) d _ as hd hW hI hf
  have F2 := F1.widen hm
  refine ⟨m, v, ph', nc, ns, r1, ?_⟩
  obtain ⟨⟨tr, f, s, hC⟩, -⟩ := hI
  obtain ⟨⟨tr', f', s', hC'⟩, b, hM⟩ := I1
  obtain ⟨rfl, rfl, rfl⟩ := hC.det hC' ((F2.at hC.1 (by decide)).trans hC.1.symm) ((F2.at hC.2.1 (by decide)).trans hC.2.1.symm) ((F2.at hC.2.2.1 (by decide)).trans hC.2.2.1.symm)
  have hl : ph'.length = B.length := by
    have h1 := hC.2.2.2.2.2.2.2.1
    have h2 := hC'.2.2.2.2.2.2.2.1
    rw [mh_len hB] at h1
    omega
  have hbit : ∀ t, t ≤ 21 → Nat.testBit 16911433728 t = false := by decide
  refine ⟨fun i => if i = 0 then a 0 else b i, ?_, fun i hi => ?_, hq⟩
  · refine List.ext_getElem? (fun x => ?_)
    by_cases hx : x < B.length
    · by_cases hm : x < 75 ∨ 87 ≤ x
      · have hg : ∃ c0, (mh B p a z)[x]? = some c0 := ⟨_, List.getElem?_eq_getElem (by rw [mh_len hB]; exact hx)⟩
        obtain ⟨c0, hc0⟩ := hg
        rw [F2.at hc0 (hbit _ (psi_lo hm)), ← hc0]
        rcases hm with hm | hm
        · rw [mh_lo hB hm, mh_lo hB hm]
        · rw [mh_hi hB hm, mh_hi hB hm]
      · obtain ⟨i, rfl⟩ : ∃ i, x = 75 + i := ⟨x - 75, by omega⟩
        rw [hM i (by omega), mh_get hB (by omega)]
        rfl
    · rw [List.getElem?_eq_none (by omega), List.getElem?_eq_none (by rw [mh_len hB]; omega)]
  · by_cases i0 : i = 0
    · dsimp only
      rw [if_pos i0, i0]
    · dsimp only
      rw [if_neg i0]
      have h1 : (mh B p a z)[75 + (i + 1)]? = some (.inl (moN (i + 1), a i)) := by
        rw [mh_get hB (by omega), mcl_ar (i + 1) (by omega) (by omega)]
        rfl
      have h2 : ph'[75 + (i + 1)]? = some (.inl (moN (i + 1), b i)) := by
        rw [hM (i + 1) (by omega), mcl_ar (i + 1) (by omega) (by omega)]
        rfl
      have hb : Nat.testBit 16911433728 (psi (75 + (i + 1))) = false := by
        rw [psi_mo (i + 1) (by omega)]
        have : i = 1 ∨ i = 2 ∨ i = 3 ∨ i = 4 := by omega
        rcases this with rfl | rfl | rfl | rfl <;> decide
      have h3 := F2.at h1 hb
      rw [h2] at h3
      injection h3 with h3
      injection h3 with h3
      injection h3 with _ h3
theorem int_of {len : Nat} {v : Option Value} (h : ∃ q ∈ ([some full32] : List (Option FT)), fitO len q v) : ∃ x : Int32, v = some (.int x) := by
  obtain ⟨q, hq, h⟩ := h
  cases List.mem_singleton.mp hq
  cases v with
  | none => exact h.elim
  | some y =>
    obtain ⟨z, rfl, -⟩ := h
    exact ⟨z, rfl⟩
theorem long_of {len : Nat} {v : Option Value} (h : ∃ q ∈ ([some full64] : List (Option FT)), fitO len q v) : ∃ x : Int64, v = some (.long x) := by
  obtain ⟨q, hq, h⟩ := h
  cases List.mem_singleton.mp hq
  cases v with
  | none => exact h.elim
  | some y =>
    obtain ⟨z, rfl, -⟩ := h
    exact ⟨z, rfl⟩
/-- a reader of the other side, as a public call -/
theorem rd_pub {S0 T d kc : Nat} {c : CT} {as : List Value} {B : PH} {p z : Nat → Int32} {a : Nat → Nat → Int32} (hB : 87 ≤ B.length) (hM : MInv T p z) (hW : WT (mh B p a z)) (hI : GI S0 0 p z (mh B p a z)) (hc : ctT[kc]? = some (some c)) (hd : c.2.2.2 ≤ d) (hm : Nat.land c.2.2.1 16911433728 = c.2.2.1) (hr : c.2.1 = [some full32]) (hf : fitAs (mh B p a z).length c.1 as) : ZC d kc as (mh B p a z) (PubQ B T a z) := by
  obtain ⟨r, hr5, hz, hP⟩ := hM
  obtain ⟨m, v, ph', nc, ns, r1, b, rfl, hK, hq⟩ := rd_ct hB (sl0.mp (hP 0 (Nat.zero_le _))) hW hI hc hd hm hf
  rw [hr] at hq
  obtain ⟨x, rfl⟩ := int_of hq
  exact ⟨m, _, _, nc, ns, r1, MInv.sameK ⟨r, hr5, hz, hP⟩ hK⟩
/-- a switch -/
theorem zr_switch {d k j : Nat} {lv : List (Option Value)} {st : List Value} {ph : PH} {Q : Option Value → PH → Prop} (hk : k < 186) {pc a b x len D : Nat} {df lo hi : Int} {offs : Array Int} {r : List Nat} {X : Int32} (hrow : (codeOf k)[j]? = some (pc, .tableswitch df lo hi offs, a, b, x, len, D :: r)) (hO : (X.toInt < lo ∨ hi < X.toInt) → ZR d k D lv st ph Q) (hI : ∀ (i t : Nat), r[i]? = some t → X.toInt = lo + (i : Int) → ZR d k t lv st ph Q) : ZR d k j lv (.int X :: st) ph Q := by
  intro clv nc ns hL
  obtain ⟨M, hM⟩ := zr_M hk
  obtain ⟨i, ln, hd, hl, hn⟩ := row_at hM hrow (by simp)
  have hl : ln = len := hl
  subst hl
  cases i <;> simp [nrm] at hn
  obtain ⟨⟨e1, e2, e3, e4⟩, hs⟩ := hn
  subst e1 e2 e3 e4
  unfold swB at hs
  simp only [Bool.and_eq_true, decide_eq_true_eq] at hs
  obtain ⟨⟨⟨⟨⟨⟨⟨s1, s2⟩, s3⟩, s4⟩, s5⟩, s6⟩, s7⟩, s8⟩ := hs
  have key : ∀ (bb : Nat) (o : Int), jB (codeOf k) bb pc o = true → ZR d k bb lv st ph Q → (∀ p, tg pc o = some p → stp M d (.tableswitch df lo hi offs) ln (pc, clv, .int X :: st, ph, nc, ns) = some (p, clv, st, ph, nc, ns)) → ∃ e, (codeOf k)[j]? = some e ∧ ∃ (m : Nat) (v : Option Value) (ph' : PH) (nc' ns' : Nat), run m d k (e.1, clv, .int X :: st, ph, nc, ns) = some (v, ph', nc', ns') ∧ Q v ph' := by
    intro bb o hj hz hst
    obtain ⟨p, hp⟩ := jB_tg hj
    obtain ⟨e', he', m, v, ph2, nc2, ns2, r1, r2⟩ := hz clv nc ns hL
    unfold jB at hj
    rw [hp, he'] at hj
    have hpc : e'.1 = p := beq_of hj
    rw [hpc] at r1
    exact ⟨_, hrow, m + 1, v, ph2, nc2, ns2, run_step hM hd (xca_sw _ _ _ _ _ _ _ _) (xre_sw _ _ _ _ _ _ _) (hst p hp) r1, r2⟩
  by_cases hx : X.toInt < lo ∨ hi < X.toInt
  · exact key D df s1 (hO hx) (fun p hp => st_sw_out hx hp)
  · have hlt : (X.toInt - lo).toNat < r.length := by omega
    have h8 := List.all_eq_true.mp s8 _ (List.mem_range.mpr hlt)
    have hr := List.getElem?_eq_getElem hlt
    rw [hr] at h8
    split at h8
    case h_2 => cases h8
    rename_i bb o hb ho
    cases hb
    exact key _ o h8 (hI _ _ hr (by omega)) (fun p hp => st_sw_in hx ho hp)


/-! ===== by hand: Math.floorMod by 10 ===== -/
theorem kc82_eq : codeOf 82 = kc82 := rfl
theorem rw_82_0 : (codeOf 82)[0]? = some (0, .iload 0, 0, 0, 0, 1, []) := by rw [kc82_eq]; rfl
theorem rw_82_1 : (codeOf 82)[1]? = some (1, .iload 1, 1, 0, 0, 1, []) := by rw [kc82_eq]; rfl
theorem rw_82_2 : (codeOf 82)[2]? = some (2, .irem, 0, 0, 0, 1, []) := by rw [kc82_eq]; rfl
theorem rw_82_3 : (codeOf 82)[3]? = some (3, .istore 2, 2, 0, 0, 1, []) := by rw [kc82_eq]; rfl
theorem rw_82_4 : (codeOf 82)[4]? = some (4, .iload 0, 0, 0, 0, 1, []) := by rw [kc82_eq]; rfl
theorem rw_82_5 : (codeOf 82)[5]? = some (5, .iload 1, 1, 0, 0, 1, []) := by rw [kc82_eq]; rfl
theorem rw_82_6 : (codeOf 82)[6]? = some (6, .ixor, 0, 0, 0, 1, []) := by rw [kc82_eq]; rfl
theorem rw_82_7 : (codeOf 82)[7]? = some (7, .ifCond .ge 11, 18, 14, 0, 3, []) := by rw [kc82_eq]; rfl
theorem rw_82_8 : (codeOf 82)[8]? = some (10, .iload 2, 2, 0, 0, 1, []) := by rw [kc82_eq]; rfl
theorem rw_82_9 : (codeOf 82)[9]? = some (11, .ifCond .eq 7, 18, 14, 0, 3, []) := by rw [kc82_eq]; rfl
theorem rw_82_10 : (codeOf 82)[10]? = some (14, .iload 2, 2, 0, 0, 1, []) := by rw [kc82_eq]; rfl
theorem rw_82_11 : (codeOf 82)[11]? = some (15, .iload 1, 1, 0, 0, 1, []) := by rw [kc82_eq]; rfl
theorem rw_82_12 : (codeOf 82)[12]? = some (16, .iadd, 0, 0, 0, 1, []) := by rw [kc82_eq]; rfl
theorem rw_82_13 : (codeOf 82)[13]? = some (17, .ireturn, 1, 0, 0, 1, []) := by rw [kc82_eq]; rfl
theorem rw_82_14 : (codeOf 82)[14]? = some (18, .iload 2, 2, 0, 0, 1, []) := by rw [kc82_eq]; rfl
theorem rw_82_15 : (codeOf 82)[15]? = some (19, .ireturn, 1, 0, 0, 1, []) := by rw [kc82_eq]; rfl
theorem xor_sign (x : Int32) : 0 ≤ x ^^^ 10 ↔ 0 ≤ x := by
  have h : ∀ z : Int32, 0 ≤ z ↔ z.toBitVec.msb = false := by
    intro z
    rw [Int32.le_iff_toInt_le, BitVec.msb_eq_toInt]
    show (0 : Int) ≤ z.toBitVec.toInt ↔ _
    simp
  rw [h, h]
  show (x.toBitVec ^^^ (10 : Int32).toBitVec).msb = false ↔ _
  rw [BitVec.msb_xor]
  have : ((10 : Int32).toBitVec).msb = false := by decide
  rw [this, Bool.xor_false]
theorem tdiv10 (n : Int) : (0 ≤ n → n.tdiv 10 = n / 10) ∧ (n < 0 → n.tdiv 10 = -(-n / 10)) := by
  refine ⟨fun h => Int.tdiv_eq_ediv_of_nonneg h, fun h => ?_⟩
  have e : n = -(-n) := by omega
  rw [e, Int.neg_tdiv, Int.tdiv_eq_ediv_of_nonneg (by omega)]
  omega
theorem rem_sign (x : Int32) : (0 ≤ x.toInt → 0 ≤ (x - x / 10 * 10).toInt ∧ (x - x / 10 * 10).toInt ≤ 9) ∧ (x.toInt < 0 → -9 ≤ (x - x / 10 * 10).toInt ∧ (x - x / 10 * 10).toInt ≤ 0) := by
  have h1 := x.toInt_lt
  have h2 := x.le_toInt
  have e : (10 : Int32).toInt = 10 := by decide
  obtain ⟨t1, t2⟩ := tdiv10 x.toInt
  have hb : -214748365 ≤ x.toInt.tdiv 10 ∧ x.toInt.tdiv 10 ≤ 214748365 := by
    by_cases h : 0 ≤ x.toInt
    · rw [t1 h]; omega
    · rw [t2 (by omega)]; omega
  have hq : (x / 10).toInt = x.toInt.tdiv 10 := by
    rw [Int32.toInt_div, e, Int.bmod_eq_of_le (by omega) (by omega)]
  have hr : -9 ≤ x.toInt - x.toInt.tdiv 10 * 10 ∧ x.toInt - x.toInt.tdiv 10 * 10 ≤ 9 ∧ (0 ≤ x.toInt → 0 ≤ x.toInt - x.toInt.tdiv 10 * 10) ∧ (x.toInt < 0 → x.toInt - x.toInt.tdiv 10 * 10 ≤ 0) := by
    by_cases h : 0 ≤ x.toInt
    · rw [t1 h]; omega
    · rw [t2 (by omega)]; omega
  have hm : (x / 10 * 10).toInt = x.toInt.tdiv 10 * 10 := by
    rw [Int32.toInt_mul, hq, e, Int.bmod_eq_of_le (by omega) (by omega)]
  have hs : (x - x / 10 * 10).toInt = x.toInt - x.toInt.tdiv 10 * 10 := by
    rw [Int32.toInt_sub, hm, Int.bmod_eq_of_le (by omega) (by omega)]
  rw [hs]
  omega
theorem cI_toInt (z : Int32) : (cI' z : Int) = z.toInt + 2147483648 := by
  unfold cI'
  have := z.le_toInt
  omega
/-- floorMod by 10 -/
theorem fm_ok {GI : PH → Prop} : CtH GI 82 ([(0, 0, 4294967295), (0, 2147483658, 2147483658)], [some (0, 2147483648, 2147483657)], 0, 0) := by
  intro d ph as hd hW hGI hf
  match as, hf with
  | [x0, y0], ⟨⟨x, hx, _, _⟩, ⟨y, hy, y1, y2⟩, _⟩ =>
    subst hx
    subst hy
    have hy10 : y = 10 := by
      have e : cI' y = oZ + 10 := by unfold oZ; omega
      rw [← oI_cI y, e]
      decide
    subst hy10
    have hz : ZC d 82 [.int x, .int 10] ph (fun v ph' => ph' = ph ∧ fitO ph.length (some (0, 2147483648, 2147483657)) v) := by
      refine ZC.of (lv := [some (.int x), some (.int 10)]) (by decide) (fun i v hv => ?_) ?_
      · match i, hv with
        | 0, hv => cases hv; rfl
        | 1, hv => cases hv; rfl
        | i + 2, hv => simp at hv
      · refine zr_iload (by decide) rw_82_0 rfl ?_
        refine zr_iload (by decide) rw_82_1 rfl ?_
        refine zr_irem (by decide) rw_82_2 (by decide) ?_
        refine zr_istore (by decide) rw_82_3 rfl ?_
        refine zr_iload (by decide) rw_82_4 rfl ?_
        refine zr_iload (by decide) rw_82_5 rfl ?_
        refine zr_ixor (by decide) rw_82_6 ?_
        refine zr_if_ge (by decide) rw_82_7 ?_
        obtain ⟨s1, s2⟩ := rem_sign x
        have s3 := cI_toInt (x - x / 10 * 10)
        by_cases h : 0 ≤ x
        · rw [decide_eq_true ((xor_sign x).mpr h)]
          have hx0 : 0 ≤ x.toInt := Int32.le_iff_toInt_le.mp h
          have s1 := s1 hx0
          refine zr_iload (j := 14) (by decide) rw_82_14 rfl ?_
          refine zr_ireturn (by decide) rw_82_15 ⟨rfl, _, rfl, ?_, ?_⟩
          · omega
          · omega
        · rw [decide_eq_false (fun z => h ((xor_sign x).mp z))]
          have hx0 : x.toInt < 0 := by
            have := mt Int32.le_iff_toInt_le.mpr h
            have e0 : (0 : Int32).toInt = 0 := rfl
            omega
          have s2 := s2 hx0
          refine zr_iload (j := 8) (by decide) rw_82_8 rfl ?_
          refine zr_if_eq (by decide) rw_82_9 ?_
          by_cases h0 : x - x / 10 * 10 = 0
          · rw [decide_eq_true h0]
            have e0 : (x - x / 10 * 10).toInt = 0 := by rw [h0]; rfl
            refine zr_iload (j := 14) (by decide) rw_82_14 rfl ?_
            refine zr_ireturn (by decide) rw_82_15 ⟨rfl, _, rfl, ?_, ?_⟩
            · omega
            · omega
          · rw [decide_eq_false h0]
            have hne : (x - x / 10 * 10).toInt ≠ 0 := fun z => h0 (Int32.toInt.inj z)
            refine zr_iload (j := 10) (by decide) rw_82_10 rfl ?_
            refine zr_iload (by decide) rw_82_11 rfl ?_
            refine zr_iadd (by decide) rw_82_12 ?_
            have hadd : (x - x / 10 * 10 + 10).toInt = (x - x / 10 * 10).toInt + 10 := by
              have e : (10 : Int32).toInt = 10 := by decide
              rw [Int32.toInt_add, e, Int.bmod_eq_of_le (by omega) (by omega)]
            have s4 := cI_toInt (x - x / 10 * 10 + 10)
            refine zr_ireturn (by decide) rw_82_13 ⟨rfl, _, rfl, ?_, ?_⟩
            · omega
            · omega
    obtain ⟨m, v, ph', nc, ns, r1, rfl, r2⟩ := hz
    exact ⟨m, v, ph', nc, ns, r1, hW, hGI, Fr.rfl' _ _, _, List.mem_cons_self, r2⟩

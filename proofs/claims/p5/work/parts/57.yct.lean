/-! ===== by program (wip/gen/gen5.py): the contracts of the class hold ===== -/
theorem ckL_ok {j a n : Nat} {t : LT} (h : ckL j a n = true) (ht : lpT[j]? = some t) : atB ((codeOf (lt_no t / 8)).drop (lt_j t + 1)) (lt_pc t) = true ∧ ∀ c1 c2, a ≤ c1 → c1 < a + n → c2 ≤ lt_N2 t → chkL (lt_no t / 8) (ctOf (lt_no t / 8)).2.2.2 (ctOf (lt_no t / 8)).2.2.1 (ctOf (lt_no t / 8)).2.1 t c1 c2 = true := by
  unfold ckL at h
  rw [ht] at h
  dsimp only at h
  rw [Bool.and_eq_true] at h
  refine ⟨h.1, fun c1 c2 h1 h2 h3 => ?_⟩
  exact List.all_eq_true.mp (List.all_eq_true.mp h.2 c1 (List.mem_range'_1.mpr ⟨h1, h2⟩)) c2 (List.mem_range.mpr (by omega))
def LQ (t : LT) : Prop := atB ((codeOf (lt_no t / 8)).drop (lt_j t + 1)) (lt_pc t) = true ∧ ∀ c1 c2, c1 ≤ lt_N1 t → c2 ≤ lt_N2 t → chkL (lt_no t / 8) (ctOf (lt_no t / 8)).2.2.2 (ctOf (lt_no t / 8)).2.2.1 (ctOf (lt_no t / 8)).2.1 t c1 c2 = true
theorem lq_0 {t : LT} (ht : lpT[0]? = some t) : LQ t := by
  have hN : lt_N1 t = 10 := by
    have h : (lpT[0]?).map lt_N1 = some 10 := by decide +kernel
    rw [ht] at h
    exact Option.some.inj h
  refine ⟨(ckL_ok kL_0_0 ht).1, fun c1 c2 h1 h2 => ?_⟩
  rw [hN] at h1
  by_cases c0 : 0 ≤ c1 ∧ c1 < 0 + 11
  · exact (ckL_ok kL_0_0 ht).2 c1 c2 c0.1 c0.2 h2
  exfalso
  omega
theorem lq_1 {t : LT} (ht : lpT[1]? = some t) : LQ t := by
  have hN : lt_N1 t = 10 := by
    have h : (lpT[1]?).map lt_N1 = some 10 := by decide +kernel
    rw [ht] at h
    exact Option.some.inj h
  refine ⟨(ckL_ok kL_1_0 ht).1, fun c1 c2 h1 h2 => ?_⟩
  rw [hN] at h1
  by_cases c0 : 0 ≤ c1 ∧ c1 < 0 + 11
  · exact (ckL_ok kL_1_0 ht).2 c1 c2 c0.1 c0.2 h2
  exfalso
  omega
theorem lq_2 {t : LT} (ht : lpT[2]? = some t) : LQ t := by
  have hN : lt_N1 t = 9 := by
    have h : (lpT[2]?).map lt_N1 = some 9 := by decide +kernel
    rw [ht] at h
    exact Option.some.inj h
  refine ⟨(ckL_ok kL_2_0 ht).1, fun c1 c2 h1 h2 => ?_⟩
  rw [hN] at h1
  by_cases c0 : 0 ≤ c1 ∧ c1 < 0 + 4
  · exact (ckL_ok kL_2_0 ht).2 c1 c2 c0.1 c0.2 h2
  by_cases c4 : 4 ≤ c1 ∧ c1 < 4 + 4
  · exact (ckL_ok kL_2_4 ht).2 c1 c2 c4.1 c4.2 h2
  by_cases c8 : 8 ≤ c1 ∧ c1 < 8 + 2
  · exact (ckL_ok kL_2_8 ht).2 c1 c2 c8.1 c8.2 h2
  exfalso
  omega
theorem lq_3 {t : LT} (ht : lpT[3]? = some t) : LQ t := by
  have hN : lt_N1 t = 10 := by
    have h : (lpT[3]?).map lt_N1 = some 10 := by decide +kernel
    rw [ht] at h
    exact Option.some.inj h
  refine ⟨(ckL_ok kL_3_0 ht).1, fun c1 c2 h1 h2 => ?_⟩
  rw [hN] at h1
  by_cases c0 : 0 ≤ c1 ∧ c1 < 0 + 11
  · exact (ckL_ok kL_3_0 ht).2 c1 c2 c0.1 c0.2 h2
  exfalso
  omega
theorem lq_4 {t : LT} (ht : lpT[4]? = some t) : LQ t := by
  have hN : lt_N1 t = 10 := by
    have h : (lpT[4]?).map lt_N1 = some 10 := by decide +kernel
    rw [ht] at h
    exact Option.some.inj h
  refine ⟨(ckL_ok kL_4_0 ht).1, fun c1 c2 h1 h2 => ?_⟩
  rw [hN] at h1
  by_cases c0 : 0 ≤ c1 ∧ c1 < 0 + 11
  · exact (ckL_ok kL_4_0 ht).2 c1 c2 c0.1 c0.2 h2
  exfalso
  omega
theorem lq_5 {t : LT} (ht : lpT[5]? = some t) : LQ t := by
  have hN : lt_N1 t = 10 := by
    have h : (lpT[5]?).map lt_N1 = some 10 := by decide +kernel
    rw [ht] at h
    exact Option.some.inj h
  refine ⟨(ckL_ok kL_5_0 ht).1, fun c1 c2 h1 h2 => ?_⟩
  rw [hN] at h1
  by_cases c0 : 0 ≤ c1 ∧ c1 < 0 + 11
  · exact (ckL_ok kL_5_0 ht).2 c1 c2 c0.1 c0.2 h2
  exfalso
  omega
theorem lq_6 {t : LT} (ht : lpT[6]? = some t) : LQ t := by
  have hN : lt_N1 t = 10 := by
    have h : (lpT[6]?).map lt_N1 = some 10 := by decide +kernel
    rw [ht] at h
    exact Option.some.inj h
  refine ⟨(ckL_ok kL_6_0 ht).1, fun c1 c2 h1 h2 => ?_⟩
  rw [hN] at h1
  by_cases c0 : 0 ≤ c1 ∧ c1 < 0 + 11
  · exact (ckL_ok kL_6_0 ht).2 c1 c2 c0.1 c0.2 h2
  exfalso
  omega
theorem lq_7 {t : LT} (ht : lpT[7]? = some t) : LQ t := by
  have hN : lt_N1 t = 10 := by
    have h : (lpT[7]?).map lt_N1 = some 10 := by decide +kernel
    rw [ht] at h
    exact Option.some.inj h
  refine ⟨(ckL_ok kL_7_0 ht).1, fun c1 c2 h1 h2 => ?_⟩
  rw [hN] at h1
  by_cases c0 : 0 ≤ c1 ∧ c1 < 0 + 11
  · exact (ckL_ok kL_7_0 ht).2 c1 c2 c0.1 c0.2 h2
  exfalso
  omega
theorem lq_8 {t : LT} (ht : lpT[8]? = some t) : LQ t := by
  have hN : lt_N1 t = 60 := by
    have h : (lpT[8]?).map lt_N1 = some 60 := by decide +kernel
    rw [ht] at h
    exact Option.some.inj h
  refine ⟨(ckL_ok kL_8_0 ht).1, fun c1 c2 h1 h2 => ?_⟩
  rw [hN] at h1
  by_cases c0 : 0 ≤ c1 ∧ c1 < 0 + 11
  · exact (ckL_ok kL_8_0 ht).2 c1 c2 c0.1 c0.2 h2
  by_cases c11 : 11 ≤ c1 ∧ c1 < 11 + 11
  · exact (ckL_ok kL_8_11 ht).2 c1 c2 c11.1 c11.2 h2
  by_cases c22 : 22 ≤ c1 ∧ c1 < 22 + 11
  · exact (ckL_ok kL_8_22 ht).2 c1 c2 c22.1 c22.2 h2
  by_cases c33 : 33 ≤ c1 ∧ c1 < 33 + 11
  · exact (ckL_ok kL_8_33 ht).2 c1 c2 c33.1 c33.2 h2
  by_cases c44 : 44 ≤ c1 ∧ c1 < 44 + 11
  · exact (ckL_ok kL_8_44 ht).2 c1 c2 c44.1 c44.2 h2
  by_cases c55 : 55 ≤ c1 ∧ c1 < 55 + 6
  · exact (ckL_ok kL_8_55 ht).2 c1 c2 c55.1 c55.2 h2
  exfalso
  omega
theorem lq_9 {t : LT} (ht : lpT[9]? = some t) : LQ t := by
  have hN : lt_N1 t = 10 := by
    have h : (lpT[9]?).map lt_N1 = some 10 := by decide +kernel
    rw [ht] at h
    exact Option.some.inj h
  refine ⟨(ckL_ok kL_9_0 ht).1, fun c1 c2 h1 h2 => ?_⟩
  rw [hN] at h1
  by_cases c0 : 0 ≤ c1 ∧ c1 < 0 + 11
  · exact (ckL_ok kL_9_0 ht).2 c1 c2 c0.1 c0.2 h2
  exfalso
  omega
theorem lq_10 {t : LT} (ht : lpT[10]? = some t) : LQ t := by
  have hN : lt_N1 t = 10 := by
    have h : (lpT[10]?).map lt_N1 = some 10 := by decide +kernel
    rw [ht] at h
    exact Option.some.inj h
  refine ⟨(ckL_ok kL_10_0 ht).1, fun c1 c2 h1 h2 => ?_⟩
  rw [hN] at h1
  by_cases c0 : 0 ≤ c1 ∧ c1 < 0 + 11
  · exact (ckL_ok kL_10_0 ht).2 c1 c2 c0.1 c0.2 h2
  exfalso
  omega
theorem lq_11 {t : LT} (ht : lpT[11]? = some t) : LQ t := by
  have hN : lt_N1 t = 10 := by
    have h : (lpT[11]?).map lt_N1 = some 10 := by decide +kernel
    rw [ht] at h
    exact Option.some.inj h
  refine ⟨(ckL_ok kL_11_0 ht).1, fun c1 c2 h1 h2 => ?_⟩
  rw [hN] at h1
  by_cases c0 : 0 ≤ c1 ∧ c1 < 0 + 11
  · exact (ckL_ok kL_11_0 ht).2 c1 c2 c0.1 c0.2 h2
  exfalso
  omega
theorem lq_12 {t : LT} (ht : lpT[12]? = some t) : LQ t := by
  have hN : lt_N1 t = 10 := by
    have h : (lpT[12]?).map lt_N1 = some 10 := by decide +kernel
    rw [ht] at h
    exact Option.some.inj h
  refine ⟨(ckL_ok kL_12_0 ht).1, fun c1 c2 h1 h2 => ?_⟩
  rw [hN] at h1
  by_cases c0 : 0 ≤ c1 ∧ c1 < 0 + 11
  · exact (ckL_ok kL_12_0 ht).2 c1 c2 c0.1 c0.2 h2
  exfalso
  omega
theorem lq_13 {t : LT} (ht : lpT[13]? = some t) : LQ t := by
  have hN : lt_N1 t = 60 := by
    have h : (lpT[13]?).map lt_N1 = some 60 := by decide +kernel
    rw [ht] at h
    exact Option.some.inj h
  refine ⟨(ckL_ok kL_13_0 ht).1, fun c1 c2 h1 h2 => ?_⟩
  rw [hN] at h1
  by_cases c0 : 0 ≤ c1 ∧ c1 < 0 + 11
  · exact (ckL_ok kL_13_0 ht).2 c1 c2 c0.1 c0.2 h2
  by_cases c11 : 11 ≤ c1 ∧ c1 < 11 + 11
  · exact (ckL_ok kL_13_11 ht).2 c1 c2 c11.1 c11.2 h2
  by_cases c22 : 22 ≤ c1 ∧ c1 < 22 + 11
  · exact (ckL_ok kL_13_22 ht).2 c1 c2 c22.1 c22.2 h2
  by_cases c33 : 33 ≤ c1 ∧ c1 < 33 + 11
  · exact (ckL_ok kL_13_33 ht).2 c1 c2 c33.1 c33.2 h2
  by_cases c44 : 44 ≤ c1 ∧ c1 < 44 + 11
  · exact (ckL_ok kL_13_44 ht).2 c1 c2 c44.1 c44.2 h2
  by_cases c55 : 55 ≤ c1 ∧ c1 < 55 + 6
  · exact (ckL_ok kL_13_55 ht).2 c1 c2 c55.1 c55.2 h2
  exfalso
  omega
theorem lq_14 {t : LT} (ht : lpT[14]? = some t) : LQ t := by
  have hN : lt_N1 t = 240 := by
    have h : (lpT[14]?).map lt_N1 = some 240 := by decide +kernel
    rw [ht] at h
    exact Option.some.inj h
  refine ⟨(ckL_ok kL_14_0 ht).1, fun c1 c2 h1 h2 => ?_⟩
  rw [hN] at h1
  by_cases c0 : 0 ≤ c1 ∧ c1 < 0 + 24
  · exact (ckL_ok kL_14_0 ht).2 c1 c2 c0.1 c0.2 h2
  by_cases c24 : 24 ≤ c1 ∧ c1 < 24 + 24
  · exact (ckL_ok kL_14_24 ht).2 c1 c2 c24.1 c24.2 h2
  by_cases c48 : 48 ≤ c1 ∧ c1 < 48 + 24
  · exact (ckL_ok kL_14_48 ht).2 c1 c2 c48.1 c48.2 h2
  by_cases c72 : 72 ≤ c1 ∧ c1 < 72 + 24
  · exact (ckL_ok kL_14_72 ht).2 c1 c2 c72.1 c72.2 h2
  by_cases c96 : 96 ≤ c1 ∧ c1 < 96 + 24
  · exact (ckL_ok kL_14_96 ht).2 c1 c2 c96.1 c96.2 h2
  by_cases c120 : 120 ≤ c1 ∧ c1 < 120 + 24
  · exact (ckL_ok kL_14_120 ht).2 c1 c2 c120.1 c120.2 h2
  by_cases c144 : 144 ≤ c1 ∧ c1 < 144 + 24
  · exact (ckL_ok kL_14_144 ht).2 c1 c2 c144.1 c144.2 h2
  by_cases c168 : 168 ≤ c1 ∧ c1 < 168 + 24
  · exact (ckL_ok kL_14_168 ht).2 c1 c2 c168.1 c168.2 h2
  by_cases c192 : 192 ≤ c1 ∧ c1 < 192 + 24
  · exact (ckL_ok kL_14_192 ht).2 c1 c2 c192.1 c192.2 h2
  by_cases c216 : 216 ≤ c1 ∧ c1 < 216 + 24
  · exact (ckL_ok kL_14_216 ht).2 c1 c2 c216.1 c216.2 h2
  by_cases c240 : 240 ≤ c1 ∧ c1 < 240 + 1
  · exact (ckL_ok kL_14_240 ht).2 c1 c2 c240.1 c240.2 h2
  exfalso
  omega
theorem lq_15 {t : LT} (ht : lpT[15]? = some t) : LQ t := by
  have hN : lt_N1 t = 64 := by
    have h : (lpT[15]?).map lt_N1 = some 64 := by decide +kernel
    rw [ht] at h
    exact Option.some.inj h
  refine ⟨(ckL_ok kL_15_0 ht).1, fun c1 c2 h1 h2 => ?_⟩
  rw [hN] at h1
  by_cases c0 : 0 ≤ c1 ∧ c1 < 0 + 11
  · exact (ckL_ok kL_15_0 ht).2 c1 c2 c0.1 c0.2 h2
  by_cases c11 : 11 ≤ c1 ∧ c1 < 11 + 11
  · exact (ckL_ok kL_15_11 ht).2 c1 c2 c11.1 c11.2 h2
  by_cases c22 : 22 ≤ c1 ∧ c1 < 22 + 11
  · exact (ckL_ok kL_15_22 ht).2 c1 c2 c22.1 c22.2 h2
  by_cases c33 : 33 ≤ c1 ∧ c1 < 33 + 11
  · exact (ckL_ok kL_15_33 ht).2 c1 c2 c33.1 c33.2 h2
  by_cases c44 : 44 ≤ c1 ∧ c1 < 44 + 11
  · exact (ckL_ok kL_15_44 ht).2 c1 c2 c44.1 c44.2 h2
  by_cases c55 : 55 ≤ c1 ∧ c1 < 55 + 10
  · exact (ckL_ok kL_15_55 ht).2 c1 c2 c55.1 c55.2 h2
  exfalso
  omega
theorem lq_16 {t : LT} (ht : lpT[16]? = some t) : LQ t := by
  have hN : lt_N1 t = 10 := by
    have h : (lpT[16]?).map lt_N1 = some 10 := by decide +kernel
    rw [ht] at h
    exact Option.some.inj h
  refine ⟨(ckL_ok kL_16_0 ht).1, fun c1 c2 h1 h2 => ?_⟩
  rw [hN] at h1
  by_cases c0 : 0 ≤ c1 ∧ c1 < 0 + 11
  · exact (ckL_ok kL_16_0 ht).2 c1 c2 c0.1 c0.2 h2
  exfalso
  omega
theorem lq_17 {t : LT} (ht : lpT[17]? = some t) : LQ t := by
  have hN : lt_N1 t = 10 := by
    have h : (lpT[17]?).map lt_N1 = some 10 := by decide +kernel
    rw [ht] at h
    exact Option.some.inj h
  refine ⟨(ckL_ok kL_17_0 ht).1, fun c1 c2 h1 h2 => ?_⟩
  rw [hN] at h1
  by_cases c0 : 0 ≤ c1 ∧ c1 < 0 + 11
  · exact (ckL_ok kL_17_0 ht).2 c1 c2 c0.1 c0.2 h2
  exfalso
  omega
theorem lq_18 {t : LT} (ht : lpT[18]? = some t) : LQ t := by
  have hN : lt_N1 t = 201 := by
    have h : (lpT[18]?).map lt_N1 = some 201 := by decide +kernel
    rw [ht] at h
    exact Option.some.inj h
  refine ⟨(ckL_ok kL_18_0 ht).1, fun c1 c2 h1 h2 => ?_⟩
  rw [hN] at h1
  by_cases c0 : 0 ≤ c1 ∧ c1 < 0 + 40
  · exact (ckL_ok kL_18_0 ht).2 c1 c2 c0.1 c0.2 h2
  by_cases c40 : 40 ≤ c1 ∧ c1 < 40 + 40
  · exact (ckL_ok kL_18_40 ht).2 c1 c2 c40.1 c40.2 h2
  by_cases c80 : 80 ≤ c1 ∧ c1 < 80 + 40
  · exact (ckL_ok kL_18_80 ht).2 c1 c2 c80.1 c80.2 h2
  by_cases c120 : 120 ≤ c1 ∧ c1 < 120 + 40
  · exact (ckL_ok kL_18_120 ht).2 c1 c2 c120.1 c120.2 h2
  by_cases c160 : 160 ≤ c1 ∧ c1 < 160 + 40
  · exact (ckL_ok kL_18_160 ht).2 c1 c2 c160.1 c160.2 h2
  by_cases c200 : 200 ≤ c1 ∧ c1 < 200 + 2
  · exact (ckL_ok kL_18_200 ht).2 c1 c2 c200.1 c200.2 h2
  exfalso
  omega
theorem lq_19 {t : LT} (ht : lpT[19]? = some t) : LQ t := by
  have hN : lt_N1 t = 200 := by
    have h : (lpT[19]?).map lt_N1 = some 200 := by decide +kernel
    rw [ht] at h
    exact Option.some.inj h
  refine ⟨(ckL_ok kL_19_0 ht).1, fun c1 c2 h1 h2 => ?_⟩
  rw [hN] at h1
  by_cases c0 : 0 ≤ c1 ∧ c1 < 0 + 6
  · exact (ckL_ok kL_19_0 ht).2 c1 c2 c0.1 c0.2 h2
  by_cases c6 : 6 ≤ c1 ∧ c1 < 6 + 6
  · exact (ckL_ok kL_19_6 ht).2 c1 c2 c6.1 c6.2 h2
  by_cases c12 : 12 ≤ c1 ∧ c1 < 12 + 6
  · exact (ckL_ok kL_19_12 ht).2 c1 c2 c12.1 c12.2 h2
  by_cases c18 : 18 ≤ c1 ∧ c1 < 18 + 6
  · exact (ckL_ok kL_19_18 ht).2 c1 c2 c18.1 c18.2 h2
  by_cases c24 : 24 ≤ c1 ∧ c1 < 24 + 6
  · exact (ckL_ok kL_19_24 ht).2 c1 c2 c24.1 c24.2 h2
  by_cases c30 : 30 ≤ c1 ∧ c1 < 30 + 6
  · exact (ckL_ok kL_19_30 ht).2 c1 c2 c30.1 c30.2 h2
  by_cases c36 : 36 ≤ c1 ∧ c1 < 36 + 6
  · exact (ckL_ok kL_19_36 ht).2 c1 c2 c36.1 c36.2 h2
  by_cases c42 : 42 ≤ c1 ∧ c1 < 42 + 6
  · exact (ckL_ok kL_19_42 ht).2 c1 c2 c42.1 c42.2 h2
  by_cases c48 : 48 ≤ c1 ∧ c1 < 48 + 6
  · exact (ckL_ok kL_19_48 ht).2 c1 c2 c48.1 c48.2 h2
  by_cases c54 : 54 ≤ c1 ∧ c1 < 54 + 6
  · exact (ckL_ok kL_19_54 ht).2 c1 c2 c54.1 c54.2 h2
  by_cases c60 : 60 ≤ c1 ∧ c1 < 60 + 6
  · exact (ckL_ok kL_19_60 ht).2 c1 c2 c60.1 c60.2 h2
  by_cases c66 : 66 ≤ c1 ∧ c1 < 66 + 6
  · exact (ckL_ok kL_19_66 ht).2 c1 c2 c66.1 c66.2 h2
  by_cases c72 : 72 ≤ c1 ∧ c1 < 72 + 6
  · exact (ckL_ok kL_19_72 ht).2 c1 c2 c72.1 c72.2 h2
  by_cases c78 : 78 ≤ c1 ∧ c1 < 78 + 6
  · exact (ckL_ok kL_19_78 ht).2 c1 c2 c78.1 c78.2 h2
  by_cases c84 : 84 ≤ c1 ∧ c1 < 84 + 6
  · exact (ckL_ok kL_19_84 ht).2 c1 c2 c84.1 c84.2 h2
  by_cases c90 : 90 ≤ c1 ∧ c1 < 90 + 6
  · exact (ckL_ok kL_19_90 ht).2 c1 c2 c90.1 c90.2 h2
  by_cases c96 : 96 ≤ c1 ∧ c1 < 96 + 6
  · exact (ckL_ok kL_19_96 ht).2 c1 c2 c96.1 c96.2 h2
  by_cases c102 : 102 ≤ c1 ∧ c1 < 102 + 6
  · exact (ckL_ok kL_19_102 ht).2 c1 c2 c102.1 c102.2 h2
  by_cases c108 : 108 ≤ c1 ∧ c1 < 108 + 6
  · exact (ckL_ok kL_19_108 ht).2 c1 c2 c108.1 c108.2 h2
  by_cases c114 : 114 ≤ c1 ∧ c1 < 114 + 6
  · exact (ckL_ok kL_19_114 ht).2 c1 c2 c114.1 c114.2 h2
  by_cases c120 : 120 ≤ c1 ∧ c1 < 120 + 6
  · exact (ckL_ok kL_19_120 ht).2 c1 c2 c120.1 c120.2 h2
  by_cases c126 : 126 ≤ c1 ∧ c1 < 126 + 6
  · exact (ckL_ok kL_19_126 ht).2 c1 c2 c126.1 c126.2 h2
  by_cases c132 : 132 ≤ c1 ∧ c1 < 132 + 6
  · exact (ckL_ok kL_19_132 ht).2 c1 c2 c132.1 c132.2 h2
  by_cases c138 : 138 ≤ c1 ∧ c1 < 138 + 6
  · exact (ckL_ok kL_19_138 ht).2 c1 c2 c138.1 c138.2 h2
  by_cases c144 : 144 ≤ c1 ∧ c1 < 144 + 6
  · exact (ckL_ok kL_19_144 ht).2 c1 c2 c144.1 c144.2 h2
  by_cases c150 : 150 ≤ c1 ∧ c1 < 150 + 6
  · exact (ckL_ok kL_19_150 ht).2 c1 c2 c150.1 c150.2 h2
  by_cases c156 : 156 ≤ c1 ∧ c1 < 156 + 6
  · exact (ckL_ok kL_19_156 ht).2 c1 c2 c156.1 c156.2 h2
  by_cases c162 : 162 ≤ c1 ∧ c1 < 162 + 6
  · exact (ckL_ok kL_19_162 ht).2 c1 c2 c162.1 c162.2 h2
  by_cases c168 : 168 ≤ c1 ∧ c1 < 168 + 6
  · exact (ckL_ok kL_19_168 ht).2 c1 c2 c168.1 c168.2 h2
  by_cases c174 : 174 ≤ c1 ∧ c1 < 174 + 6
  · exact (ckL_ok kL_19_174 ht).2 c1 c2 c174.1 c174.2 h2
  by_cases c180 : 180 ≤ c1 ∧ c1 < 180 + 6
  · exact (ckL_ok kL_19_180 ht).2 c1 c2 c180.1 c180.2 h2
  by_cases c186 : 186 ≤ c1 ∧ c1 < 186 + 6
  · exact (ckL_ok kL_19_186 ht).2 c1 c2 c186.1 c186.2 h2
  by_cases c192 : 192 ≤ c1 ∧ c1 < 192 + 6
  · exact (ckL_ok kL_19_192 ht).2 c1 c2 c192.1 c192.2 h2
  by_cases c198 : 198 ≤ c1 ∧ c1 < 198 + 3
  · exact (ckL_ok kL_19_198 ht).2 c1 c2 c198.1 c198.2 h2
  exfalso
  omega
theorem lq_20 {t : LT} (ht : lpT[20]? = some t) : LQ t := by
  have hN : lt_N1 t = 8 := by
    have h : (lpT[20]?).map lt_N1 = some 8 := by decide +kernel
    rw [ht] at h
    exact Option.some.inj h
  refine ⟨(ckL_ok kL_20_0 ht).1, fun c1 c2 h1 h2 => ?_⟩
  rw [hN] at h1
  by_cases c0 : 0 ≤ c1 ∧ c1 < 0 + 9
  · exact (ckL_ok kL_20_0 ht).2 c1 c2 c0.1 c0.2 h2
  exfalso
  omega
theorem lq_21 {t : LT} (ht : lpT[21]? = some t) : LQ t := by
  have hN : lt_N1 t = 10 := by
    have h : (lpT[21]?).map lt_N1 = some 10 := by decide +kernel
    rw [ht] at h
    exact Option.some.inj h
  refine ⟨(ckL_ok kL_21_0 ht).1, fun c1 c2 h1 h2 => ?_⟩
  rw [hN] at h1
  by_cases c0 : 0 ≤ c1 ∧ c1 < 0 + 11
  · exact (ckL_ok kL_21_0 ht).2 c1 c2 c0.1 c0.2 h2
  exfalso
  omega
theorem lq_22 {t : LT} (ht : lpT[22]? = some t) : LQ t := by
  have hN : lt_N1 t = 10 := by
    have h : (lpT[22]?).map lt_N1 = some 10 := by decide +kernel
    rw [ht] at h
    exact Option.some.inj h
  refine ⟨(ckL_ok kL_22_0 ht).1, fun c1 c2 h1 h2 => ?_⟩
  rw [hN] at h1
  by_cases c0 : 0 ≤ c1 ∧ c1 < 0 + 11
  · exact (ckL_ok kL_22_0 ht).2 c1 c2 c0.1 c0.2 h2
  exfalso
  omega
theorem lq_23 {t : LT} (ht : lpT[23]? = some t) : LQ t := by
  have hN : lt_N1 t = 10 := by
    have h : (lpT[23]?).map lt_N1 = some 10 := by decide +kernel
    rw [ht] at h
    exact Option.some.inj h
  refine ⟨(ckL_ok kL_23_0 ht).1, fun c1 c2 h1 h2 => ?_⟩
  rw [hN] at h1
  by_cases c0 : 0 ≤ c1 ∧ c1 < 0 + 11
  · exact (ckL_ok kL_23_0 ht).2 c1 c2 c0.1 c0.2 h2
  exfalso
  omega
theorem lq_24 {t : LT} (ht : lpT[24]? = some t) : LQ t := by
  have hN : lt_N1 t = 10 := by
    have h : (lpT[24]?).map lt_N1 = some 10 := by decide +kernel
    rw [ht] at h
    exact Option.some.inj h
  refine ⟨(ckL_ok kL_24_0 ht).1, fun c1 c2 h1 h2 => ?_⟩
  rw [hN] at h1
  by_cases c0 : 0 ≤ c1 ∧ c1 < 0 + 11
  · exact (ckL_ok kL_24_0 ht).2 c1 c2 c0.1 c0.2 h2
  exfalso
  omega
theorem lq_25 {t : LT} (ht : lpT[25]? = some t) : LQ t := by
  have hN : lt_N1 t = 10 := by
    have h : (lpT[25]?).map lt_N1 = some 10 := by decide +kernel
    rw [ht] at h
    exact Option.some.inj h
  refine ⟨(ckL_ok kL_25_0 ht).1, fun c1 c2 h1 h2 => ?_⟩
  rw [hN] at h1
  by_cases c0 : 0 ≤ c1 ∧ c1 < 0 + 11
  · exact (ckL_ok kL_25_0 ht).2 c1 c2 c0.1 c0.2 h2
  exfalso
  omega
theorem lq_26 {t : LT} (ht : lpT[26]? = some t) : LQ t := by
  have hN : lt_N1 t = 10 := by
    have h : (lpT[26]?).map lt_N1 = some 10 := by decide +kernel
    rw [ht] at h
    exact Option.some.inj h
  refine ⟨(ckL_ok kL_26_0 ht).1, fun c1 c2 h1 h2 => ?_⟩
  rw [hN] at h1
  by_cases c0 : 0 ≤ c1 ∧ c1 < 0 + 11
  · exact (ckL_ok kL_26_0 ht).2 c1 c2 c0.1 c0.2 h2
  exfalso
  omega
theorem lq_27 {t : LT} (ht : lpT[27]? = some t) : LQ t := by
  have hN : lt_N1 t = 10 := by
    have h : (lpT[27]?).map lt_N1 = some 10 := by decide +kernel
    rw [ht] at h
    exact Option.some.inj h
  refine ⟨(ckL_ok kL_27_0 ht).1, fun c1 c2 h1 h2 => ?_⟩
  rw [hN] at h1
  by_cases c0 : 0 ≤ c1 ∧ c1 < 0 + 11
  · exact (ckL_ok kL_27_0 ht).2 c1 c2 c0.1 c0.2 h2
  exfalso
  omega
theorem lq_28 {t : LT} (ht : lpT[28]? = some t) : LQ t := by
  have hN : lt_N1 t = 10 := by
    have h : (lpT[28]?).map lt_N1 = some 10 := by decide +kernel
    rw [ht] at h
    exact Option.some.inj h
  refine ⟨(ckL_ok kL_28_0 ht).1, fun c1 c2 h1 h2 => ?_⟩
  rw [hN] at h1
  by_cases c0 : 0 ≤ c1 ∧ c1 < 0 + 11
  · exact (ckL_ok kL_28_0 ht).2 c1 c2 c0.1 c0.2 h2
  exfalso
  omega
theorem lq_29 {t : LT} (ht : lpT[29]? = some t) : LQ t := by
  have hN : lt_N1 t = 5 := by
    have h : (lpT[29]?).map lt_N1 = some 5 := by decide +kernel
    rw [ht] at h
    exact Option.some.inj h
  refine ⟨(ckL_ok kL_29_0 ht).1, fun c1 c2 h1 h2 => ?_⟩
  rw [hN] at h1
  by_cases c0 : 0 ≤ c1 ∧ c1 < 0 + 6
  · exact (ckL_ok kL_29_0 ht).2 c1 c2 c0.1 c0.2 h2
  exfalso
  omega
theorem lq_30 {t : LT} (ht : lpT[30]? = some t) : LQ t := by
  have hN : lt_N1 t = 13 := by
    have h : (lpT[30]?).map lt_N1 = some 13 := by decide +kernel
    rw [ht] at h
    exact Option.some.inj h
  refine ⟨(ckL_ok kL_30_0 ht).1, fun c1 c2 h1 h2 => ?_⟩
  rw [hN] at h1
  by_cases c0 : 0 ≤ c1 ∧ c1 < 0 + 11
  · exact (ckL_ok kL_30_0 ht).2 c1 c2 c0.1 c0.2 h2
  by_cases c11 : 11 ≤ c1 ∧ c1 < 11 + 3
  · exact (ckL_ok kL_30_11 ht).2 c1 c2 c11.1 c11.2 h2
  exfalso
  omega
theorem lq_31 {t : LT} (ht : lpT[31]? = some t) : LQ t := by
  have hN : lt_N1 t = 10 := by
    have h : (lpT[31]?).map lt_N1 = some 10 := by decide +kernel
    rw [ht] at h
    exact Option.some.inj h
  refine ⟨(ckL_ok kL_31_0 ht).1, fun c1 c2 h1 h2 => ?_⟩
  rw [hN] at h1
  by_cases c0 : 0 ≤ c1 ∧ c1 < 0 + 11
  · exact (ckL_ok kL_31_0 ht).2 c1 c2 c0.1 c0.2 h2
  exfalso
  omega
theorem lq_32 {t : LT} (ht : lpT[32]? = some t) : LQ t := by
  have hN : lt_N1 t = 60 := by
    have h : (lpT[32]?).map lt_N1 = some 60 := by decide +kernel
    rw [ht] at h
    exact Option.some.inj h
  refine ⟨(ckL_ok kL_32_0 ht).1, fun c1 c2 h1 h2 => ?_⟩
  rw [hN] at h1
  by_cases c0 : 0 ≤ c1 ∧ c1 < 0 + 11
  · exact (ckL_ok kL_32_0 ht).2 c1 c2 c0.1 c0.2 h2
  by_cases c11 : 11 ≤ c1 ∧ c1 < 11 + 11
  · exact (ckL_ok kL_32_11 ht).2 c1 c2 c11.1 c11.2 h2
  by_cases c22 : 22 ≤ c1 ∧ c1 < 22 + 11
  · exact (ckL_ok kL_32_22 ht).2 c1 c2 c22.1 c22.2 h2
  by_cases c33 : 33 ≤ c1 ∧ c1 < 33 + 11
  · exact (ckL_ok kL_32_33 ht).2 c1 c2 c33.1 c33.2 h2
  by_cases c44 : 44 ≤ c1 ∧ c1 < 44 + 11
  · exact (ckL_ok kL_32_44 ht).2 c1 c2 c44.1 c44.2 h2
  by_cases c55 : 55 ≤ c1 ∧ c1 < 55 + 6
  · exact (ckL_ok kL_32_55 ht).2 c1 c2 c55.1 c55.2 h2
  exfalso
  omega
theorem lq_33 {t : LT} (ht : lpT[33]? = some t) : LQ t := by
  have hN : lt_N1 t = 17 := by
    have h : (lpT[33]?).map lt_N1 = some 17 := by decide +kernel
    rw [ht] at h
    exact Option.some.inj h
  refine ⟨(ckL_ok kL_33_0 ht).1, fun c1 c2 h1 h2 => ?_⟩
  rw [hN] at h1
  by_cases c0 : 0 ≤ c1 ∧ c1 < 0 + 11
  · exact (ckL_ok kL_33_0 ht).2 c1 c2 c0.1 c0.2 h2
  by_cases c11 : 11 ≤ c1 ∧ c1 < 11 + 7
  · exact (ckL_ok kL_33_11 ht).2 c1 c2 c11.1 c11.2 h2
  exfalso
  omega
theorem lq_34 {t : LT} (ht : lpT[34]? = some t) : LQ t := by
  have hN : lt_N1 t = 6 := by
    have h : (lpT[34]?).map lt_N1 = some 6 := by decide +kernel
    rw [ht] at h
    exact Option.some.inj h
  refine ⟨(ckL_ok kL_34_0 ht).1, fun c1 c2 h1 h2 => ?_⟩
  rw [hN] at h1
  by_cases c0 : 0 ≤ c1 ∧ c1 < 0 + 7
  · exact (ckL_ok kL_34_0 ht).2 c1 c2 c0.1 c0.2 h2
  exfalso
  omega
theorem lq_35 {t : LT} (ht : lpT[35]? = some t) : LQ t := by
  have hN : lt_N1 t = 64 := by
    have h : (lpT[35]?).map lt_N1 = some 64 := by decide +kernel
    rw [ht] at h
    exact Option.some.inj h
  refine ⟨(ckL_ok kL_35_0 ht).1, fun c1 c2 h1 h2 => ?_⟩
  rw [hN] at h1
  by_cases c0 : 0 ≤ c1 ∧ c1 < 0 + 11
  · exact (ckL_ok kL_35_0 ht).2 c1 c2 c0.1 c0.2 h2
  by_cases c11 : 11 ≤ c1 ∧ c1 < 11 + 11
  · exact (ckL_ok kL_35_11 ht).2 c1 c2 c11.1 c11.2 h2
  by_cases c22 : 22 ≤ c1 ∧ c1 < 22 + 11
  · exact (ckL_ok kL_35_22 ht).2 c1 c2 c22.1 c22.2 h2
  by_cases c33 : 33 ≤ c1 ∧ c1 < 33 + 11
  · exact (ckL_ok kL_35_33 ht).2 c1 c2 c33.1 c33.2 h2
  by_cases c44 : 44 ≤ c1 ∧ c1 < 44 + 11
  · exact (ckL_ok kL_35_44 ht).2 c1 c2 c44.1 c44.2 h2
  by_cases c55 : 55 ≤ c1 ∧ c1 < 55 + 10
  · exact (ckL_ok kL_35_55 ht).2 c1 c2 c55.1 c55.2 h2
  exfalso
  omega
theorem lq_36 {t : LT} (ht : lpT[36]? = some t) : LQ t := by
  have hN : lt_N1 t = 10 := by
    have h : (lpT[36]?).map lt_N1 = some 10 := by decide +kernel
    rw [ht] at h
    exact Option.some.inj h
  refine ⟨(ckL_ok kL_36_0 ht).1, fun c1 c2 h1 h2 => ?_⟩
  rw [hN] at h1
  by_cases c0 : 0 ≤ c1 ∧ c1 < 0 + 11
  · exact (ckL_ok kL_36_0 ht).2 c1 c2 c0.1 c0.2 h2
  exfalso
  omega
theorem lq_37 {t : LT} (ht : lpT[37]? = some t) : LQ t := by
  have hN : lt_N1 t = 200 := by
    have h : (lpT[37]?).map lt_N1 = some 200 := by decide +kernel
    rw [ht] at h
    exact Option.some.inj h
  refine ⟨(ckL_ok kL_37_0 ht).1, fun c1 c2 h1 h2 => ?_⟩
  rw [hN] at h1
  by_cases c0 : 0 ≤ c1 ∧ c1 < 0 + 50
  · exact (ckL_ok kL_37_0 ht).2 c1 c2 c0.1 c0.2 h2
  by_cases c50 : 50 ≤ c1 ∧ c1 < 50 + 50
  · exact (ckL_ok kL_37_50 ht).2 c1 c2 c50.1 c50.2 h2
  by_cases c100 : 100 ≤ c1 ∧ c1 < 100 + 50
  · exact (ckL_ok kL_37_100 ht).2 c1 c2 c100.1 c100.2 h2
  by_cases c150 : 150 ≤ c1 ∧ c1 < 150 + 50
  · exact (ckL_ok kL_37_150 ht).2 c1 c2 c150.1 c150.2 h2
  by_cases c200 : 200 ≤ c1 ∧ c1 < 200 + 1
  · exact (ckL_ok kL_37_200 ht).2 c1 c2 c200.1 c200.2 h2
  exfalso
  omega
theorem lq_38 {t : LT} (ht : lpT[38]? = some t) : LQ t := by
  have hN : lt_N1 t = 200 := by
    have h : (lpT[38]?).map lt_N1 = some 200 := by decide +kernel
    rw [ht] at h
    exact Option.some.inj h
  refine ⟨(ckL_ok kL_38_0 ht).1, fun c1 c2 h1 h2 => ?_⟩
  rw [hN] at h1
  by_cases c0 : 0 ≤ c1 ∧ c1 < 0 + 50
  · exact (ckL_ok kL_38_0 ht).2 c1 c2 c0.1 c0.2 h2
  by_cases c50 : 50 ≤ c1 ∧ c1 < 50 + 50
  · exact (ckL_ok kL_38_50 ht).2 c1 c2 c50.1 c50.2 h2
  by_cases c100 : 100 ≤ c1 ∧ c1 < 100 + 50
  · exact (ckL_ok kL_38_100 ht).2 c1 c2 c100.1 c100.2 h2
  by_cases c150 : 150 ≤ c1 ∧ c1 < 150 + 50
  · exact (ckL_ok kL_38_150 ht).2 c1 c2 c150.1 c150.2 h2
  by_cases c200 : 200 ≤ c1 ∧ c1 < 200 + 1
  · exact (ckL_ok kL_38_200 ht).2 c1 c2 c200.1 c200.2 h2
  exfalso
  omega
theorem lq_39 {t : LT} (ht : lpT[39]? = some t) : LQ t := by
  have hN : lt_N1 t = 200 := by
    have h : (lpT[39]?).map lt_N1 = some 200 := by decide +kernel
    rw [ht] at h
    exact Option.some.inj h
  refine ⟨(ckL_ok kL_39_0 ht).1, fun c1 c2 h1 h2 => ?_⟩
  rw [hN] at h1
  by_cases c0 : 0 ≤ c1 ∧ c1 < 0 + 50
  · exact (ckL_ok kL_39_0 ht).2 c1 c2 c0.1 c0.2 h2
  by_cases c50 : 50 ≤ c1 ∧ c1 < 50 + 50
  · exact (ckL_ok kL_39_50 ht).2 c1 c2 c50.1 c50.2 h2
  by_cases c100 : 100 ≤ c1 ∧ c1 < 100 + 50
  · exact (ckL_ok kL_39_100 ht).2 c1 c2 c100.1 c100.2 h2
  by_cases c150 : 150 ≤ c1 ∧ c1 < 150 + 50
  · exact (ckL_ok kL_39_150 ht).2 c1 c2 c150.1 c150.2 h2
  by_cases c200 : 200 ≤ c1 ∧ c1 < 200 + 1
  · exact (ckL_ok kL_39_200 ht).2 c1 c2 c200.1 c200.2 h2
  exfalso
  omega
theorem lq_40 {t : LT} (ht : lpT[40]? = some t) : LQ t := by
  have hN : lt_N1 t = 10 := by
    have h : (lpT[40]?).map lt_N1 = some 10 := by decide +kernel
    rw [ht] at h
    exact Option.some.inj h
  refine ⟨(ckL_ok kL_40_0 ht).1, fun c1 c2 h1 h2 => ?_⟩
  rw [hN] at h1
  by_cases c0 : 0 ≤ c1 ∧ c1 < 0 + 11
  · exact (ckL_ok kL_40_0 ht).2 c1 c2 c0.1 c0.2 h2
  exfalso
  omega
theorem lq_41 {t : LT} (ht : lpT[41]? = some t) : LQ t := by
  have hN : lt_N1 t = 10 := by
    have h : (lpT[41]?).map lt_N1 = some 10 := by decide +kernel
    rw [ht] at h
    exact Option.some.inj h
  refine ⟨(ckL_ok kL_41_0 ht).1, fun c1 c2 h1 h2 => ?_⟩
  rw [hN] at h1
  by_cases c0 : 0 ≤ c1 ∧ c1 < 0 + 11
  · exact (ckL_ok kL_41_0 ht).2 c1 c2 c0.1 c0.2 h2
  exfalso
  omega
theorem lq_42 {t : LT} (ht : lpT[42]? = some t) : LQ t := by
  have hN : lt_N1 t = 10 := by
    have h : (lpT[42]?).map lt_N1 = some 10 := by decide +kernel
    rw [ht] at h
    exact Option.some.inj h
  refine ⟨(ckL_ok kL_42_0 ht).1, fun c1 c2 h1 h2 => ?_⟩
  rw [hN] at h1
  by_cases c0 : 0 ≤ c1 ∧ c1 < 0 + 11
  · exact (ckL_ok kL_42_0 ht).2 c1 c2 c0.1 c0.2 h2
  exfalso
  omega
theorem lq_43 {t : LT} (ht : lpT[43]? = some t) : LQ t := by
  have hN : lt_N1 t = 200 := by
    have h : (lpT[43]?).map lt_N1 = some 200 := by decide +kernel
    rw [ht] at h
    exact Option.some.inj h
  refine ⟨(ckL_ok kL_43_0 ht).1, fun c1 c2 h1 h2 => ?_⟩
  rw [hN] at h1
  by_cases c0 : 0 ≤ c1 ∧ c1 < 0 + 50
  · exact (ckL_ok kL_43_0 ht).2 c1 c2 c0.1 c0.2 h2
  by_cases c50 : 50 ≤ c1 ∧ c1 < 50 + 50
  · exact (ckL_ok kL_43_50 ht).2 c1 c2 c50.1 c50.2 h2
  by_cases c100 : 100 ≤ c1 ∧ c1 < 100 + 50
  · exact (ckL_ok kL_43_100 ht).2 c1 c2 c100.1 c100.2 h2
  by_cases c150 : 150 ≤ c1 ∧ c1 < 150 + 50
  · exact (ckL_ok kL_43_150 ht).2 c1 c2 c150.1 c150.2 h2
  by_cases c200 : 200 ≤ c1 ∧ c1 < 200 + 1
  · exact (ckL_ok kL_43_200 ht).2 c1 c2 c200.1 c200.2 h2
  exfalso
  omega
theorem lq_44 {t : LT} (ht : lpT[44]? = some t) : LQ t := by
  have hN : lt_N1 t = 17 := by
    have h : (lpT[44]?).map lt_N1 = some 17 := by decide +kernel
    rw [ht] at h
    exact Option.some.inj h
  refine ⟨(ckL_ok kL_44_0 ht).1, fun c1 c2 h1 h2 => ?_⟩
  rw [hN] at h1
  by_cases c0 : 0 ≤ c1 ∧ c1 < 0 + 11
  · exact (ckL_ok kL_44_0 ht).2 c1 c2 c0.1 c0.2 h2
  by_cases c11 : 11 ≤ c1 ∧ c1 < 11 + 7
  · exact (ckL_ok kL_44_11 ht).2 c1 c2 c11.1 c11.2 h2
  exfalso
  omega
theorem lq_45 {t : LT} (ht : lpT[45]? = some t) : LQ t := by
  have hN : lt_N1 t = 6 := by
    have h : (lpT[45]?).map lt_N1 = some 6 := by decide +kernel
    rw [ht] at h
    exact Option.some.inj h
  refine ⟨(ckL_ok kL_45_0 ht).1, fun c1 c2 h1 h2 => ?_⟩
  rw [hN] at h1
  by_cases c0 : 0 ≤ c1 ∧ c1 < 0 + 7
  · exact (ckL_ok kL_45_0 ht).2 c1 c2 c0.1 c0.2 h2
  exfalso
  omega
theorem lq_46 {t : LT} (ht : lpT[46]? = some t) : LQ t := by
  have hN : lt_N1 t = 200 := by
    have h : (lpT[46]?).map lt_N1 = some 200 := by decide +kernel
    rw [ht] at h
    exact Option.some.inj h
  refine ⟨(ckL_ok kL_46_0 ht).1, fun c1 c2 h1 h2 => ?_⟩
  rw [hN] at h1
  by_cases c0 : 0 ≤ c1 ∧ c1 < 0 + 50
  · exact (ckL_ok kL_46_0 ht).2 c1 c2 c0.1 c0.2 h2
  by_cases c50 : 50 ≤ c1 ∧ c1 < 50 + 50
  · exact (ckL_ok kL_46_50 ht).2 c1 c2 c50.1 c50.2 h2
  by_cases c100 : 100 ≤ c1 ∧ c1 < 100 + 50
  · exact (ckL_ok kL_46_100 ht).2 c1 c2 c100.1 c100.2 h2
  by_cases c150 : 150 ≤ c1 ∧ c1 < 150 + 50
  · exact (ckL_ok kL_46_150 ht).2 c1 c2 c150.1 c150.2 h2
  by_cases c200 : 200 ≤ c1 ∧ c1 < 200 + 1
  · exact (ckL_ok kL_46_200 ht).2 c1 c2 c200.1 c200.2 h2
  exfalso
  omega
theorem lp_len : lpT.length = 47 := by decide +kernel
theorem lq_all (t : LT) (h : t ∈ lpT) : LQ t := by
  obtain ⟨j, hj⟩ := List.mem_iff_getElem?.mp h
  have hlt : j < 47 := by rw [← lp_len]; exact (List.getElem?_eq_some_iff.mp hj).1
  by_cases e0 : j = 0
  · rw [e0] at hj
    exact lq_0 hj
  by_cases e1 : j = 1
  · rw [e1] at hj
    exact lq_1 hj
  by_cases e2 : j = 2
  · rw [e2] at hj
    exact lq_2 hj
  by_cases e3 : j = 3
  · rw [e3] at hj
    exact lq_3 hj
  by_cases e4 : j = 4
  · rw [e4] at hj
    exact lq_4 hj
  by_cases e5 : j = 5
  · rw [e5] at hj
    exact lq_5 hj
  by_cases e6 : j = 6
  · rw [e6] at hj
    exact lq_6 hj
  by_cases e7 : j = 7
  · rw [e7] at hj
    exact lq_7 hj
  by_cases e8 : j = 8
  · rw [e8] at hj
    exact lq_8 hj
  by_cases e9 : j = 9
  · rw [e9] at hj
    exact lq_9 hj
  by_cases e10 : j = 10
  · rw [e10] at hj
    exact lq_10 hj
  by_cases e11 : j = 11
  · rw [e11] at hj
    exact lq_11 hj
  by_cases e12 : j = 12
  · rw [e12] at hj
    exact lq_12 hj
  by_cases e13 : j = 13
  · rw [e13] at hj
    exact lq_13 hj
  by_cases e14 : j = 14
  · rw [e14] at hj
    exact lq_14 hj
  by_cases e15 : j = 15
  · rw [e15] at hj
    exact lq_15 hj
  by_cases e16 : j = 16
  · rw [e16] at hj
    exact lq_16 hj
  by_cases e17 : j = 17
  · rw [e17] at hj
    exact lq_17 hj
  by_cases e18 : j = 18
  · rw [e18] at hj
    exact lq_18 hj
  by_cases e19 : j = 19
  · rw [e19] at hj
    exact lq_19 hj
  by_cases e20 : j = 20
  · rw [e20] at hj
    exact lq_20 hj
  by_cases e21 : j = 21
  · rw [e21] at hj
    exact lq_21 hj
  by_cases e22 : j = 22
  · rw [e22] at hj
    exact lq_22 hj
  by_cases e23 : j = 23
  · rw [e23] at hj
    exact lq_23 hj
  by_cases e24 : j = 24
  · rw [e24] at hj
    exact lq_24 hj
  by_cases e25 : j = 25
  · rw [e25] at hj
    exact lq_25 hj
  by_cases e26 : j = 26
  · rw [e26] at hj
    exact lq_26 hj
  by_cases e27 : j = 27
  · rw [e27] at hj
    exact lq_27 hj
  by_cases e28 : j = 28
  · rw [e28] at hj
    exact lq_28 hj
  by_cases e29 : j = 29
  · rw [e29] at hj
    exact lq_29 hj
  by_cases e30 : j = 30
  · rw [e30] at hj
    exact lq_30 hj
  by_cases e31 : j = 31
  · rw [e31] at hj
    exact lq_31 hj
  by_cases e32 : j = 32
  · rw [e32] at hj
    exact lq_32 hj
  by_cases e33 : j = 33
  · rw [e33] at hj
    exact lq_33 hj
  by_cases e34 : j = 34
  · rw [e34] at hj
    exact lq_34 hj
  by_cases e35 : j = 35
  · rw [e35] at hj
    exact lq_35 hj
  by_cases e36 : j = 36
  · rw [e36] at hj
    exact lq_36 hj
  by_cases e37 : j = 37
  · rw [e37] at hj
    exact lq_37 hj
  by_cases e38 : j = 38
  · rw [e38] at hj
    exact lq_38 hj
  by_cases e39 : j = 39
  · rw [e39] at hj
    exact lq_39 hj
  by_cases e40 : j = 40
  · rw [e40] at hj
    exact lq_40 hj
  by_cases e41 : j = 41
  · rw [e41] at hj
    exact lq_41 hj
  by_cases e42 : j = 42
  · rw [e42] at hj
    exact lq_42 hj
  by_cases e43 : j = 43
  · rw [e43] at hj
    exact lq_43 hj
  by_cases e44 : j = 44
  · rw [e44] at hj
    exact lq_44 hj
  by_cases e45 : j = 45
  · rw [e45] at hj
    exact lq_45 hj
  by_cases e46 : j = 46
  · rw [e46] at hj
    exact lq_46 hj
  exfalso
  omega
def spT : List (Nat × Nat × List (Nat × Nat)) := [(164, 1, sr_164)]
def exL : List Nat := [30, 68, 82, 90, 110, 114, 161]
def ckG : List (List Nat) := [[11, 12, 13, 16, 17, 20, 24, 25, 26, 32], [33, 36, 39, 40, 41, 44, 45, 47, 48, 49], [51, 52, 53, 54, 56, 58, 61, 62, 63, 65], [66, 67, 70, 72, 73, 75, 76, 77, 81, 83], [84, 85, 86, 87, 89, 91, 92, 93, 94, 95], [96, 97, 98, 99, 100, 101, 102, 103, 104, 105], [106, 107, 108, 109, 111, 112, 113, 115, 116, 129], [135, 148, 149, 155, 158, 159, 166, 167, 168, 169], [170, 171, 172, 175, 176, 177, 185]]
theorem ck_cov : (List.range 186).all (fun k => (match ctT[k]? with
  | some (some _) => false
  | _ => true) || exL.any (Nat.beq k) || ckG.any (fun g => g.any (Nat.beq k)) || spT.any (fun q => Nat.beq k q.1)) = true := by decide +kernel
theorem ck_all : ckG.all (fun g => g.all ckE) = true := by
  show ([11, 12, 13, 16, 17, 20, 24, 25, 26, 32].all ckE && ([33, 36, 39, 40, 41, 44, 45, 47, 48, 49].all ckE && ([51, 52, 53, 54, 56, 58, 61, 62, 63, 65].all ckE && ([66, 67, 70, 72, 73, 75, 76, 77, 81, 83].all ckE && ([84, 85, 86, 87, 89, 91, 92, 93, 94, 95].all ckE && ([96, 97, 98, 99, 100, 101, 102, 103, 104, 105].all ckE && ([106, 107, 108, 109, 111, 112, 113, 115, 116, 129].all ckE && ([135, 148, 149, 155, 158, 159, 166, 167, 168, 169].all ckE && ([170, 171, 172, 175, 176, 177, 185].all ckE && true))))))))) = true
  rw [kE_0, kE_1, kE_2, kE_3, kE_4, kE_5, kE_6, kE_7, kE_8]
  rfl
theorem ctT_len : ctT.length = 186 := by decide +kernel
theorem ck_of {k : Nat} {c : CT} (h : ctT[k]? = some (some c)) (hne : ∀ x ∈ exL, x ≠ k) : k < 186 ∧ c = ctOf k ∧ (ckE k = true ∨ ∃ i rs, (k, i, rs) ∈ spT) := by
  have hlt : k < 186 := by rw [← ctT_len]; exact (List.getElem?_eq_some_iff.mp h).1
  refine ⟨hlt, by unfold ctOf; rw [h], ?_⟩
  have h1 := List.all_eq_true.mp ck_cov k (List.mem_range.mpr hlt)
  rw [h] at h1
  simp only [Bool.false_or, Bool.or_eq_true, List.any_eq_true] at h1
  rcases h1 with (⟨x, x1, x2⟩ | ⟨g, g1, x, x1, x2⟩) | ⟨q, q1, q2⟩
  · exact absurd (beq_of x2).symm (hne x x1)
  · have h2 := List.all_eq_true.mp (List.all_eq_true.mp ck_all g g1) x x1
    rw [beq_of x2]
    exact Or.inl h2
  · obtain ⟨k', i, rs⟩ := q
    have := beq_of q2
    subst this
    exact Or.inr ⟨i, rs, q1⟩
theorem sp_all : ∀ q ∈ spT, ckA q.1 q.2.1 q.2.2 = true := by
  intro q hq
  simp only [spT, List.mem_cons, List.not_mem_nil, or_false] at hq
  rcases hq with rfl
  · exact kA_164
theorem sp_cov : spT.all (fun q => match (ctOf q.1).1[q.2.1]? with
  | some (0, lo, hi) => covB lo hi q.2.2
  | _ => false) = true := by decide +kernel
/-- the contracts of the class hold, if those of a few methods do -/
theorem ct_upto {GI : PH → Prop} {D0 : Nat} (hG : GOK GI) (hG2 : ∀ ph, GI ph → 2 ≤ ph.length) (hX : ∀ k ∈ exL, ∀ c, ctT[k]? = some (some c) → c.2.2.2 < D0 → CtAll GI c.2.2.2 → CtH GI k c) : ∀ D, D ≤ D0 → CtAll GI D
  | 0, _ => fun _ _ _ h => absurd h (Nat.not_lt_zero _)
  | D + 1, hD0 => by
    have ih := ct_upto hG hG2 hX D (by omega)
    intro k c hk hlt
    by_cases hD : c.2.2.2 < D
    · exact ih k c hk hD
    · have e : c.2.2.2 = D := by omega
      by_cases hx : k ∈ exL
      · exact hX k hx c hk (by omega) (by rw [e]; exact ih)
      · obtain ⟨h1, h2, h3⟩ := ck_of hk (fun x hx' e => hx (e ▸ hx'))
        subst h2
        have hlq : ∀ t ∈ lpT, lt_no t / 8 = k → atB ((codeOf k).drop (lt_j t + 1)) (lt_pc t) = true ∧ ∀ c1 c2, c1 ≤ lt_N1 t → c2 ≤ lt_N2 t → chkL k (ctOf k).2.2.2 (ctOf k).2.2.1 (ctOf k).2.1 t c1 c2 = true := by
          intro t ht htk
          have hq := lq_all t ht
          unfold LQ at hq
          rw [htk] at hq
          exact hq
        rcases h3 with h3 | ⟨i, rs, h3⟩
        · exact ct_ok hG hG2 (by rw [e]; exact ih) h1 hlq h3
        · have hA := sp_all _ h3
          have hcv := List.all_eq_true.mp sp_cov _ h3
          dsimp only at hA hcv
          split at hcv
          case h_2 => cases hcv
          rename_i lo hi hp
          refine ct_alt hp hcv (fun r hr => ?_)
          exact ct_ok hG hG2 (c := ctSet (ctOf k) i r) (by show CtAll GI (ctOf k).2.2.2; rw [e]; exact ih) h1 hlq (List.all_eq_true.mp hA r hr)

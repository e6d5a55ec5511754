/-! ===== by program (wip/gen/gen4.py): the loops over ticks hold ===== -/
theorem it10_0 (i : Nat) (h : i ≤ 60) : itOK 1 10 10 1 152 E10 hi10_0 (hx10_0 (.inr (.inl 1))) i = true := by
  by_cases c0 : 0 ≤ i ∧ i < 0 + 8
  · exact inG it10_0_0 c0.1 c0.2
  by_cases c8 : 8 ≤ i ∧ i < 8 + 8
  · exact inG it10_0_8 c8.1 c8.2
  by_cases c16 : 16 ≤ i ∧ i < 16 + 8
  · exact inG it10_0_16 c16.1 c16.2
  by_cases c24 : 24 ≤ i ∧ i < 24 + 8
  · exact inG it10_0_24 c24.1 c24.2
  by_cases c32 : 32 ≤ i ∧ i < 32 + 8
  · exact inG it10_0_32 c32.1 c32.2
  by_cases c40 : 40 ≤ i ∧ i < 40 + 8
  · exact inG it10_0_40 c40.1 c40.2
  by_cases c48 : 48 ≤ i ∧ i < 48 + 8
  · exact inG it10_0_48 c48.1 c48.2
  by_cases c56 : 56 ≤ i ∧ i < 56 + 5
  · exact inG it10_0_56 c56.1 c56.2
  exfalso
  omega
noncomputable def ck10_0 : CP := cutK 1 10 10 1 152 (Ei E10 1 0) (hi10_0 0) (hx10_0 (.inr (.inl 1))) 2147483648
theorem ck10_0_ok {σ : Nat → Int32} (hσ : σ 4 = σ 0 &&& 31) : CutOK σ ck10_0 := cut_ok (Or.inl rfl) (loop_all (N := 60) hσ (Or.inl rfl) (by decide) (by decide) it10_0 61 0 (by decide))
theorem it10_1 (i : Nat) (h : i ≤ 60) : itOK 2 10 75 1 152 E10 hi10_1 (hx10_1 (.inr (.inl 1))) i = true := by
  by_cases c0 : 0 ≤ i ∧ i < 0 + 8
  · exact inG it10_1_0 c0.1 c0.2
  by_cases c8 : 8 ≤ i ∧ i < 8 + 8
  · exact inG it10_1_8 c8.1 c8.2
  by_cases c16 : 16 ≤ i ∧ i < 16 + 8
  · exact inG it10_1_16 c16.1 c16.2
  by_cases c24 : 24 ≤ i ∧ i < 24 + 8
  · exact inG it10_1_24 c24.1 c24.2
  by_cases c32 : 32 ≤ i ∧ i < 32 + 8
  · exact inG it10_1_32 c32.1 c32.2
  by_cases c40 : 40 ≤ i ∧ i < 40 + 8
  · exact inG it10_1_40 c40.1 c40.2
  by_cases c48 : 48 ≤ i ∧ i < 48 + 8
  · exact inG it10_1_48 c48.1 c48.2
  by_cases c56 : 56 ≤ i ∧ i < 56 + 5
  · exact inG it10_1_56 c56.1 c56.2
  exfalso
  omega
noncomputable def ck10_1 : CP := cutK 2 10 75 1 152 (Ei E10 1 0) (hi10_1 0) (hx10_1 (.inr (.inl 1))) 2147483648
theorem ck10_1_ok {σ : Nat → Int32} (hσ : σ 4 = σ 0 &&& 31) : CutOK σ ck10_1 := cut_ok (Or.inr rfl) (loop_all (N := 60) hσ (Or.inr rfl) (by decide) (by decide) it10_1 61 0 (by decide))
theorem it21_0 (i : Nat) (h : i ≤ 60) : itOK 1 10 87 2 152 E21 hi21_0 (hx21_0 (.inr (.inl 2))) i = true := by
  by_cases c0 : 0 ≤ i ∧ i < 0 + 8
  · exact inG it21_0_0 c0.1 c0.2
  by_cases c8 : 8 ≤ i ∧ i < 8 + 8
  · exact inG it21_0_8 c8.1 c8.2
  by_cases c16 : 16 ≤ i ∧ i < 16 + 8
  · exact inG it21_0_16 c16.1 c16.2
  by_cases c24 : 24 ≤ i ∧ i < 24 + 8
  · exact inG it21_0_24 c24.1 c24.2
  by_cases c32 : 32 ≤ i ∧ i < 32 + 8
  · exact inG it21_0_32 c32.1 c32.2
  by_cases c40 : 40 ≤ i ∧ i < 40 + 8
  · exact inG it21_0_40 c40.1 c40.2
  by_cases c48 : 48 ≤ i ∧ i < 48 + 8
  · exact inG it21_0_48 c48.1 c48.2
  by_cases c56 : 56 ≤ i ∧ i < 56 + 5
  · exact inG it21_0_56 c56.1 c56.2
  exfalso
  omega
noncomputable def ck21_0 : CP := cutK 1 10 87 2 152 (Ei E21 2 0) (hi21_0 0) (hx21_0 (.inr (.inl 2))) 2147483648
theorem ck21_0_ok {σ : Nat → Int32} (hσ : σ 4 = σ 0 &&& 31) : CutOK σ ck21_0 := cut_ok (Or.inl rfl) (loop_all (N := 60) hσ (Or.inl rfl) (by decide) (by decide) it21_0 61 0 (by decide))
theorem it21_1 (i : Nat) (h : i ≤ 60) : itOK 2 9 75 2 152 E21 hi21_1 (hx21_1 (.inr (.inl 2))) i = true := by
  by_cases c0 : 0 ≤ i ∧ i < 0 + 8
  · exact inG it21_1_0 c0.1 c0.2
  by_cases c8 : 8 ≤ i ∧ i < 8 + 8
  · exact inG it21_1_8 c8.1 c8.2
  by_cases c16 : 16 ≤ i ∧ i < 16 + 8
  · exact inG it21_1_16 c16.1 c16.2
  by_cases c24 : 24 ≤ i ∧ i < 24 + 8
  · exact inG it21_1_24 c24.1 c24.2
  by_cases c32 : 32 ≤ i ∧ i < 32 + 8
  · exact inG it21_1_32 c32.1 c32.2
  by_cases c40 : 40 ≤ i ∧ i < 40 + 8
  · exact inG it21_1_40 c40.1 c40.2
  by_cases c48 : 48 ≤ i ∧ i < 48 + 8
  · exact inG it21_1_48 c48.1 c48.2
  by_cases c56 : 56 ≤ i ∧ i < 56 + 5
  · exact inG it21_1_56 c56.1 c56.2
  exfalso
  omega
noncomputable def ck21_1 : CP := cutK 2 9 75 2 152 (Ei E21 2 0) (hi21_1 0) (hx21_1 (.inr (.inl 2))) 2147483648
theorem ck21_1_ok {σ : Nat → Int32} (hσ : σ 4 = σ 0 &&& 31) : CutOK σ ck21_1 := cut_ok (Or.inr rfl) (loop_all (N := 60) hσ (Or.inr rfl) (by decide) (by decide) it21_1 61 0 (by decide))
theorem it22_0 (i : Nat) (h : i ≤ 15) : itOK 1 10 87 1 152 E22 hi22_0 (hx22_0 (.inr (.inl 1))) i = true := by
  by_cases c0 : 0 ≤ i ∧ i < 0 + 8
  · exact inG it22_0_0 c0.1 c0.2
  by_cases c8 : 8 ≤ i ∧ i < 8 + 8
  · exact inG it22_0_8 c8.1 c8.2
  exfalso
  omega
noncomputable def ck22_0 : CP := cutK 1 10 87 1 152 (Ei E22 1 0) (hi22_0 0) (hx22_0 (.inr (.inl 1))) 2147483648
theorem ck22_0_ok {σ : Nat → Int32} (hσ : σ 4 = σ 0 &&& 31) : CutOK σ ck22_0 := cut_ok (Or.inl rfl) (loop_all (N := 15) hσ (Or.inl rfl) (by decide) (by decide) it22_0 16 0 (by decide))
theorem it22_1 (i : Nat) (h : i ≤ 15) : itOK 1 10 87 1 152 E22 hi22_1 (hx22_1 (.inr (.inl 1))) i = true := by
  by_cases c0 : 0 ≤ i ∧ i < 0 + 8
  · exact inG it22_1_0 c0.1 c0.2
  by_cases c8 : 8 ≤ i ∧ i < 8 + 8
  · exact inG it22_1_8 c8.1 c8.2
  exfalso
  omega
noncomputable def ck22_1 : CP := cutK 1 10 87 1 152 (Ei E22 1 0) (hi22_1 0) (hx22_1 (.inr (.inl 1))) 2147483648
theorem ck22_1_ok {σ : Nat → Int32} (hσ : σ 4 = σ 0 &&& 31) : CutOK σ ck22_1 := cut_ok (Or.inl rfl) (loop_all (N := 15) hσ (Or.inl rfl) (by decide) (by decide) it22_1 16 0 (by decide))
theorem it22_2 (i : Nat) (h : i ≤ 15) : itOK 1 10 87 1 152 E22 hi22_2 (hx22_2 (.inr (.inl 1))) i = true := by
  by_cases c0 : 0 ≤ i ∧ i < 0 + 8
  · exact inG it22_2_0 c0.1 c0.2
  by_cases c8 : 8 ≤ i ∧ i < 8 + 8
  · exact inG it22_2_8 c8.1 c8.2
  exfalso
  omega
noncomputable def ck22_2 : CP := cutK 1 10 87 1 152 (Ei E22 1 0) (hi22_2 0) (hx22_2 (.inr (.inl 1))) 2147483648
theorem ck22_2_ok {σ : Nat → Int32} (hσ : σ 4 = σ 0 &&& 31) : CutOK σ ck22_2 := cut_ok (Or.inl rfl) (loop_all (N := 15) hσ (Or.inl rfl) (by decide) (by decide) it22_2 16 0 (by decide))
theorem it22_3 (i : Nat) (h : i ≤ 15) : itOK 1 10 87 1 152 E22 hi22_3 (hx22_3 (.inr (.inl 1))) i = true := by
  by_cases c0 : 0 ≤ i ∧ i < 0 + 8
  · exact inG it22_3_0 c0.1 c0.2
  by_cases c8 : 8 ≤ i ∧ i < 8 + 8
  · exact inG it22_3_8 c8.1 c8.2
  exfalso
  omega
noncomputable def ck22_3 : CP := cutK 1 10 87 1 152 (Ei E22 1 0) (hi22_3 0) (hx22_3 (.inr (.inl 1))) 2147483648
theorem ck22_3_ok {σ : Nat → Int32} (hσ : σ 4 = σ 0 &&& 31) : CutOK σ ck22_3 := cut_ok (Or.inl rfl) (loop_all (N := 15) hσ (Or.inl rfl) (by decide) (by decide) it22_3 16 0 (by decide))
theorem it22_4 (i : Nat) (h : i ≤ 15) : itOK 1 10 87 1 152 E22 hi22_4 (hx22_4 (.inr (.inl 1))) i = true := by
  by_cases c0 : 0 ≤ i ∧ i < 0 + 8
  · exact inG it22_4_0 c0.1 c0.2
  by_cases c8 : 8 ≤ i ∧ i < 8 + 8
  · exact inG it22_4_8 c8.1 c8.2
  exfalso
  omega
noncomputable def ck22_4 : CP := cutK 1 10 87 1 152 (Ei E22 1 0) (hi22_4 0) (hx22_4 (.inr (.inl 1))) 2147483648
theorem ck22_4_ok {σ : Nat → Int32} (hσ : σ 4 = σ 0 &&& 31) : CutOK σ ck22_4 := cut_ok (Or.inl rfl) (loop_all (N := 15) hσ (Or.inl rfl) (by decide) (by decide) it22_4 16 0 (by decide))
theorem it22_5 (i : Nat) (h : i ≤ 15) : itOK 2 9 75 1 152 E22 hi22_5 (hx22_5 (.inr (.inl 1))) i = true := by
  by_cases c0 : 0 ≤ i ∧ i < 0 + 8
  · exact inG it22_5_0 c0.1 c0.2
  by_cases c8 : 8 ≤ i ∧ i < 8 + 8
  · exact inG it22_5_8 c8.1 c8.2
  exfalso
  omega
noncomputable def ck22_5 : CP := cutK 2 9 75 1 152 (Ei E22 1 0) (hi22_5 0) (hx22_5 (.inr (.inl 1))) 2147483648
theorem ck22_5_ok {σ : Nat → Int32} (hσ : σ 4 = σ 0 &&& 31) : CutOK σ ck22_5 := cut_ok (Or.inr rfl) (loop_all (N := 15) hσ (Or.inr rfl) (by decide) (by decide) it22_5 16 0 (by decide))
theorem it22_6 (i : Nat) (h : i ≤ 15) : itOK 2 9 75 1 152 E22 hi22_6 (hx22_6 (.inr (.inl 1))) i = true := by
  by_cases c0 : 0 ≤ i ∧ i < 0 + 8
  · exact inG it22_6_0 c0.1 c0.2
  by_cases c8 : 8 ≤ i ∧ i < 8 + 8
  · exact inG it22_6_8 c8.1 c8.2
  exfalso
  omega
noncomputable def ck22_6 : CP := cutK 2 9 75 1 152 (Ei E22 1 0) (hi22_6 0) (hx22_6 (.inr (.inl 1))) 2147483648
theorem ck22_6_ok {σ : Nat → Int32} (hσ : σ 4 = σ 0 &&& 31) : CutOK σ ck22_6 := cut_ok (Or.inr rfl) (loop_all (N := 15) hσ (Or.inr rfl) (by decide) (by decide) it22_6 16 0 (by decide))
theorem it22_7 (i : Nat) (h : i ≤ 15) : itOK 2 9 75 1 152 E22 hi22_7 (hx22_7 (.inr (.inl 1))) i = true := by
  by_cases c0 : 0 ≤ i ∧ i < 0 + 8
  · exact inG it22_7_0 c0.1 c0.2
  by_cases c8 : 8 ≤ i ∧ i < 8 + 8
  · exact inG it22_7_8 c8.1 c8.2
  exfalso
  omega
noncomputable def ck22_7 : CP := cutK 2 9 75 1 152 (Ei E22 1 0) (hi22_7 0) (hx22_7 (.inr (.inl 1))) 2147483648
theorem ck22_7_ok {σ : Nat → Int32} (hσ : σ 4 = σ 0 &&& 31) : CutOK σ ck22_7 := cut_ok (Or.inr rfl) (loop_all (N := 15) hσ (Or.inr rfl) (by decide) (by decide) it22_7 16 0 (by decide))
theorem it22_8 (i : Nat) (h : i ≤ 15) : itOK 2 9 75 1 152 E22 hi22_8 (hx22_8 (.inr (.inl 1))) i = true := by
  by_cases c0 : 0 ≤ i ∧ i < 0 + 8
  · exact inG it22_8_0 c0.1 c0.2
  by_cases c8 : 8 ≤ i ∧ i < 8 + 8
  · exact inG it22_8_8 c8.1 c8.2
  exfalso
  omega
noncomputable def ck22_8 : CP := cutK 2 9 75 1 152 (Ei E22 1 0) (hi22_8 0) (hx22_8 (.inr (.inl 1))) 2147483648
theorem ck22_8_ok {σ : Nat → Int32} (hσ : σ 4 = σ 0 &&& 31) : CutOK σ ck22_8 := cut_ok (Or.inr rfl) (loop_all (N := 15) hσ (Or.inr rfl) (by decide) (by decide) it22_8 16 0 (by decide))
theorem it22_9 (i : Nat) (h : i ≤ 15) : itOK 2 9 75 1 152 E22 hi22_9 (hx22_9 (.inr (.inl 1))) i = true := by
  by_cases c0 : 0 ≤ i ∧ i < 0 + 8
  · exact inG it22_9_0 c0.1 c0.2
  by_cases c8 : 8 ≤ i ∧ i < 8 + 8
  · exact inG it22_9_8 c8.1 c8.2
  exfalso
  omega
noncomputable def ck22_9 : CP := cutK 2 9 75 1 152 (Ei E22 1 0) (hi22_9 0) (hx22_9 (.inr (.inl 1))) 2147483648
theorem ck22_9_ok {σ : Nat → Int32} (hσ : σ 4 = σ 0 &&& 31) : CutOK σ ck22_9 := cut_ok (Or.inr rfl) (loop_all (N := 15) hσ (Or.inr rfl) (by decide) (by decide) it22_9 16 0 (by decide))
noncomputable def K10 : CP := orK ck10_0 (ck10_1)
theorem K10_ok {σ : Nat → Int32} (hσ : σ 4 = σ 0 &&& 31) : CutOK σ K10 := (orK_ok (ck10_0_ok hσ) (ck10_1_ok hσ))
noncomputable def K21 : CP := orK ck21_0 (ck21_1)
theorem K21_ok {σ : Nat → Int32} (hσ : σ 4 = σ 0 &&& 31) : CutOK σ K21 := (orK_ok (ck21_0_ok hσ) (ck21_1_ok hσ))
noncomputable def K22 : CP := orK ck22_0 (orK ck22_1 (orK ck22_2 (orK ck22_3 (orK ck22_4 (orK ck22_5 (orK ck22_6 (orK ck22_7 (orK ck22_8 (ck22_9)))))))))
theorem K22_ok {σ : Nat → Int32} (hσ : σ 4 = σ 0 &&& 31) : CutOK σ K22 := (orK_ok (ck22_0_ok hσ) (orK_ok (ck22_1_ok hσ) (orK_ok (ck22_2_ok hσ) (orK_ok (ck22_3_ok hσ) (orK_ok (ck22_4_ok hσ) (orK_ok (ck22_5_ok hσ) (orK_ok (ck22_6_ok hσ) (orK_ok (ck22_7_ok hσ) (orK_ok (ck22_8_ok hσ) (ck22_9_ok hσ))))))))))

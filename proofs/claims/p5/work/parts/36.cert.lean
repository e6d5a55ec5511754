/-! ===== by program (wip/gen/gen3.py): the decoded code is that of the bytes ===== -/
noncomputable def rowsB (mi a k : Nat) : Bool := match mT[mi]? with
  | some M => (((codeOf mi).drop a).take k).all (rowOK M (codeOf mi))
  | none => false
def headB (l : List CE) : Bool := match l with
  | e :: _ => Nat.beq e.1 0
  | [] => false
noncomputable def restB (mi : Nat) : Bool := match mT[mi]? with
  | some M => adjOK (codeOf mi) && headB (codeOf mi) && (Nat.beq mi 0 || infOK M (tget CM 8 mi mTab))
  | none => false
noncomputable def allB (mi : Nat) : Bool := rowsB mi 0 1000
theorem ce_g0 : (List.range' 1 5).all allB = true := by decide +kernel
theorem ce_g1 : (List.range' 6 7).all allB = true := by decide +kernel
theorem ce_g2 : (List.range' 13 4).all allB = true := by decide +kernel
theorem ce_g3 : (List.range' 18 4).all allB = true := by decide +kernel
theorem ce_g4 : (List.range' 22 3).all allB = true := by decide +kernel
theorem ce_g5 : (List.range' 25 2).all allB = true := by decide +kernel
theorem ce_g6 : (List.range' 27 3).all allB = true := by decide +kernel
theorem ce_g7 : (List.range' 30 3).all allB = true := by decide +kernel
theorem ce_g8 : (List.range' 33 2).all allB = true := by decide +kernel
theorem ce_g9 : (List.range' 35 4).all allB = true := by decide +kernel
theorem ce_g10 : (List.range' 39 4).all allB = true := by decide +kernel
theorem ce_g11 : (List.range' 43 5).all allB = true := by decide +kernel
theorem ce_g12 : (List.range' 48 3).all allB = true := by decide +kernel
theorem ce_g13 : (List.range' 51 2).all allB = true := by decide +kernel
theorem ce_g14 : (List.range' 53 5).all allB = true := by decide +kernel
theorem ce_g15 : (List.range' 58 5).all allB = true := by decide +kernel
theorem ce_g16 : (List.range' 63 2).all allB = true := by decide +kernel
theorem ce_g17 : (List.range' 65 3).all allB = true := by decide +kernel
theorem ce_g18 : (List.range' 68 4).all allB = true := by decide +kernel
theorem ce_g19 : (List.range' 72 3).all allB = true := by decide +kernel
theorem ce_g20 : (List.range' 75 5).all allB = true := by decide +kernel
theorem ce_g21 : (List.range' 80 4).all allB = true := by decide +kernel
theorem ce_g22 : (List.range' 84 4).all allB = true := by decide +kernel
theorem ce_g23 : (List.range' 88 3).all allB = true := by decide +kernel
theorem ce_g24 : (List.range' 91 3).all allB = true := by decide +kernel
theorem ce_g25 : (List.range' 94 3).all allB = true := by decide +kernel
theorem ce_g26 : (List.range' 97 5).all allB = true := by decide +kernel
theorem ce_g27 : (List.range' 102 4).all allB = true := by decide +kernel
theorem ce_g28 : (List.range' 106 2).all allB = true := by decide +kernel
theorem ce_g29 : (List.range' 108 3).all allB = true := by decide +kernel
theorem ce_g30 : (List.range' 111 3).all allB = true := by decide +kernel
theorem ce_g31 : (List.range' 114 2).all allB = true := by decide +kernel
theorem ce_g32 : (List.range' 116 1).all allB = true := by decide +kernel
theorem ce_g33 : (List.range' 117 1).all allB = true := by decide +kernel
theorem ce_g34 : (List.range' 118 3).all allB = true := by decide +kernel
theorem ce_g35 : (List.range' 121 3).all allB = true := by decide +kernel
theorem ce_g36 : (List.range' 125 3).all allB = true := by decide +kernel
theorem ce_g37 : (List.range' 128 1).all allB = true := by decide +kernel
theorem ce_g38 : (List.range' 129 6).all allB = true := by decide +kernel
theorem ce_g39 : (List.range' 135 1).all allB = true := by decide +kernel
theorem ce_g40 : (List.range' 137 5).all allB = true := by decide +kernel
theorem ce_g41 : (List.range' 142 3).all allB = true := by decide +kernel
theorem ce_g42 : (List.range' 145 1).all allB = true := by decide +kernel
theorem ce_g43 : (List.range' 146 1).all allB = true := by decide +kernel
theorem ce_g44 : (List.range' 148 3).all allB = true := by decide +kernel
theorem ce_g45 : (List.range' 151 4).all allB = true := by decide +kernel
theorem ce_g46 : (List.range' 155 1).all allB = true := by decide +kernel
theorem ce_g47 : (List.range' 156 2).all allB = true := by decide +kernel
theorem ce_g48 : (List.range' 158 3).all allB = true := by decide +kernel
theorem ce_g49 : (List.range' 161 1).all allB = true := by decide +kernel
theorem ce_g50 : (List.range' 164 1).all allB = true := by decide +kernel
theorem ce_g51 : (List.range' 165 1).all allB = true := by decide +kernel
theorem ce_g52 : (List.range' 166 2).all allB = true := by decide +kernel
theorem ce_g53 : (List.range' 168 3).all allB = true := by decide +kernel
theorem ce_g54 : (List.range' 171 4).all allB = true := by decide +kernel
theorem ce_g55 : (List.range' 175 3).all allB = true := by decide +kernel
theorem ce_g56 : (List.range' 178 3).all allB = true := by decide +kernel
theorem ce_g57 : (List.range' 181 3).all allB = true := by decide +kernel
theorem ce_g58 : (List.range' 184 1).all allB = true := by decide +kernel
theorem ce_g59 : (List.range' 185 1).all allB = true := by decide +kernel
theorem ce_b0_0 : rowsB 0 0 40 = true := by decide +kernel
theorem ce_b0_1 : rowsB 0 40 40 = true := by decide +kernel
theorem ce_b0_2 : rowsB 0 80 40 = true := by decide +kernel
theorem ce_b0_3 : rowsB 0 120 40 = true := by decide +kernel
theorem ce_b0_4 : rowsB 0 160 40 = true := by decide +kernel
theorem ce_b0_5 : rowsB 0 200 40 = true := by decide +kernel
theorem ce_b0_6 : rowsB 0 240 40 = true := by decide +kernel
theorem ce_b0_7 : rowsB 0 280 40 = true := by decide +kernel
theorem ce_b0_8 : rowsB 0 320 40 = true := by decide +kernel
theorem ce_b0_9 : rowsB 0 360 40 = true := by decide +kernel
theorem ce_b0_10 : rowsB 0 400 40 = true := by decide +kernel
theorem ce_b0_11 : rowsB 0 440 40 = true := by decide +kernel
theorem ce_b0_12 : rowsB 0 480 40 = true := by decide +kernel
theorem ce_b0_13 : rowsB 0 520 40 = true := by decide +kernel
theorem ce_b17_0 : rowsB 17 0 40 = true := by decide +kernel
theorem ce_b17_1 : rowsB 17 40 40 = true := by decide +kernel
theorem ce_b17_2 : rowsB 17 80 40 = true := by decide +kernel
theorem ce_b17_3 : rowsB 17 120 40 = true := by decide +kernel
theorem ce_b124_0 : rowsB 124 0 40 = true := by decide +kernel
theorem ce_b124_1 : rowsB 124 40 40 = true := by decide +kernel
theorem ce_b124_2 : rowsB 124 80 40 = true := by decide +kernel
theorem ce_b124_3 : rowsB 124 120 40 = true := by decide +kernel
theorem ce_b136_0 : rowsB 136 0 40 = true := by decide +kernel
theorem ce_b136_1 : rowsB 136 40 40 = true := by decide +kernel
theorem ce_b136_2 : rowsB 136 80 40 = true := by decide +kernel
theorem ce_b136_3 : rowsB 136 120 40 = true := by decide +kernel
theorem ce_b147_0 : rowsB 147 0 40 = true := by decide +kernel
theorem ce_b147_1 : rowsB 147 40 40 = true := by decide +kernel
theorem ce_b147_2 : rowsB 147 80 40 = true := by decide +kernel
theorem ce_b147_3 : rowsB 147 120 40 = true := by decide +kernel
theorem ce_b162_0 : rowsB 162 0 40 = true := by decide +kernel
theorem ce_b162_1 : rowsB 162 40 40 = true := by decide +kernel
theorem ce_b162_2 : rowsB 162 80 40 = true := by decide +kernel
theorem ce_b162_3 : rowsB 162 120 40 = true := by decide +kernel
theorem ce_b162_4 : rowsB 162 160 40 = true := by decide +kernel
theorem ce_b163_0 : rowsB 163 0 40 = true := by decide +kernel
theorem ce_b163_1 : rowsB 163 40 40 = true := by decide +kernel
theorem ce_b163_2 : rowsB 163 80 40 = true := by decide +kernel
theorem ce_b163_3 : rowsB 163 120 40 = true := by decide +kernel
theorem ce_r0 : (List.range' 0 30).all restB = true := by decide +kernel
theorem ce_r1 : (List.range' 30 30).all restB = true := by decide +kernel
theorem ce_r2 : (List.range' 60 30).all restB = true := by decide +kernel
theorem ce_r3 : (List.range' 90 30).all restB = true := by decide +kernel
theorem ce_r4 : (List.range' 120 30).all restB = true := by decide +kernel
theorem ce_r5 : (List.range' 150 30).all restB = true := by decide +kernel
theorem ce_r6 : (List.range' 180 6).all restB = true := by decide +kernel
theorem rowsB_ok {mi a k : Nat} {M : MR} (h : rowsB mi a k = true) (hM : mT[mi]? = some M) : ∀ e ∈ ((codeOf mi).drop a).take k, rowOK M (codeOf mi) e = true := by
  unfold rowsB at h
  rw [hM] at h
  exact List.all_eq_true.mp h
theorem inG {p : Nat → Bool} {a n i : Nat} (h : (List.range' a n).all p = true) (h1 : a ≤ i) (h2 : i < a + n) : p i = true := List.all_eq_true.mp h i (List.mem_range'_1.mpr ⟨h1, h2⟩)
theorem mem_split {l : List CE} {e : CE} (a : Nat) (h : e ∈ l.drop a) (k : Nat) : e ∈ (l.drop a).take k ∨ e ∈ l.drop (a + k) := by
  rw [← List.take_append_drop k (l.drop a), List.mem_append, List.drop_drop] at h
  exact h
theorem ce_len0 : (codeOf 0).length = 539 := by decide +kernel
theorem ce_m0 {M : MR} (hM : mT[0]? = some M) : ∀ e ∈ codeOf 0, rowOK M (codeOf 0) e = true := by
  intro e he
  have h0 : e ∈ (codeOf 0).drop 0 := he
  rcases mem_split 0 h0 40 with z | h1
  · exact rowsB_ok ce_b0_0 hM e z
  rcases mem_split 40 h1 40 with z | h2
  · exact rowsB_ok ce_b0_1 hM e z
  rcases mem_split 80 h2 40 with z | h3
  · exact rowsB_ok ce_b0_2 hM e z
  rcases mem_split 120 h3 40 with z | h4
  · exact rowsB_ok ce_b0_3 hM e z
  rcases mem_split 160 h4 40 with z | h5
  · exact rowsB_ok ce_b0_4 hM e z
  rcases mem_split 200 h5 40 with z | h6
  · exact rowsB_ok ce_b0_5 hM e z
  rcases mem_split 240 h6 40 with z | h7
  · exact rowsB_ok ce_b0_6 hM e z
  rcases mem_split 280 h7 40 with z | h8
  · exact rowsB_ok ce_b0_7 hM e z
  rcases mem_split 320 h8 40 with z | h9
  · exact rowsB_ok ce_b0_8 hM e z
  rcases mem_split 360 h9 40 with z | h10
  · exact rowsB_ok ce_b0_9 hM e z
  rcases mem_split 400 h10 40 with z | h11
  · exact rowsB_ok ce_b0_10 hM e z
  rcases mem_split 440 h11 40 with z | h12
  · exact rowsB_ok ce_b0_11 hM e z
  rcases mem_split 480 h12 40 with z | h13
  · exact rowsB_ok ce_b0_12 hM e z
  rcases mem_split 520 h13 40 with z | h14
  · exact rowsB_ok ce_b0_13 hM e z
  rw [List.drop_eq_nil_of_le (by rw [ce_len0]; decide)] at h14
  cases h14
theorem ce_len17 : (codeOf 17).length = 131 := by decide +kernel
theorem ce_m17 {M : MR} (hM : mT[17]? = some M) : ∀ e ∈ codeOf 17, rowOK M (codeOf 17) e = true := by
  intro e he
  have h0 : e ∈ (codeOf 17).drop 0 := he
  rcases mem_split 0 h0 40 with z | h1
  · exact rowsB_ok ce_b17_0 hM e z
  rcases mem_split 40 h1 40 with z | h2
  · exact rowsB_ok ce_b17_1 hM e z
  rcases mem_split 80 h2 40 with z | h3
  · exact rowsB_ok ce_b17_2 hM e z
  rcases mem_split 120 h3 40 with z | h4
  · exact rowsB_ok ce_b17_3 hM e z
  rw [List.drop_eq_nil_of_le (by rw [ce_len17]; decide)] at h4
  cases h4
theorem ce_len124 : (codeOf 124).length = 141 := by decide +kernel
theorem ce_m124 {M : MR} (hM : mT[124]? = some M) : ∀ e ∈ codeOf 124, rowOK M (codeOf 124) e = true := by
  intro e he
  have h0 : e ∈ (codeOf 124).drop 0 := he
  rcases mem_split 0 h0 40 with z | h1
  · exact rowsB_ok ce_b124_0 hM e z
  rcases mem_split 40 h1 40 with z | h2
  · exact rowsB_ok ce_b124_1 hM e z
  rcases mem_split 80 h2 40 with z | h3
  · exact rowsB_ok ce_b124_2 hM e z
  rcases mem_split 120 h3 40 with z | h4
  · exact rowsB_ok ce_b124_3 hM e z
  rw [List.drop_eq_nil_of_le (by rw [ce_len124]; decide)] at h4
  cases h4
theorem ce_len136 : (codeOf 136).length = 154 := by decide +kernel
theorem ce_m136 {M : MR} (hM : mT[136]? = some M) : ∀ e ∈ codeOf 136, rowOK M (codeOf 136) e = true := by
  intro e he
  have h0 : e ∈ (codeOf 136).drop 0 := he
  rcases mem_split 0 h0 40 with z | h1
  · exact rowsB_ok ce_b136_0 hM e z
  rcases mem_split 40 h1 40 with z | h2
  · exact rowsB_ok ce_b136_1 hM e z
  rcases mem_split 80 h2 40 with z | h3
  · exact rowsB_ok ce_b136_2 hM e z
  rcases mem_split 120 h3 40 with z | h4
  · exact rowsB_ok ce_b136_3 hM e z
  rw [List.drop_eq_nil_of_le (by rw [ce_len136]; decide)] at h4
  cases h4
theorem ce_len147 : (codeOf 147).length = 136 := by decide +kernel
theorem ce_m147 {M : MR} (hM : mT[147]? = some M) : ∀ e ∈ codeOf 147, rowOK M (codeOf 147) e = true := by
  intro e he
  have h0 : e ∈ (codeOf 147).drop 0 := he
  rcases mem_split 0 h0 40 with z | h1
  · exact rowsB_ok ce_b147_0 hM e z
  rcases mem_split 40 h1 40 with z | h2
  · exact rowsB_ok ce_b147_1 hM e z
  rcases mem_split 80 h2 40 with z | h3
  · exact rowsB_ok ce_b147_2 hM e z
  rcases mem_split 120 h3 40 with z | h4
  · exact rowsB_ok ce_b147_3 hM e z
  rw [List.drop_eq_nil_of_le (by rw [ce_len147]; decide)] at h4
  cases h4
theorem ce_len162 : (codeOf 162).length = 168 := by decide +kernel
theorem ce_m162 {M : MR} (hM : mT[162]? = some M) : ∀ e ∈ codeOf 162, rowOK M (codeOf 162) e = true := by
  intro e he
  have h0 : e ∈ (codeOf 162).drop 0 := he
  rcases mem_split 0 h0 40 with z | h1
  · exact rowsB_ok ce_b162_0 hM e z
  rcases mem_split 40 h1 40 with z | h2
  · exact rowsB_ok ce_b162_1 hM e z
  rcases mem_split 80 h2 40 with z | h3
  · exact rowsB_ok ce_b162_2 hM e z
  rcases mem_split 120 h3 40 with z | h4
  · exact rowsB_ok ce_b162_3 hM e z
  rcases mem_split 160 h4 40 with z | h5
  · exact rowsB_ok ce_b162_4 hM e z
  rw [List.drop_eq_nil_of_le (by rw [ce_len162]; decide)] at h5
  cases h5
theorem ce_len163 : (codeOf 163).length = 150 := by decide +kernel
theorem ce_m163 {M : MR} (hM : mT[163]? = some M) : ∀ e ∈ codeOf 163, rowOK M (codeOf 163) e = true := by
  intro e he
  have h0 : e ∈ (codeOf 163).drop 0 := he
  rcases mem_split 0 h0 40 with z | h1
  · exact rowsB_ok ce_b163_0 hM e z
  rcases mem_split 40 h1 40 with z | h2
  · exact rowsB_ok ce_b163_1 hM e z
  rcases mem_split 80 h2 40 with z | h3
  · exact rowsB_ok ce_b163_2 hM e z
  rcases mem_split 120 h3 40 with z | h4
  · exact rowsB_ok ce_b163_3 hM e z
  rw [List.drop_eq_nil_of_le (by rw [ce_len163]; decide)] at h4
  cases h4
theorem ce_mT : mT.length = 186 := by decide +kernel
theorem ce_short : (List.range 186).all (fun i => Nat.ble (codeOf i).length 1000) = true := by decide +kernel
theorem ce_rows (mi : Nat) (M : MR) (hM : mT[mi]? = some M) : ∀ e ∈ codeOf mi, rowOK M (codeOf mi) e = true := by
  have hlt : mi < 186 := by rw [← ce_mT]; exact (List.getElem?_eq_some_iff.mp hM).1
  have hall : allB mi = true → ∀ e ∈ codeOf mi, rowOK M (codeOf mi) e = true := by
    intro h e he
    have h1 : (codeOf mi).length ≤ 1000 := ble_of (List.all_eq_true.mp ce_short mi (List.mem_range.mpr hlt))
    exact rowsB_ok h hM e (by rw [List.drop_zero, List.take_of_length_le h1]; exact he)
  by_cases z0 : mi = 0
  · subst z0
    exact ce_m0 hM
  by_cases z17 : mi = 17
  · subst z17
    exact ce_m17 hM
  by_cases z124 : mi = 124
  · subst z124
    exact ce_m124 hM
  by_cases z136 : mi = 136
  · subst z136
    exact ce_m136 hM
  by_cases z147 : mi = 147
  · subst z147
    exact ce_m147 hM
  by_cases z162 : mi = 162
  · subst z162
    exact ce_m162 hM
  by_cases z163 : mi = 163
  · subst z163
    exact ce_m163 hM
  by_cases g0 : 1 ≤ mi ∧ mi < 1 + 5
  · exact hall (inG ce_g0 g0.1 g0.2)
  by_cases g1 : 6 ≤ mi ∧ mi < 6 + 7
  · exact hall (inG ce_g1 g1.1 g1.2)
  by_cases g2 : 13 ≤ mi ∧ mi < 13 + 4
  · exact hall (inG ce_g2 g2.1 g2.2)
  by_cases g3 : 18 ≤ mi ∧ mi < 18 + 4
  · exact hall (inG ce_g3 g3.1 g3.2)
  by_cases g4 : 22 ≤ mi ∧ mi < 22 + 3
  · exact hall (inG ce_g4 g4.1 g4.2)
  by_cases g5 : 25 ≤ mi ∧ mi < 25 + 2
  · exact hall (inG ce_g5 g5.1 g5.2)
  by_cases g6 : 27 ≤ mi ∧ mi < 27 + 3
  · exact hall (inG ce_g6 g6.1 g6.2)
  by_cases g7 : 30 ≤ mi ∧ mi < 30 + 3
  · exact hall (inG ce_g7 g7.1 g7.2)
  by_cases g8 : 33 ≤ mi ∧ mi < 33 + 2
  · exact hall (inG ce_g8 g8.1 g8.2)
  by_cases g9 : 35 ≤ mi ∧ mi < 35 + 4
  · exact hall (inG ce_g9 g9.1 g9.2)
  by_cases g10 : 39 ≤ mi ∧ mi < 39 + 4
  · exact hall (inG ce_g10 g10.1 g10.2)
  by_cases g11 : 43 ≤ mi ∧ mi < 43 + 5
  · exact hall (inG ce_g11 g11.1 g11.2)
  by_cases g12 : 48 ≤ mi ∧ mi < 48 + 3
  · exact hall (inG ce_g12 g12.1 g12.2)
  by_cases g13 : 51 ≤ mi ∧ mi < 51 + 2
  · exact hall (inG ce_g13 g13.1 g13.2)
  by_cases g14 : 53 ≤ mi ∧ mi < 53 + 5
  · exact hall (inG ce_g14 g14.1 g14.2)
  by_cases g15 : 58 ≤ mi ∧ mi < 58 + 5
  · exact hall (inG ce_g15 g15.1 g15.2)
  by_cases g16 : 63 ≤ mi ∧ mi < 63 + 2
  · exact hall (inG ce_g16 g16.1 g16.2)
  by_cases g17 : 65 ≤ mi ∧ mi < 65 + 3
  · exact hall (inG ce_g17 g17.1 g17.2)
  by_cases g18 : 68 ≤ mi ∧ mi < 68 + 4
  · exact hall (inG ce_g18 g18.1 g18.2)
  by_cases g19 : 72 ≤ mi ∧ mi < 72 + 3
  · exact hall (inG ce_g19 g19.1 g19.2)
  by_cases g20 : 75 ≤ mi ∧ mi < 75 + 5
  · exact hall (inG ce_g20 g20.1 g20.2)
  by_cases g21 : 80 ≤ mi ∧ mi < 80 + 4
  · exact hall (inG ce_g21 g21.1 g21.2)
  by_cases g22 : 84 ≤ mi ∧ mi < 84 + 4
  · exact hall (inG ce_g22 g22.1 g22.2)
  by_cases g23 : 88 ≤ mi ∧ mi < 88 + 3
  · exact hall (inG ce_g23 g23.1 g23.2)
  by_cases g24 : 91 ≤ mi ∧ mi < 91 + 3
  · exact hall (inG ce_g24 g24.1 g24.2)
  by_cases g25 : 94 ≤ mi ∧ mi < 94 + 3
  · exact hall (inG ce_g25 g25.1 g25.2)
  by_cases g26 : 97 ≤ mi ∧ mi < 97 + 5
  · exact hall (inG ce_g26 g26.1 g26.2)
  by_cases g27 : 102 ≤ mi ∧ mi < 102 + 4
  · exact hall (inG ce_g27 g27.1 g27.2)
  by_cases g28 : 106 ≤ mi ∧ mi < 106 + 2
  · exact hall (inG ce_g28 g28.1 g28.2)
  by_cases g29 : 108 ≤ mi ∧ mi < 108 + 3
  · exact hall (inG ce_g29 g29.1 g29.2)
  by_cases g30 : 111 ≤ mi ∧ mi < 111 + 3
  · exact hall (inG ce_g30 g30.1 g30.2)
  by_cases g31 : 114 ≤ mi ∧ mi < 114 + 2
  · exact hall (inG ce_g31 g31.1 g31.2)
  by_cases g32 : 116 ≤ mi ∧ mi < 116 + 1
  · exact hall (inG ce_g32 g32.1 g32.2)
  by_cases g33 : 117 ≤ mi ∧ mi < 117 + 1
  · exact hall (inG ce_g33 g33.1 g33.2)
  by_cases g34 : 118 ≤ mi ∧ mi < 118 + 3
  · exact hall (inG ce_g34 g34.1 g34.2)
  by_cases g35 : 121 ≤ mi ∧ mi < 121 + 3
  · exact hall (inG ce_g35 g35.1 g35.2)
  by_cases g36 : 125 ≤ mi ∧ mi < 125 + 3
  · exact hall (inG ce_g36 g36.1 g36.2)
  by_cases g37 : 128 ≤ mi ∧ mi < 128 + 1
  · exact hall (inG ce_g37 g37.1 g37.2)
  by_cases g38 : 129 ≤ mi ∧ mi < 129 + 6
  · exact hall (inG ce_g38 g38.1 g38.2)
  by_cases g39 : 135 ≤ mi ∧ mi < 135 + 1
  · exact hall (inG ce_g39 g39.1 g39.2)
  by_cases g40 : 137 ≤ mi ∧ mi < 137 + 5
  · exact hall (inG ce_g40 g40.1 g40.2)
  by_cases g41 : 142 ≤ mi ∧ mi < 142 + 3
  · exact hall (inG ce_g41 g41.1 g41.2)
  by_cases g42 : 145 ≤ mi ∧ mi < 145 + 1
  · exact hall (inG ce_g42 g42.1 g42.2)
  by_cases g43 : 146 ≤ mi ∧ mi < 146 + 1
  · exact hall (inG ce_g43 g43.1 g43.2)
  by_cases g44 : 148 ≤ mi ∧ mi < 148 + 3
  · exact hall (inG ce_g44 g44.1 g44.2)
  by_cases g45 : 151 ≤ mi ∧ mi < 151 + 4
  · exact hall (inG ce_g45 g45.1 g45.2)
  by_cases g46 : 155 ≤ mi ∧ mi < 155 + 1
  · exact hall (inG ce_g46 g46.1 g46.2)
  by_cases g47 : 156 ≤ mi ∧ mi < 156 + 2
  · exact hall (inG ce_g47 g47.1 g47.2)
  by_cases g48 : 158 ≤ mi ∧ mi < 158 + 3
  · exact hall (inG ce_g48 g48.1 g48.2)
  by_cases g49 : 161 ≤ mi ∧ mi < 161 + 1
  · exact hall (inG ce_g49 g49.1 g49.2)
  by_cases g50 : 164 ≤ mi ∧ mi < 164 + 1
  · exact hall (inG ce_g50 g50.1 g50.2)
  by_cases g51 : 165 ≤ mi ∧ mi < 165 + 1
  · exact hall (inG ce_g51 g51.1 g51.2)
  by_cases g52 : 166 ≤ mi ∧ mi < 166 + 2
  · exact hall (inG ce_g52 g52.1 g52.2)
  by_cases g53 : 168 ≤ mi ∧ mi < 168 + 3
  · exact hall (inG ce_g53 g53.1 g53.2)
  by_cases g54 : 171 ≤ mi ∧ mi < 171 + 4
  · exact hall (inG ce_g54 g54.1 g54.2)
  by_cases g55 : 175 ≤ mi ∧ mi < 175 + 3
  · exact hall (inG ce_g55 g55.1 g55.2)
  by_cases g56 : 178 ≤ mi ∧ mi < 178 + 3
  · exact hall (inG ce_g56 g56.1 g56.2)
  by_cases g57 : 181 ≤ mi ∧ mi < 181 + 3
  · exact hall (inG ce_g57 g57.1 g57.2)
  by_cases g58 : 184 ≤ mi ∧ mi < 184 + 1
  · exact hall (inG ce_g58 g58.1 g58.2)
  by_cases g59 : 185 ≤ mi ∧ mi < 185 + 1
  · exact hall (inG ce_g59 g59.1 g59.2)
  exfalso
  omega
theorem ce_rest (mi : Nat) (M : MR) (hM : mT[mi]? = some M) : restB mi = true := by
  have hlt : mi < 186 := by rw [← ce_mT]; exact (List.getElem?_eq_some_iff.mp hM).1
  by_cases g0 : mi < 0 + 30
  · exact inG ce_r0 (by omega) g0
  by_cases g1 : mi < 30 + 30
  · exact inG ce_r1 (by omega) g1
  by_cases g2 : mi < 60 + 30
  · exact inG ce_r2 (by omega) g2
  by_cases g3 : mi < 90 + 30
  · exact inG ce_r3 (by omega) g3
  by_cases g4 : mi < 120 + 30
  · exact inG ce_r4 (by omega) g4
  by_cases g5 : mi < 150 + 30
  · exact inG ce_r5 (by omega) g5
  by_cases g6 : mi < 180 + 6
  · exact inG ce_r6 (by omega) g6
  exfalso
  omega
theorem cert_all : CertAll := by
  intro mi M hM
  have h := ce_rest mi M hM
  unfold restB at h
  rw [hM] at h
  simp only [Bool.and_eq_true, Bool.or_eq_true] at h
  obtain ⟨⟨h1, h2⟩, h3⟩ := h
  refine ⟨ce_rows mi M hM, h1, ?_, fun hne => ?_⟩
  · generalize codeOf mi = l at h2
    cases l with
    | nil => cases h2
    | cons e r => exact ⟨e, r, rfl, beq_of h2⟩
  · rcases h3 with z | z
    · exact absurd (beq_of z) hne
    · exact z

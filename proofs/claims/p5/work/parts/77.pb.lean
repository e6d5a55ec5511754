/-! ===== by program (wip/gen/m77.py): run, undo, ifBudget, bestBudget ===== -/
theorem kc143_eq : codeOf 143 = kc143 := rfl
theorem hk_143 : 143 < 186 := by decide
theorem rw_143_0 : (codeOf 143)[0]? = some (0, .iload 1, 1, 0, 0, 1, []) := by rw [kc143_eq]; rfl
theorem rw_143_1 : (codeOf 143)[1]? = some (1, .iconst 1, 2147483649, 0, 0, 1, []) := by rw [kc143_eq]; rfl
theorem rw_143_2 : (codeOf 143)[2]? = some (2, .iconst 60, 2147483708, 0, 0, 2, []) := by rw [kc143_eq]; rfl
theorem rw_143_3 : (codeOf 143)[3]? = some (4, .invokestatic 58, 121, 0, 0, 3, []) := by rw [kc143_eq]; rfl
theorem rw_143_4 : (codeOf 143)[4]? = some (7, .ifCond .ne 5, 12, 7, 0, 3, []) := by rw [kc143_eq]; rfl
theorem rw_143_5 : (codeOf 143)[5]? = some (10, .iconst (-1), 2147483647, 0, 0, 1, []) := by rw [kc143_eq]; rfl
theorem rw_143_6 : (codeOf 143)[6]? = some (11, .ireturn, 1, 0, 0, 1, []) := by rw [kc143_eq]; rfl
theorem rw_143_7 : (codeOf 143)[7]? = some (12, .aload 0, 0, 0, 3, 1, []) := by rw [kc143_eq]; rfl
theorem rw_143_8 : (codeOf 143)[8]? = some (13, .invokevirtual 83, 126, 0, 0, 3, []) := by rw [kc143_eq]; rfl
theorem rw_143_9 : (codeOf 143)[9]? = some (16, .aload 0, 0, 0, 3, 1, []) := by rw [kc143_eq]; rfl
theorem rw_143_10 : (codeOf 143)[10]? = some (17, .iload 1, 1, 0, 0, 1, []) := by rw [kc143_eq]; rfl
theorem rw_143_11 : (codeOf 143)[11]? = some (18, .invokevirtual 172, 144, 0, 0, 3, []) := by rw [kc143_eq]; rfl
theorem rw_143_12 : (codeOf 143)[12]? = some (21, .ireturn, 1, 0, 0, 1, []) := by rw [kc143_eq]; rfl
theorem kc179_eq : codeOf 179 = kc179 := rfl
theorem hk_179 : 179 < 186 := by decide
theorem rw_179_0 : (codeOf 179)[0]? = some (0, .iload 1, 1, 0, 0, 1, []) := by rw [kc179_eq]; rfl
theorem rw_179_1 : (codeOf 179)[1]? = some (1, .iconst 1, 2147483649, 0, 0, 1, []) := by rw [kc179_eq]; rfl
theorem rw_179_2 : (codeOf 179)[2]? = some (2, .iconst 200, 2147483848, 0, 0, 3, []) := by rw [kc179_eq]; rfl
theorem rw_179_3 : (codeOf 179)[3]? = some (5, .invokestatic 58, 121, 0, 0, 3, []) := by rw [kc179_eq]; rfl
theorem rw_179_4 : (codeOf 179)[4]? = some (8, .ifCond .eq 22, 30, 15, 0, 3, []) := by rw [kc179_eq]; rfl
theorem rw_179_5 : (codeOf 179)[5]? = some (11, .iload 2, 2, 0, 0, 1, []) := by rw [kc179_eq]; rfl
theorem rw_179_6 : (codeOf 179)[6]? = some (12, .iconst 1, 2147483649, 0, 0, 1, []) := by rw [kc179_eq]; rfl
theorem rw_179_7 : (codeOf 179)[7]? = some (13, .iconst 60, 2147483708, 0, 0, 2, []) := by rw [kc179_eq]; rfl
theorem rw_179_8 : (codeOf 179)[8]? = some (15, .invokestatic 58, 121, 0, 0, 3, []) := by rw [kc179_eq]; rfl
theorem rw_179_9 : (codeOf 179)[9]? = some (18, .ifCond .eq 12, 30, 15, 0, 3, []) := by rw [kc179_eq]; rfl
theorem rw_179_10 : (codeOf 179)[10]? = some (21, .aload 0, 0, 0, 3, 1, []) := by rw [kc179_eq]; rfl
theorem rw_179_11 : (codeOf 179)[11]? = some (22, .iload 1, 1, 0, 0, 1, []) := by rw [kc179_eq]; rfl
theorem rw_179_12 : (codeOf 179)[12]? = some (23, .iload 2, 2, 0, 0, 1, []) := by rw [kc179_eq]; rfl
theorem rw_179_13 : (codeOf 179)[13]? = some (24, .invokevirtual 189, 180, 0, 0, 3, []) := by rw [kc179_eq]; rfl
theorem rw_179_14 : (codeOf 179)[14]? = some (27, .goto 4, 31, 16, 0, 3, []) := by rw [kc179_eq]; rfl
theorem rw_179_15 : (codeOf 179)[15]? = some (30, .iconst (-1), 2147483647, 0, 0, 1, []) := by rw [kc179_eq]; rfl
theorem rw_179_16 : (codeOf 179)[16]? = some (31, .ireturn, 1, 0, 0, 1, []) := by rw [kc179_eq]; rfl
theorem kc180_eq : codeOf 180 = kc180 := rfl
theorem hk_180 : 180 < 186 := by decide
theorem rw_180_0 : (codeOf 180)[0]? = some (0, .aload 0, 0, 0, 3, 1, []) := by rw [kc180_eq]; rfl
theorem rw_180_1 : (codeOf 180)[1]? = some (1, .iconst 0, 2147483648, 0, 0, 1, []) := by rw [kc180_eq]; rfl
theorem rw_180_2 : (codeOf 180)[2]? = some (2, .iconst 6, 2147483654, 0, 0, 2, []) := by rw [kc180_eq]; rfl
theorem rw_180_3 : (codeOf 180)[3]? = some (4, .monitorenter, 127, 0, 0, 3, []) := by rw [kc180_eq]; rfl
theorem rw_180_4 : (codeOf 180)[4]? = some (7, .aload 0, 0, 0, 3, 1, []) := by rw [kc180_eq]; rfl
theorem rw_180_5 : (codeOf 180)[5]? = some (8, .getfield 7, 9, 0, 3, 3, []) := by rw [kc180_eq]; rfl
theorem rw_180_6 : (codeOf 180)[6]? = some (11, .iconst 210, 2147483858, 0, 0, 3, []) := by rw [kc180_eq]; rfl
theorem rw_180_7 : (codeOf 180)[7]? = some (14, .iload 1, 1, 0, 0, 1, []) := by rw [kc180_eq]; rfl
theorem rw_180_8 : (codeOf 180)[8]? = some (15, .iastore, 0, 0, 0, 1, []) := by rw [kc180_eq]; rfl
theorem rw_180_9 : (codeOf 180)[9]? = some (16, .aload 0, 0, 0, 3, 1, []) := by rw [kc180_eq]; rfl
theorem rw_180_10 : (codeOf 180)[10]? = some (17, .iload 2, 2, 0, 0, 1, []) := by rw [kc180_eq]; rfl
theorem rw_180_11 : (codeOf 180)[11]? = some (18, .invokevirtual 172, 144, 0, 0, 3, []) := by rw [kc180_eq]; rfl
theorem rw_180_12 : (codeOf 180)[12]? = some (21, .istore 3, 3, 0, 0, 1, []) := by rw [kc180_eq]; rfl
theorem rw_180_13 : (codeOf 180)[13]? = some (22, .aload 0, 0, 0, 3, 1, []) := by rw [kc180_eq]; rfl
theorem rw_180_14 : (codeOf 180)[14]? = some (23, .iconst 6, 2147483654, 0, 0, 2, []) := by rw [kc180_eq]; rfl
theorem rw_180_15 : (codeOf 180)[15]? = some (25, .iconst 0, 2147483648, 0, 0, 1, []) := by rw [kc180_eq]; rfl
theorem rw_180_16 : (codeOf 180)[16]? = some (26, .monitorenter, 127, 0, 0, 3, []) := by rw [kc180_eq]; rfl
theorem rw_180_17 : (codeOf 180)[17]? = some (29, .iload 3, 3, 0, 0, 1, []) := by rw [kc180_eq]; rfl
theorem rw_180_18 : (codeOf 180)[18]? = some (30, .ireturn, 1, 0, 0, 1, []) := by rw [kc180_eq]; rfl
theorem kc181_eq : codeOf 181 = kc181 := rfl
theorem hk_181 : 181 < 186 := by decide
theorem rw_181_0 : (codeOf 181)[0]? = some (0, .iload 1, 1, 0, 0, 1, []) := by rw [kc181_eq]; rfl
theorem rw_181_1 : (codeOf 181)[1]? = some (1, .iconst 1, 2147483649, 0, 0, 1, []) := by rw [kc181_eq]; rfl
theorem rw_181_2 : (codeOf 181)[2]? = some (2, .iconst 15, 2147483663, 0, 0, 2, []) := by rw [kc181_eq]; rfl
theorem rw_181_3 : (codeOf 181)[3]? = some (4, .invokestatic 58, 121, 0, 0, 3, []) := by rw [kc181_eq]; rfl
theorem rw_181_4 : (codeOf 181)[4]? = some (7, .ifCond .ne 5, 12, 7, 0, 3, []) := by rw [kc181_eq]; rfl
theorem rw_181_5 : (codeOf 181)[5]? = some (10, .iconst (-1), 2147483647, 0, 0, 1, []) := by rw [kc181_eq]; rfl
theorem rw_181_6 : (codeOf 181)[6]? = some (11, .ireturn, 1, 0, 0, 1, []) := by rw [kc181_eq]; rfl
theorem rw_181_7 : (codeOf 181)[7]? = some (12, .iconst 20, 2147483668, 0, 0, 2, []) := by rw [kc181_eq]; rfl
theorem rw_181_8 : (codeOf 181)[8]? = some (14, .istore 2, 2, 0, 0, 1, []) := by rw [kc181_eq]; rfl
theorem rw_181_9 : (codeOf 181)[9]? = some (15, .aload 0, 0, 0, 3, 1, []) := by rw [kc181_eq]; rfl
theorem rw_181_10 : (codeOf 181)[10]? = some (16, .iconst 20, 2147483668, 0, 0, 2, []) := by rw [kc181_eq]; rfl
theorem rw_181_11 : (codeOf 181)[11]? = some (18, .iload 1, 1, 0, 0, 1, []) := by rw [kc181_eq]; rfl
theorem rw_181_12 : (codeOf 181)[12]? = some (19, .invokevirtual 189, 180, 0, 0, 3, []) := by rw [kc181_eq]; rfl
theorem rw_181_13 : (codeOf 181)[13]? = some (22, .istore 3, 3, 0, 0, 1, []) := by rw [kc181_eq]; rfl
theorem rw_181_14 : (codeOf 181)[14]? = some (23, .iconst 40, 2147483688, 0, 0, 2, []) := by rw [kc181_eq]; rfl
theorem rw_181_15 : (codeOf 181)[15]? = some (25, .istore 4, 4, 0, 0, 2, []) := by rw [kc181_eq]; rfl
theorem rw_181_16 : (codeOf 181)[16]? = some (27, .monitorexit, 1448, 0, 0, 0, []) := by rw [kc181_eq]; rfl
theorem rw_181_17 : (codeOf 181)[17]? = some (27, .iload 4, 4, 0, 0, 2, []) := by rw [kc181_eq]; rfl
theorem rw_181_18 : (codeOf 181)[18]? = some (29, .iconst 100, 2147483748, 0, 0, 2, []) := by rw [kc181_eq]; rfl
theorem rw_181_19 : (codeOf 181)[19]? = some (31, .if_icmp .gt 44, 75, 41, 0, 3, []) := by rw [kc181_eq]; rfl
theorem rw_181_20 : (codeOf 181)[20]? = some (34, .aload 0, 0, 0, 3, 1, []) := by rw [kc181_eq]; rfl
theorem rw_181_21 : (codeOf 181)[21]? = some (35, .iload 4, 4, 0, 0, 2, []) := by rw [kc181_eq]; rfl
theorem rw_181_22 : (codeOf 181)[22]? = some (37, .iload 1, 1, 0, 0, 1, []) := by rw [kc181_eq]; rfl
theorem rw_181_23 : (codeOf 181)[23]? = some (38, .invokevirtual 189, 180, 0, 0, 3, []) := by rw [kc181_eq]; rfl
theorem rw_181_24 : (codeOf 181)[24]? = some (41, .istore 5, 5, 0, 0, 2, []) := by rw [kc181_eq]; rfl
theorem rw_181_25 : (codeOf 181)[25]? = some (43, .iload 5, 5, 0, 0, 2, []) := by rw [kc181_eq]; rfl
theorem rw_181_26 : (codeOf 181)[26]? = some (45, .iload 3, 3, 0, 0, 1, []) := by rw [kc181_eq]; rfl
theorem rw_181_27 : (codeOf 181)[27]? = some (46, .if_icmp .le 8, 54, 30, 0, 3, []) := by rw [kc181_eq]; rfl
theorem rw_181_28 : (codeOf 181)[28]? = some (49, .iload 4, 4, 0, 0, 2, []) := by rw [kc181_eq]; rfl
theorem rw_181_29 : (codeOf 181)[29]? = some (51, .goto 4, 55, 31, 0, 3, []) := by rw [kc181_eq]; rfl
theorem rw_181_30 : (codeOf 181)[30]? = some (54, .iload 2, 2, 0, 0, 1, []) := by rw [kc181_eq]; rfl
theorem rw_181_31 : (codeOf 181)[31]? = some (55, .istore 2, 2, 0, 0, 1, []) := by rw [kc181_eq]; rfl
theorem rw_181_32 : (codeOf 181)[32]? = some (56, .iload 5, 5, 0, 0, 2, []) := by rw [kc181_eq]; rfl
theorem rw_181_33 : (codeOf 181)[33]? = some (58, .iload 3, 3, 0, 0, 1, []) := by rw [kc181_eq]; rfl
theorem rw_181_34 : (codeOf 181)[34]? = some (59, .if_icmp .le 8, 67, 37, 0, 3, []) := by rw [kc181_eq]; rfl
theorem rw_181_35 : (codeOf 181)[35]? = some (62, .iload 5, 5, 0, 0, 2, []) := by rw [kc181_eq]; rfl
theorem rw_181_36 : (codeOf 181)[36]? = some (64, .goto 4, 68, 38, 0, 3, []) := by rw [kc181_eq]; rfl
theorem rw_181_37 : (codeOf 181)[37]? = some (67, .iload 3, 3, 0, 0, 1, []) := by rw [kc181_eq]; rfl
theorem rw_181_38 : (codeOf 181)[38]? = some (68, .istore 3, 3, 0, 0, 1, []) := by rw [kc181_eq]; rfl
theorem rw_181_39 : (codeOf 181)[39]? = some (69, .iinc 4 20, 4, 20, 0, 3, []) := by rw [kc181_eq]; rfl
theorem rw_181_40 : (codeOf 181)[40]? = some (72, .goto (-45), 27, 16, 0, 3, []) := by rw [kc181_eq]; rfl
theorem rw_181_41 : (codeOf 181)[41]? = some (75, .iload 2, 2, 0, 0, 1, []) := by rw [kc181_eq]; rfl
theorem rw_181_42 : (codeOf 181)[42]? = some (76, .ireturn, 1, 0, 0, 1, []) := by rw [kc181_eq]; rfl
theorem kc183_eq : codeOf 183 = kc183 := rfl
theorem hk_183 : 183 < 186 := by decide
theorem rw_183_0 : (codeOf 183)[0]? = some (0, .aload 0, 0, 0, 3, 1, []) := by rw [kc183_eq]; rfl
theorem rw_183_1 : (codeOf 183)[1]? = some (1, .getfield 51, 9, 1, 0, 3, []) := by rw [kc183_eq]; rfl
theorem rw_183_2 : (codeOf 183)[2]? = some (4, .ifCond .ne 6, 10, 5, 0, 3, []) := by rw [kc183_eq]; rfl
theorem rw_183_3 : (codeOf 183)[3]? = some (7, .iconst (-2), 2147483646, 0, 0, 2, []) := by rw [kc183_eq]; rfl
theorem rw_183_4 : (codeOf 183)[4]? = some (9, .ireturn, 1, 0, 0, 1, []) := by rw [kc183_eq]; rfl
theorem rw_183_5 : (codeOf 183)[5]? = some (10, .aload 0, 0, 0, 3, 1, []) := by rw [kc183_eq]; rfl
theorem rw_183_6 : (codeOf 183)[6]? = some (11, .aload 0, 0, 0, 3, 1, []) := by rw [kc183_eq]; rfl
theorem rw_183_7 : (codeOf 183)[7]? = some (12, .getfield 51, 9, 1, 0, 3, []) := by rw [kc183_eq]; rfl
theorem rw_183_8 : (codeOf 183)[8]? = some (15, .iconst 0, 2147483648, 0, 0, 1, []) := by rw [kc183_eq]; rfl
theorem rw_183_9 : (codeOf 183)[9]? = some (16, .monitorenter, 127, 0, 0, 3, []) := by rw [kc183_eq]; rfl
theorem rw_183_10 : (codeOf 183)[10]? = some (19, .aload 0, 0, 0, 3, 1, []) := by rw [kc183_eq]; rfl
theorem rw_183_11 : (codeOf 183)[11]? = some (20, .dup, 0, 0, 0, 1, []) := by rw [kc183_eq]; rfl
theorem rw_183_12 : (codeOf 183)[12]? = some (21, .getfield 51, 9, 1, 0, 3, []) := by rw [kc183_eq]; rfl
theorem rw_183_13 : (codeOf 183)[13]? = some (24, .iconst 1, 2147483649, 0, 0, 1, []) := by rw [kc183_eq]; rfl
theorem rw_183_14 : (codeOf 183)[14]? = some (25, .isub, 0, 0, 0, 1, []) := by rw [kc183_eq]; rfl
theorem rw_183_15 : (codeOf 183)[15]? = some (26, .putfield 51, 9, 1, 0, 3, []) := by rw [kc183_eq]; rfl
theorem rw_183_16 : (codeOf 183)[16]? = some (29, .aload 0, 0, 0, 3, 1, []) := by rw [kc183_eq]; rfl
theorem rw_183_17 : (codeOf 183)[17]? = some (30, .getfield 51, 9, 1, 0, 3, []) := by rw [kc183_eq]; rfl
theorem rw_183_18 : (codeOf 183)[18]? = some (33, .ireturn, 1, 0, 0, 1, []) := by rw [kc183_eq]; rfl
section MN
variable {d k j : Nat} {lv : List (Option Value)} {st : List Value} {ph : PH} {Q : Option Value → PH → Prop} {B : PH} {p : Nat → Int32} {a : Nat → Nat → Int32} {z : Nat → Int32}
theorem MInv_hi {T T' r : Nat} {q q2 z : Nat → Int32} (hr : r ≤ 5) (hz : z 0 = iv (r : Int)) (hP : PIn T q r) (h0 : PageOK T' q2) (hT : T ≤ T') (hH : ∀ i, 2000 ≤ i → q2 i = q i) : MInv T' q2 z := by
  refine ⟨r, hr, hz, fun s hs => ?_⟩
  by_cases e : s = 0
  · subst e
    exact sl0.mpr h0
  · exact ((hP s hs).congr (fun i _ => by unfold sl; exact hH _ (by omega))).up hT
theorem PageOK.bud {T : Nat} {p : Nat → Int32} {b : Int} (h : PageOK T p) (h1 : 1 ≤ b) (h2 : b ≤ 200) : PageOK T (upd p 210 (iv b)) := by
  obtain ⟨⟨a1, a2, a3⟩, a4⟩ := h
  refine ⟨⟨fun c hc => ?_, ?_, a3.of_eq (fun c hc => ⟨uq_ne (by omega), uq_ne (by omega)⟩)⟩, a4.of_eq (uq_ne (by omega)) (uq_ne (by omega)) (fun c hc => uq_ne (by omega)) (fun i _ _ => uq_ne (by omega))⟩
  · obtain ⟨b1, b2, b3, b4⟩ := a1 c hc
    refine ⟨b1.of_eq (uq_ne (by omega)), b2.of_eq (uq_ne (by omega)), b3.of_eq (uq_ne (by omega)), fun ho => ?_⟩
    obtain ⟨c1, c2⟩ := b4 (by rw [← ho, uq_ne (by omega)])
    exact ⟨c1.of_eq (uq_ne (by omega)), c2.of_eq (uq_ne (by omega))⟩
  · obtain ⟨b1, b2, b3, b4, b5, b6⟩ := a2
    exact ⟨⟨b, uq_eq, h1, h2⟩, b2.of_eq (uq_ne (by omega)), b3.of_eq (uq_ne (by omega)), b4.of_eq (uq_ne (by omega)), b5.of_eq (uq_ne (by omega)), b6.of_eq (uq_ne (by omega))⟩
theorem tr_page {T r : Nat} {p : Nat → Int32} {b : Int} (hP : PIn T p r) (h1 : 1 ≤ b) (h2 : b ≤ 200) : PageOK T (upd (cpyP p 0 6 2000) 210 (iv b)) :=
  PageOK.bud ((sl0.mp (hP 0 (Nat.zero_le _))).congr (fun i hi => cpy_lo (by omega) hi)) h1 h2
theorem tr_fin {T r : Nat} {p q : Nat → Int32} {x : Int32} (hP : PIn T p r) (hr : r ≤ 5) (hH : ∀ i, 2000 ≤ i → q i = upd (cpyP p 0 6 2000) 210 x i) : PIn T (cpyP q 6 0 2000) r := by
  have key : ∀ s i, 1 ≤ s → i < 2000 → sl q s i = sl (cpyP p 0 6 2000) s i := by
    intro s i hs hi
    unfold sl
    rw [hH _ (by omega), uq_ne (by omega)]
  intro s hs
  refine (hP s hs).congr (fun i hi => ?_)
  rw [cpy_sl hi]
  by_cases e : s = 0
  · subst e
    rw [if_pos rfl, key 6 i (by omega) hi, cpy_sl hi, if_pos rfl]
  · rw [if_neg e, key s i (by omega) hi, cpy_sl hi, if_neg (by omega)]
theorem mrun_ok (d : Nat) (hB : 87 ≤ B.length) {T : Nat} {y : Int} (hy : inR y) (hT0 : T ≤ 900000) (hM : MInv T p z) : ZC (d + 8) 143 [.ref 75, .int (iv y)] (mh B p a z) (PubQ B T a z) := by
  obtain ⟨r, hr, hz, hP⟩ := hM
  refine ZC.of (lv := [some (.ref 75), some (.int (iv (y)))]) hk_143 (fun i v hv => ?_) ?_
  · match i, hv with
    | 0, hv => cases hv; rfl
    | 1, hv => cases hv; rfl
    | i + 2, hv => simp at hv
  refine zr_iload hk_143 rw_143_0 rfl ?_
  refine zi_const hk_143 rw_143_1 (c := 1) rfl ?_
  refine zi_const hk_143 rw_143_2 (c := 60) rfl ?_
  refine c_in hk_143 hB rw_143_3 (by first | assumption | (unfold inR; omega)) (by first | assumption | (unfold inR; omega)) (by first | assumption | (unfold inR; omega)) (Nat.le_of_ble_eq_true rfl) (fun h3c => ?_) (fun h3c => ?_)
  · refine zi_if_ne hk_143 rw_143_4 (by unfold inR; omega) (fun _ => ?_) (fun h => absurd h (by decide))
    refine zr_aload hk_143 rw_143_7 rfl ?_
    refine c_records hk_143 hB rw_143_8 hr hz hP (Nat.le_of_ble_eq_true rfl) (fun q z1 r1 hr hz hP hL hZ => ?_)
    refine zr_aload hk_143 rw_143_9 rfl ?_
    refine zr_iload hk_143 rw_143_10 rfl ?_
    refine c_runs hk_143 hB rw_143_11 y.toNat (by omega) (by omega) hT0 (sl0.mp (hP 0 (Nat.zero_le _))) (Nat.le_of_ble_eq_true rfl) (fun q2 b x2 hK2 hP2 hH => ?_)
    refine zr_ireturn hk_143 rw_143_12 ?_
    exact ⟨q2, b, z1, rfl, ⟨_, rfl⟩, MInv_hi hr hz hP hP2 (by omega) hH, hZ, hK2⟩
  · refine zi_if_ne hk_143 rw_143_4 (by unfold inR; omega) (fun h => absurd h (by decide)) (fun _ => ?_)
    refine zi_const hk_143 rw_143_5 (c := -1) rfl ?_
    refine zr_ireturn hk_143 rw_143_6 ?_
    exact MInv.same ⟨r, hr, hz, hP⟩
theorem undo_ok (d : Nat) (hB : 87 ≤ B.length) {T : Nat} (hM : MInv T p z) : ZC (d + 1) 183 [.ref 75] (mh B p a z) (PubQ B T a z) := by
  obtain ⟨r, hr, hz, hP⟩ := hM
  refine ZC.of (lv := [some (.ref 75)]) hk_183 (fun i v hv => ?_) ?_
  · match i, hv with
    | 0, hv => cases hv; rfl
    | i + 1, hv => simp at hv
  refine zr_aload hk_183 rw_183_0 rfl ?_
  refine mz_getf hk_183 hB rw_183_1 (by show some (Value.int (z 0)) = _; rw [hz]) ?_
  refine zi_if_ne hk_183 rw_183_2 (by unfold inR; omega) (fun h2 => ?_) (fun h2 => ?_)
  · refine zr_aload hk_183 rw_183_5 rfl ?_
    refine zr_aload hk_183 rw_183_6 rfl ?_
    refine mz_getf hk_183 hB rw_183_7 (by show some (Value.int (z 0)) = _; rw [hz]) ?_
    refine zi_const hk_183 rw_183_8 (c := 0) rfl ?_
    refine c_copies hk_183 hB rw_183_9 (r) (0) (by omega) (by omega) (by omega) (by omega) (Nat.le_of_ble_eq_true rfl) ?_
    refine zr_aload hk_183 rw_183_10 rfl ?_
    refine zr_dup hk_183 rw_183_11 rfl ?_
    refine mz_getf hk_183 hB rw_183_12 (by show some (Value.int (z 0)) = _; rw [hz]) ?_
    refine zi_const hk_183 rw_183_13 (c := 1) rfl ?_
    refine zi_sub hk_183 rw_183_14 ?_
    refine mz_putf hk_183 hB rw_183_15 (by decide) (mh_zS0 hB) ?_
    refine zr_aload hk_183 rw_183_16 rfl ?_
    refine mz_getf hk_183 hB rw_183_17 (by show some (Value.int (upd z 0 _ 0)) = _; rw [uq_eq]) ?_
    refine zr_ireturn hk_183 rw_183_18 ?_
    exact ⟨_, _, _, rfl, ⟨_, rfl⟩, ⟨r - 1, by omega, by rw [uq_eq]; congr 1; omega, fun s hs => (PIn_cpy (r := r) (r' := r - 1) hP (Nat.le_refl _) (fun s hs => by omega) s hs).up (by omega)⟩, fun i hi => uq_ne hi, K4.id _⟩
  · refine zi_const hk_183 rw_183_3 (c := -2) rfl ?_
    refine zr_ireturn hk_183 rw_183_4 ?_
    exact MInv.same ⟨r, hr, hz, hP⟩
theorem tries_ok (d : Nat) (hB : 87 ≤ B.length) {T r n : Nat} {y : Int} (hn : n ≤ 60) (hT0 : T ≤ 900000) (hr : r ≤ 5) (hP : PIn T p r) (h1 : 1 ≤ y) (h2 : y ≤ 200) : ZC (d + 8) 180 [.ref 75, .int (iv y), .int (iv (n : Int))] (mh B p a z) (fun v ph' => ∃ q b, ph' = mh B q b z ∧ (K4 a b ∧ ∃ x : Int32, v = some (.int x)) ∧ PIn T q r) := by
  refine ZC.of (lv := [some (.ref 75), some (.int (iv (y))), some (.int (iv ((n : Int))))]) hk_180 (fun i v hv => ?_) ?_
  · match i, hv with
    | 0, hv => cases hv; rfl
    | 1, hv => cases hv; rfl
    | 2, hv => cases hv; rfl
    | i + 3, hv => simp at hv
  refine zr_aload hk_180 rw_180_0 rfl ?_
  refine zi_const hk_180 rw_180_1 (c := 0) rfl ?_
  refine zi_const hk_180 rw_180_2 (c := 6) rfl ?_
  refine c_copies hk_180 hB rw_180_3 (0) (6) (by omega) (by omega) (by omega) (by omega) (Nat.le_of_ble_eq_true rfl) ?_
  refine zr_aload hk_180 rw_180_4 rfl ?_
  refine mz_getf hk_180 hB rw_180_5 rfl ?_
  refine zi_const hk_180 rw_180_6 (c := 210) rfl ?_
  refine zr_iload hk_180 rw_180_7 rfl ?_
  refine mz_pst hk_180 hB rw_180_8 (210) (by omega) (by omega) ?_
  refine zr_aload hk_180 rw_180_9 rfl ?_
  refine zr_iload hk_180 rw_180_10 rfl ?_
  refine c_runs hk_180 hB rw_180_11 n (by omega) (by omega) hT0 (tr_page hP h1 h2) (Nat.le_of_ble_eq_true rfl) (fun q2 b x2 hK2 hP2 hH => ?_)
  refine zi_istore hk_180 rw_180_12 rfl (lv' := [some (.ref 75), some (.int (iv (y))), some (.int (iv ((n : Int)))), some (.int (x2))]) rfl ?_
  refine zr_aload hk_180 rw_180_13 rfl ?_
  refine zi_const hk_180 rw_180_14 (c := 6) rfl ?_
  refine zi_const hk_180 rw_180_15 (c := 0) rfl ?_
  refine c_copies hk_180 hB rw_180_16 (6) (0) (by omega) (by omega) (by omega) (by omega) (Nat.le_of_ble_eq_true rfl) ?_
  refine zr_iload hk_180 rw_180_17 rfl ?_
  refine zr_ireturn hk_180 rw_180_18 ?_
  exact ⟨_, _, rfl, ⟨hK2, _, rfl⟩, tr_fin hP hr hH⟩
theorem c_tries (hk : k < 186) (hB : 87 ≤ B.length) {pc b x ix : Nat} {ts : List Nat} {y e : Int} (hrow : (codeOf k)[j]? = some (pc, .invokevirtual ix, 180, b, x, 3, ts)) (n : Nat) (he : e = (n : Int)) {T r : Nat} (hn : n ≤ 60) (hT0 : T ≤ 900000) (hr : r ≤ 5) (hP : PIn T p r) (h1 : 1 ≤ y) (h2 : y ≤ 200) (hcat : catS st ≤ 8) (h : ∀ (q : Nat → Int32) (b : Nat → Nat → Int32) (x : Int32), K4 a b → PIn T q r → ZR (d + 9) k (j + 1) lv (.int x :: st) (mh B q b z) Q) : ZR (d + 9) k j lv (.int (iv e) :: .int (iv y) :: .ref 75 :: st) (mh B p a z) Q := by
  subst he
  refine mz_call (L := 4) (n := 2) (as := [.int (iv y), .int (iv (n : Int))]) (r := st) hk hB hrow (by decide) (by decide) ⟨rfl, rfl, rfl, rfl⟩ rfl rfl hcat (Nat.le_of_ble_eq_true rfl) (tries_ok d hB hn hT0 hr hP h1 h2) ?_
  rintro w ph' ⟨q, b, rfl, ⟨hK, x, rfl⟩, h3⟩
  exact h q b x hK h3
theorem ifBudget_ok (d : Nat) (hB : 87 ≤ B.length) {T : Nat} {x y : Int} (hx : inR x) (hy : inR y) (hT0 : T ≤ 900000) (hM : MInv T p z) : ZC (d + 9) 179 [.ref 75, .int (iv x), .int (iv y)] (mh B p a z) (PubQ B T a z) := by
  obtain ⟨r, hr, hz, hP⟩ := hM
  refine ZC.of (lv := [some (.ref 75), some (.int (iv (x))), some (.int (iv (y)))]) hk_179 (fun i v hv => ?_) ?_
  · match i, hv with
    | 0, hv => cases hv; rfl
    | 1, hv => cases hv; rfl
    | 2, hv => cases hv; rfl
    | i + 3, hv => simp at hv
  refine zr_iload hk_179 rw_179_0 rfl ?_
  refine zi_const hk_179 rw_179_1 (c := 1) rfl ?_
  refine zi_const hk_179 rw_179_2 (c := 200) rfl ?_
  refine c_in hk_179 hB rw_179_3 (by first | assumption | (unfold inR; omega)) (by first | assumption | (unfold inR; omega)) (by first | assumption | (unfold inR; omega)) (Nat.le_of_ble_eq_true rfl) (fun h3c => ?_) (fun h3c => ?_)
  · refine zi_if_eq hk_179 rw_179_4 (by unfold inR; omega) (fun h => absurd h (by decide)) (fun _ => ?_)
    refine zr_iload hk_179 rw_179_5 rfl ?_
    refine zi_const hk_179 rw_179_6 (c := 1) rfl ?_
    refine zi_const hk_179 rw_179_7 (c := 60) rfl ?_
    refine c_in hk_179 hB rw_179_8 (by first | assumption | (unfold inR; omega)) (by first | assumption | (unfold inR; omega)) (by first | assumption | (unfold inR; omega)) (Nat.le_of_ble_eq_true rfl) (fun h8c => ?_) (fun h8c => ?_)
    · refine zi_if_eq hk_179 rw_179_9 (by unfold inR; omega) (fun h => absurd h (by decide)) (fun _ => ?_)
      refine zr_aload hk_179 rw_179_10 rfl ?_
      refine zr_iload hk_179 rw_179_11 rfl ?_
      refine zr_iload hk_179 rw_179_12 rfl ?_
      refine c_tries hk_179 hB rw_179_13 y.toNat (by omega) (by omega) hT0 hr hP (by omega) (by omega) (Nat.le_of_ble_eq_true rfl) (fun q b x2 hK hP => ?_)
      refine zr_goto hk_179 rw_179_14 ?_
      refine zr_ireturn hk_179 rw_179_16 ?_
      exact MInv.sameK ⟨r, hr, hz, hP⟩ hK
    · refine zi_if_eq hk_179 rw_179_9 (by unfold inR; omega) (fun _ => ?_) (fun h => absurd h (by decide))
      refine zi_const hk_179 rw_179_15 (c := -1) rfl ?_
      refine zr_ireturn hk_179 rw_179_16 ?_
      exact MInv.same ⟨r, hr, hz, hP⟩
  · refine zi_if_eq hk_179 rw_179_4 (by unfold inR; omega) (fun _ => ?_) (fun h => absurd h (by decide))
    refine zi_const hk_179 rw_179_15 (c := -1) rfl ?_
    refine zr_ireturn hk_179 rw_179_16 ?_
    exact MInv.same ⟨r, hr, hz, hP⟩
theorem bb_loop (hB : 87 ≤ B.length) {a0 : Nat → Nat → Int32} {T r : Nat} {y : Int} (hy1 : 1 ≤ y) (hy2 : y ≤ 15) (hT0 : T ≤ 900000) (hr : r ≤ 5) (hz : z 0 = iv (r : Int)) : ∀ (m b : Nat) (s u : Int32) (p : Nat → Int32) (a : Nat → Nat → Int32), b + 20 * m = 120 → 1 ≤ b → K4 a0 a → PIn T p r → ZR (d + 9) 181 16 [some (.ref 75), some (.int (iv (y))), some (.int (s)), some (.int (u)), some (.int (iv ((b : Int))))] [] (mh B p a z) (PubQ B T a0 z) := by
  intro m
  induction m with
  | zero =>
    intro b s u p a hbm hb1 hK hP
    refine zr_cut hk_181 rw_181_16 ?_
    refine zr_iload hk_181 rw_181_17 rfl ?_
    refine zi_const hk_181 rw_181_18 (c := 100) rfl ?_
    refine zi_icmp_gt hk_181 rw_181_19 (by unfold inR; omega) (by unfold inR; omega) (fun h19 => ?_) (fun h19 => by omega)
    refine zr_iload hk_181 rw_181_41 rfl ?_
    refine zr_ireturn hk_181 rw_181_42 ?_
    exact MInv.sameK ⟨r, hr, hz, hP⟩ hK
  | succ m ih =>
    intro b s u p a hbm hb1 hK hP
    refine zr_cut hk_181 rw_181_16 ?_
    refine zr_iload hk_181 rw_181_17 rfl ?_
    refine zi_const hk_181 rw_181_18 (c := 100) rfl ?_
    refine zi_icmp_gt hk_181 rw_181_19 (by unfold inR; omega) (by unfold inR; omega) (fun h19 => by omega) (fun h19 => ?_)
    refine zr_aload hk_181 rw_181_20 rfl ?_
    refine zr_iload hk_181 rw_181_21 rfl ?_
    refine zr_iload hk_181 rw_181_22 rfl ?_
    refine c_tries hk_181 hB rw_181_23 y.toNat (by omega) (by omega) hT0 hr hP (by omega) (by omega) (Nat.le_of_ble_eq_true rfl) (fun q a2 x2 hK2 hP => ?_)
    have hK := hK.trans hK2
    refine zi_istore hk_181 rw_181_24 rfl (lv' := [some (.ref 75), some (.int (iv (y))), some (.int (s)), some (.int (u)), some (.int (iv ((b : Int)))), some (.int (x2))]) rfl ?_
    refine zr_iload hk_181 rw_181_25 rfl ?_
    refine zr_iload hk_181 rw_181_26 rfl ?_
    refine zo_icmp_le hk_181 rw_181_27 (fun h27 => ?_) (fun h27 => ?_)
    · refine zr_iload hk_181 rw_181_30 rfl ?_
      refine zi_istore hk_181 rw_181_31 rfl (lv' := [some (.ref 75), some (.int (iv (y))), some (.int (s)), some (.int (u)), some (.int (iv ((b : Int)))), some (.int (x2))]) rfl ?_
      refine zr_iload hk_181 rw_181_32 rfl ?_
      refine zr_iload hk_181 rw_181_33 rfl ?_
      refine zo_icmp_le hk_181 rw_181_34 (fun h34 => ?_) (fun h34 => ?_)
      · refine zr_iload hk_181 rw_181_37 rfl ?_
        refine zi_istore hk_181 rw_181_38 rfl (lv' := [some (.ref 75), some (.int (iv (y))), some (.int (s)), some (.int (u)), some (.int (iv ((b : Int)))), some (.int (x2))]) rfl ?_
        refine zi_inc hk_181 rw_181_39 rfl rfl inc_20 (lv' := [some (.ref 75), some (.int (iv (y))), some (.int (s)), some (.int (u)), some (.int (iv ((b : Int) + 20))), some (.int (x2))]) rfl ?_
        refine zr_goto hk_181 rw_181_40 ?_
        exact zr_app (lv := [some (.ref 75), some (.int (iv y)), some (.int _), some (.int _), some (.int (iv ((b : Int) + 20)))]) (ex := [some (.int _)]) (ih (b + 20) _ _ q _ (by omega) (by omega) hK hP)
      · refine zr_iload hk_181 rw_181_35 rfl ?_
        refine zr_goto hk_181 rw_181_36 ?_
        refine zi_istore hk_181 rw_181_38 rfl (lv' := [some (.ref 75), some (.int (iv (y))), some (.int (s)), some (.int (x2)), some (.int (iv ((b : Int)))), some (.int (x2))]) rfl ?_
        refine zi_inc hk_181 rw_181_39 rfl rfl inc_20 (lv' := [some (.ref 75), some (.int (iv (y))), some (.int (s)), some (.int (x2)), some (.int (iv ((b : Int) + 20))), some (.int (x2))]) rfl ?_
        refine zr_goto hk_181 rw_181_40 ?_
        exact zr_app (lv := [some (.ref 75), some (.int (iv y)), some (.int _), some (.int _), some (.int (iv ((b : Int) + 20)))]) (ex := [some (.int _)]) (ih (b + 20) _ _ q _ (by omega) (by omega) hK hP)
    · refine zr_iload hk_181 rw_181_28 rfl ?_
      refine zr_goto hk_181 rw_181_29 ?_
      refine zi_istore hk_181 rw_181_31 rfl (lv' := [some (.ref 75), some (.int (iv (y))), some (.int (iv ((b : Int)))), some (.int (u)), some (.int (iv ((b : Int)))), some (.int (x2))]) rfl ?_
      refine zr_iload hk_181 rw_181_32 rfl ?_
      refine zr_iload hk_181 rw_181_33 rfl ?_
      refine zo_icmp_le hk_181 rw_181_34 (fun h34 => ?_) (fun h34 => ?_)
      · refine zr_iload hk_181 rw_181_37 rfl ?_
        refine zi_istore hk_181 rw_181_38 rfl (lv' := [some (.ref 75), some (.int (iv (y))), some (.int (iv ((b : Int)))), some (.int (u)), some (.int (iv ((b : Int)))), some (.int (x2))]) rfl ?_
        refine zi_inc hk_181 rw_181_39 rfl rfl inc_20 (lv' := [some (.ref 75), some (.int (iv (y))), some (.int (iv ((b : Int)))), some (.int (u)), some (.int (iv ((b : Int) + 20))), some (.int (x2))]) rfl ?_
        refine zr_goto hk_181 rw_181_40 ?_
        exact zr_app (lv := [some (.ref 75), some (.int (iv y)), some (.int _), some (.int _), some (.int (iv ((b : Int) + 20)))]) (ex := [some (.int _)]) (ih (b + 20) _ _ q _ (by omega) (by omega) hK hP)
      · refine zr_iload hk_181 rw_181_35 rfl ?_
        refine zr_goto hk_181 rw_181_36 ?_
        refine zi_istore hk_181 rw_181_38 rfl (lv' := [some (.ref 75), some (.int (iv (y))), some (.int (iv ((b : Int)))), some (.int (x2)), some (.int (iv ((b : Int)))), some (.int (x2))]) rfl ?_
        refine zi_inc hk_181 rw_181_39 rfl rfl inc_20 (lv' := [some (.ref 75), some (.int (iv (y))), some (.int (iv ((b : Int)))), some (.int (x2)), some (.int (iv ((b : Int) + 20))), some (.int (x2))]) rfl ?_
        refine zr_goto hk_181 rw_181_40 ?_
        exact zr_app (lv := [some (.ref 75), some (.int (iv y)), some (.int _), some (.int _), some (.int (iv ((b : Int) + 20)))]) (ex := [some (.int _)]) (ih (b + 20) _ _ q _ (by omega) (by omega) hK hP)
theorem bestBudget_ok (d : Nat) (hB : 87 ≤ B.length) {T : Nat} {y : Int} (hy : inR y) (hT0 : T ≤ 900000) (hM : MInv T p z) : ZC (d + 9) 181 [.ref 75, .int (iv y)] (mh B p a z) (PubQ B T a z) := by
  obtain ⟨r, hr, hz, hP⟩ := hM
  refine ZC.of (lv := [some (.ref 75), some (.int (iv (y)))]) hk_181 (fun i v hv => ?_) ?_
  · match i, hv with
    | 0, hv => cases hv; rfl
    | 1, hv => cases hv; rfl
    | i + 2, hv => simp at hv
  refine zr_iload hk_181 rw_181_0 rfl ?_
  refine zi_const hk_181 rw_181_1 (c := 1) rfl ?_
  refine zi_const hk_181 rw_181_2 (c := 15) rfl ?_
  refine c_in hk_181 hB rw_181_3 (by first | assumption | (unfold inR; omega)) (by first | assumption | (unfold inR; omega)) (by first | assumption | (unfold inR; omega)) (Nat.le_of_ble_eq_true rfl) (fun h3c => ?_) (fun h3c => ?_)
  · refine zi_if_ne hk_181 rw_181_4 (by unfold inR; omega) (fun _ => ?_) (fun h => absurd h (by decide))
    refine zi_const hk_181 rw_181_7 (c := 20) rfl ?_
    refine zi_istore hk_181 rw_181_8 rfl (lv' := [some (.ref 75), some (.int (iv (y))), some (.int (iv (20)))]) rfl ?_
    refine zr_aload hk_181 rw_181_9 rfl ?_
    refine zi_const hk_181 rw_181_10 (c := 20) rfl ?_
    refine zr_iload hk_181 rw_181_11 rfl ?_
    refine c_tries hk_181 hB rw_181_12 y.toNat (by omega) (by omega) hT0 hr hP (by omega) (by omega) (Nat.le_of_ble_eq_true rfl) (fun q a2 x2 hK2 hP => ?_)
    have hK := hK2
    refine zi_istore hk_181 rw_181_13 rfl (lv' := [some (.ref 75), some (.int (iv (y))), some (.int (iv (20))), some (.int (x2))]) rfl ?_
    refine zi_const hk_181 rw_181_14 (c := 40) rfl ?_
    refine zi_istore hk_181 rw_181_15 rfl (lv' := [some (.ref 75), some (.int (iv (y))), some (.int (iv (20))), some (.int (x2)), some (.int (iv (40)))]) rfl ?_
    exact bb_loop hB (by omega) (by omega) hT0 hr hz 4 40 _ _ q _ (by omega) (by omega) hK hP
  · refine zi_if_ne hk_181 rw_181_4 (by unfold inR; omega) (fun h => absurd h (by decide)) (fun _ => ?_)
    refine zi_const hk_181 rw_181_5 (c := -1) rfl ?_
    refine zr_ireturn hk_181 rw_181_6 ?_
    exact MInv.same ⟨r, hr, hz, hP⟩
end MN

/-! ===== by program (wip/gen/m89.py): digests ===== -/
theorem kc184_eq : codeOf 184 = kc184 := rfl
theorem hk_184 : 184 < 186 := by decide
theorem rw_184_0 : (codeOf 184)[0]? = some (0, .ldc2_w 194, 9223372036854794314, 0, 0, 3, []) := by rw [kc184_eq]; rfl
theorem rw_184_1 : (codeOf 184)[1]? = some (3, .lstore 1, 1, 0, 2, 1, []) := by rw [kc184_eq]; rfl
theorem rw_184_2 : (codeOf 184)[2]? = some (4, .iconst 0, 2147483648, 0, 0, 1, []) := by rw [kc184_eq]; rfl
theorem rw_184_3 : (codeOf 184)[3]? = some (5, .istore 3, 3, 0, 0, 1, []) := by rw [kc184_eq]; rfl
theorem rw_184_4 : (codeOf 184)[4]? = some (6, .monitorexit, 1472, 0, 0, 0, []) := by rw [kc184_eq]; rfl
theorem rw_184_5 : (codeOf 184)[5]? = some (6, .iload 3, 3, 0, 0, 1, []) := by rw [kc184_eq]; rfl
theorem rw_184_6 : (codeOf 184)[6]? = some (7, .iconst 12, 2147483660, 0, 0, 2, []) := by rw [kc184_eq]; rfl
theorem rw_184_7 : (codeOf 184)[7]? = some (9, .if_icmp .gt 22, 31, 19, 0, 3, []) := by rw [kc184_eq]; rfl
theorem rw_184_8 : (codeOf 184)[8]? = some (12, .ldc2_w 192, 9223372036854775839, 0, 0, 3, []) := by rw [kc184_eq]; rfl
theorem rw_184_9 : (codeOf 184)[9]? = some (15, .lload 1, 1, 0, 2, 1, []) := by rw [kc184_eq]; rfl
theorem rw_184_10 : (codeOf 184)[10]? = some (16, .lmul, 0, 0, 0, 1, []) := by rw [kc184_eq]; rfl
theorem rw_184_11 : (codeOf 184)[11]? = some (17, .aload 0, 0, 0, 3, 1, []) := by rw [kc184_eq]; rfl
theorem rw_184_12 : (codeOf 184)[12]? = some (18, .iload 3, 3, 0, 0, 1, []) := by rw [kc184_eq]; rfl
theorem rw_184_13 : (codeOf 184)[13]? = some (19, .invokevirtual 196, 169, 0, 0, 3, []) := by rw [kc184_eq]; rfl
theorem rw_184_14 : (codeOf 184)[14]? = some (22, .i2l, 0, 0, 0, 1, []) := by rw [kc184_eq]; rfl
theorem rw_184_15 : (codeOf 184)[15]? = some (23, .ladd, 0, 0, 0, 1, []) := by rw [kc184_eq]; rfl
theorem rw_184_16 : (codeOf 184)[16]? = some (24, .lstore 1, 1, 0, 2, 1, []) := by rw [kc184_eq]; rfl
theorem rw_184_17 : (codeOf 184)[17]? = some (25, .iinc 3 1, 3, 1, 0, 3, []) := by rw [kc184_eq]; rfl
theorem rw_184_18 : (codeOf 184)[18]? = some (28, .goto (-22), 6, 4, 0, 3, []) := by rw [kc184_eq]; rfl
theorem rw_184_19 : (codeOf 184)[19]? = some (31, .iconst 0, 2147483648, 0, 0, 1, []) := by rw [kc184_eq]; rfl
theorem rw_184_20 : (codeOf 184)[20]? = some (32, .istore 3, 3, 0, 0, 1, []) := by rw [kc184_eq]; rfl
theorem rw_184_21 : (codeOf 184)[21]? = some (33, .monitorexit, 1473, 0, 0, 0, []) := by rw [kc184_eq]; rfl
theorem rw_184_22 : (codeOf 184)[22]? = some (33, .iload 3, 3, 0, 0, 1, []) := by rw [kc184_eq]; rfl
theorem rw_184_23 : (codeOf 184)[23]? = some (34, .iconst 10, 2147483658, 0, 0, 2, []) := by rw [kc184_eq]; rfl
theorem rw_184_24 : (codeOf 184)[24]? = some (36, .if_icmp .ge 28, 64, 38, 0, 3, []) := by rw [kc184_eq]; rfl
theorem rw_184_25 : (codeOf 184)[25]? = some (39, .aload 0, 0, 0, 3, 1, []) := by rw [kc184_eq]; rfl
theorem rw_184_26 : (codeOf 184)[26]? = some (40, .iload 3, 3, 0, 0, 1, []) := by rw [kc184_eq]; rfl
theorem rw_184_27 : (codeOf 184)[27]? = some (41, .invokevirtual 92, 133, 0, 0, 3, []) := by rw [kc184_eq]; rfl
theorem rw_184_28 : (codeOf 184)[28]? = some (44, .ifCond .eq 12, 56, 34, 0, 3, []) := by rw [kc184_eq]; rfl
theorem rw_184_29 : (codeOf 184)[29]? = some (47, .aload 0, 0, 0, 3, 1, []) := by rw [kc184_eq]; rfl
theorem rw_184_30 : (codeOf 184)[30]? = some (48, .lload 1, 1, 0, 2, 1, []) := by rw [kc184_eq]; rfl
theorem rw_184_31 : (codeOf 184)[31]? = some (49, .iload 3, 3, 0, 0, 1, []) := by rw [kc184_eq]; rfl
theorem rw_184_32 : (codeOf 184)[32]? = some (50, .invokevirtual 199, 185, 0, 0, 3, []) := by rw [kc184_eq]; rfl
theorem rw_184_33 : (codeOf 184)[33]? = some (53, .goto 4, 57, 35, 0, 3, []) := by rw [kc184_eq]; rfl
theorem rw_184_34 : (codeOf 184)[34]? = some (56, .lload 1, 1, 0, 2, 1, []) := by rw [kc184_eq]; rfl
theorem rw_184_35 : (codeOf 184)[35]? = some (57, .lstore 1, 1, 0, 2, 1, []) := by rw [kc184_eq]; rfl
theorem rw_184_36 : (codeOf 184)[36]? = some (58, .iinc 3 1, 3, 1, 0, 3, []) := by rw [kc184_eq]; rfl
theorem rw_184_37 : (codeOf 184)[37]? = some (61, .goto (-28), 33, 21, 0, 3, []) := by rw [kc184_eq]; rfl
theorem rw_184_38 : (codeOf 184)[38]? = some (64, .iconst 0, 2147483648, 0, 0, 1, []) := by rw [kc184_eq]; rfl
theorem rw_184_39 : (codeOf 184)[39]? = some (65, .istore 3, 3, 0, 0, 1, []) := by rw [kc184_eq]; rfl
theorem rw_184_40 : (codeOf 184)[40]? = some (66, .monitorexit, 1474, 0, 0, 0, []) := by rw [kc184_eq]; rfl
theorem rw_184_41 : (codeOf 184)[41]? = some (66, .iload 3, 3, 0, 0, 1, []) := by rw [kc184_eq]; rfl
theorem rw_184_42 : (codeOf 184)[42]? = some (67, .aload 0, 0, 0, 3, 1, []) := by rw [kc184_eq]; rfl
theorem rw_184_43 : (codeOf 184)[43]? = some (68, .getfield 7, 9, 0, 3, 3, []) := by rw [kc184_eq]; rfl
theorem rw_184_44 : (codeOf 184)[44]? = some (71, .iconst 218, 2147483866, 0, 0, 3, []) := by rw [kc184_eq]; rfl
theorem rw_184_45 : (codeOf 184)[45]? = some (74, .iaload, 0, 0, 0, 1, []) := by rw [kc184_eq]; rfl
theorem rw_184_46 : (codeOf 184)[46]? = some (75, .if_icmp .ge 29, 104, 63, 0, 3, []) := by rw [kc184_eq]; rfl
theorem rw_184_47 : (codeOf 184)[47]? = some (78, .ldc2_w 192, 9223372036854775839, 0, 0, 3, []) := by rw [kc184_eq]; rfl
theorem rw_184_48 : (codeOf 184)[48]? = some (81, .lload 1, 1, 0, 2, 1, []) := by rw [kc184_eq]; rfl
theorem rw_184_49 : (codeOf 184)[49]? = some (82, .lmul, 0, 0, 0, 1, []) := by rw [kc184_eq]; rfl
theorem rw_184_50 : (codeOf 184)[50]? = some (83, .aload 0, 0, 0, 3, 1, []) := by rw [kc184_eq]; rfl
theorem rw_184_51 : (codeOf 184)[51]? = some (84, .getfield 7, 9, 0, 3, 3, []) := by rw [kc184_eq]; rfl
theorem rw_184_52 : (codeOf 184)[52]? = some (87, .iconst 820, 2147484468, 0, 0, 3, []) := by rw [kc184_eq]; rfl
theorem rw_184_53 : (codeOf 184)[53]? = some (90, .iconst 3, 2147483651, 0, 0, 1, []) := by rw [kc184_eq]; rfl
theorem rw_184_54 : (codeOf 184)[54]? = some (91, .iload 3, 3, 0, 0, 1, []) := by rw [kc184_eq]; rfl
theorem rw_184_55 : (codeOf 184)[55]? = some (92, .imul, 0, 0, 0, 1, []) := by rw [kc184_eq]; rfl
theorem rw_184_56 : (codeOf 184)[56]? = some (93, .iadd, 0, 0, 0, 1, []) := by rw [kc184_eq]; rfl
theorem rw_184_57 : (codeOf 184)[57]? = some (94, .iaload, 0, 0, 0, 1, []) := by rw [kc184_eq]; rfl
theorem rw_184_58 : (codeOf 184)[58]? = some (95, .i2l, 0, 0, 0, 1, []) := by rw [kc184_eq]; rfl
theorem rw_184_59 : (codeOf 184)[59]? = some (96, .ladd, 0, 0, 0, 1, []) := by rw [kc184_eq]; rfl
theorem rw_184_60 : (codeOf 184)[60]? = some (97, .lstore 1, 1, 0, 2, 1, []) := by rw [kc184_eq]; rfl
theorem rw_184_61 : (codeOf 184)[61]? = some (98, .iinc 3 1, 3, 1, 0, 3, []) := by rw [kc184_eq]; rfl
theorem rw_184_62 : (codeOf 184)[62]? = some (101, .goto (-35), 66, 40, 0, 3, []) := by rw [kc184_eq]; rfl
theorem rw_184_63 : (codeOf 184)[63]? = some (104, .ldc2_w 192, 9223372036854775839, 0, 0, 3, []) := by rw [kc184_eq]; rfl
theorem rw_184_64 : (codeOf 184)[64]? = some (107, .lload 1, 1, 0, 2, 1, []) := by rw [kc184_eq]; rfl
theorem rw_184_65 : (codeOf 184)[65]? = some (108, .lmul, 0, 0, 0, 1, []) := by rw [kc184_eq]; rfl
theorem rw_184_66 : (codeOf 184)[66]? = some (109, .aload 0, 0, 0, 3, 1, []) := by rw [kc184_eq]; rfl
theorem rw_184_67 : (codeOf 184)[67]? = some (110, .getfield 16, 9, 4, 0, 3, []) := by rw [kc184_eq]; rfl
theorem rw_184_68 : (codeOf 184)[68]? = some (113, .i2l, 0, 0, 0, 1, []) := by rw [kc184_eq]; rfl
theorem rw_184_69 : (codeOf 184)[69]? = some (114, .ladd, 0, 0, 0, 1, []) := by rw [kc184_eq]; rfl
theorem rw_184_70 : (codeOf 184)[70]? = some (115, .lstore 1, 1, 0, 2, 1, []) := by rw [kc184_eq]; rfl
theorem rw_184_71 : (codeOf 184)[71]? = some (116, .ldc2_w 192, 9223372036854775839, 0, 0, 3, []) := by rw [kc184_eq]; rfl
theorem rw_184_72 : (codeOf 184)[72]? = some (119, .lload 1, 1, 0, 2, 1, []) := by rw [kc184_eq]; rfl
theorem rw_184_73 : (codeOf 184)[73]? = some (120, .lmul, 0, 0, 0, 1, []) := by rw [kc184_eq]; rfl
theorem rw_184_74 : (codeOf 184)[74]? = some (121, .aload 0, 0, 0, 3, 1, []) := by rw [kc184_eq]; rfl
theorem rw_184_75 : (codeOf 184)[75]? = some (122, .invokevirtual 203, 178, 0, 0, 3, []) := by rw [kc184_eq]; rfl
theorem rw_184_76 : (codeOf 184)[76]? = some (125, .i2l, 0, 0, 0, 1, []) := by rw [kc184_eq]; rfl
theorem rw_184_77 : (codeOf 184)[77]? = some (126, .ladd, 0, 0, 0, 1, []) := by rw [kc184_eq]; rfl
theorem rw_184_78 : (codeOf 184)[78]? = some (127, .lreturn, 3, 0, 0, 1, []) := by rw [kc184_eq]; rfl
section MS
variable {d k j : Nat} {lv : List (Option Value)} {st : List Value} {ph : PH} {Q : Option Value → PH → Prop} {B : PH} {p : Nat → Int32} {a : Nat → Nat → Int32} {z : Nat → Int32}
theorem ct_169 : ctT[169]? = some (some ([(2, 22, 0), full32], [some full32], 0, 3)) := rfl
theorem ct_185 : ctT[185]? = some (some ([(2, 22, 0), full64, (0, 2147483648, 2147483657)], [some full64], 16911433728, 5)) := rfl
theorem fit_75 (hB : 87 ≤ B.length) : fitT (mh B p a z).length (2, 22, 0) (.ref 75) := fit_ref (by decide) (by rw [mh_len hB]; omega) (by decide)
theorem c_told (hk : k < 186) (hB : 87 ≤ B.length) {pc b x ix : Nat} {ts : List Nat} {y : Int32} (hrow : (codeOf k)[j]? = some (pc, .invokevirtual ix, 169, b, x, 3, ts)) {S0 T : Nat} (hP : PageOK T p) (hW : WT (mh B p a z)) (hI : GI S0 0 p z (mh B p a z)) (hcat : catS st ≤ 8) (h : ∀ (b : Nat → Nat → Int32) (x : Int32), K4 a b → ZR (d + 4) k (j + 1) lv (.int x :: st) (mh B p b z) Q) : ZR (d + 4) k j lv (.int y :: .ref 75 :: st) (mh B p a z) Q := by
  refine mz_call (L := 2) (n := 1) (as := [.int y]) (r := st) hk hB hrow (by decide) (by decide) ⟨rfl, rfl, rfl, rfl⟩ rfl rfl hcat (Nat.le_of_ble_eq_true rfl) (rd_ct hB hP hW hI ct_169 (by show 3 ≤ d + 3; omega) (by decide) ⟨fit_75 hB, fit_full _ _, trivial⟩) ?_
  rintro w ph' ⟨b, rfl, hK, hq⟩
  obtain ⟨x, rfl⟩ := int_of hq
  exact h b x hK
theorem c_mixed (hk : k < 186) (hB : 87 ≤ B.length) {pc b x ix : Nat} {ts : List Nat} {y : Int64} {c : Nat} (hrow : (codeOf k)[j]? = some (pc, .invokevirtual ix, 185, b, x, 3, ts)) {S0 T : Nat} (hP : PageOK T p) (hW : WT (mh B p a z)) (hI : GI S0 0 p z (mh B p a z)) (hc : c < 10) (hcat : catS st ≤ 8) (h : ∀ (b : Nat → Nat → Int32) (x : Int64), K4 a b → ZR (d + 6) k (j + 1) lv (.long x :: st) (mh B p b z) Q) : ZR (d + 6) k j lv (.int (iv (c : Int)) :: .long y :: .ref 75 :: st) (mh B p a z) Q := by
  refine mz_call (L := 7) (n := 2) (as := [.long y, .int (iv (c : Int))]) (r := st) hk hB hrow (by decide) (by decide) ⟨rfl, rfl, rfl, rfl⟩ rfl rfl hcat (Nat.le_of_ble_eq_true rfl) (rd_ct hB hP hW hI ct_185 (by show 5 ≤ d + 5; omega) (by decide) ⟨fit_75 hB, fit_full64 _ _, nat_fit (by omega) (by omega) (by omega), trivial⟩) ?_
  rintro w ph' ⟨b, rfl, hK, hq⟩
  obtain ⟨x, rfl⟩ := long_of hq
  exact h b x hK
theorem dg_3 (hB : 87 ≤ B.length) {S0 T : Nat} (hT : T ≤ 60000) (hP : PageOK T p) (hW : ∀ b, WT (mh B p b z)) (hI : ∀ b, GI S0 0 p z (mh B p b z)) {G : Nat} (hG : p 218 = iv (G : Int)) (hG2 : G ≤ 60) : ∀ (m k : Nat) (s : Int64) (b : Nat → Nat → Int32), k + m = G → K4 a b → ZR (d + 6) 184 40 [some (.ref 75), some (.long (s)), none, some (.int (iv ((k : Int))))] [] (mh B p b z) (fun v ph' => ∃ b, ph' = mh B p b z ∧ K4 a b ∧ ∃ x : Int64, v = some (.long x)) := by
  intro m
  induction m with
  | zero =>
    intro k s b hkm hK
    refine zr_cut hk_184 rw_184_40 ?_
    refine zr_iload hk_184 rw_184_41 rfl ?_
    refine zr_aload hk_184 rw_184_42 rfl ?_
    refine mz_getf hk_184 hB rw_184_43 rfl ?_
    refine zi_const hk_184 rw_184_44 (c := 218) rfl ?_
    refine mz_plde hk_184 hB rw_184_45 (218) (by omega) (by omega) (hG) ?_
    refine zi_icmp_ge hk_184 rw_184_46 (by unfold inR; omega) (by unfold inR; omega) (fun h46 => ?_) (fun h46 => by omega)
    refine zr_ldc hk_184 rw_184_63 ?_
    refine zr_lload hk_184 rw_184_64 rfl ?_
    refine zr_lmul hk_184 rw_184_65 ?_
    refine zr_aload hk_184 rw_184_66 rfl ?_
    refine mz_getf hk_184 hB rw_184_67 rfl ?_
    refine zr_i2l hk_184 rw_184_68 ?_
    refine zr_ladd hk_184 rw_184_69 ?_
    refine zr_lstore hk_184 rw_184_70 rfl (lv' := [some (.ref 75), some (.long (_)), none, some (.int (iv ((k : Int))))]) rfl ?_
    refine zr_ldc hk_184 rw_184_71 ?_
    refine zr_lload hk_184 rw_184_72 rfl ?_
    refine zr_lmul hk_184 rw_184_73 ?_
    refine zr_aload hk_184 rw_184_74 rfl ?_
    refine c_fairness hk_184 hB rw_184_75 hT hP (Nat.le_of_ble_eq_true rfl) (fun b2 x2 hK2 => ?_)
    have hK := hK.trans hK2
    refine zr_i2l hk_184 rw_184_76 ?_
    refine zr_ladd hk_184 rw_184_77 ?_
    refine zr_lreturn hk_184 rw_184_78 ?_
    exact ⟨_, rfl, hK, _, rfl⟩
  | succ m ih =>
    intro k s b hkm hK
    refine zr_cut hk_184 rw_184_40 ?_
    refine zr_iload hk_184 rw_184_41 rfl ?_
    refine zr_aload hk_184 rw_184_42 rfl ?_
    refine mz_getf hk_184 hB rw_184_43 rfl ?_
    refine zi_const hk_184 rw_184_44 (c := 218) rfl ?_
    refine mz_plde hk_184 hB rw_184_45 (218) (by omega) (by omega) (hG) ?_
    refine zi_icmp_ge hk_184 rw_184_46 (by unfold inR; omega) (by unfold inR; omega) (fun h46 => by omega) (fun h46 => ?_)
    refine zr_ldc hk_184 rw_184_47 ?_
    refine zr_lload hk_184 rw_184_48 rfl ?_
    refine zr_lmul hk_184 rw_184_49 ?_
    refine zr_aload hk_184 rw_184_50 rfl ?_
    refine mz_getf hk_184 hB rw_184_51 rfl ?_
    refine zi_const hk_184 rw_184_52 (c := 820) rfl ?_
    refine zi_const hk_184 rw_184_53 (c := 3) rfl ?_
    refine zr_iload hk_184 rw_184_54 rfl ?_
    refine zi_mul hk_184 rw_184_55 ?_
    refine zi_add hk_184 rw_184_56 ?_
    refine mz_pld hk_184 hB rw_184_57 (3 * k + 820) (by omega) (by omega) ?_
    refine zr_i2l hk_184 rw_184_58 ?_
    refine zr_ladd hk_184 rw_184_59 ?_
    refine zr_lstore hk_184 rw_184_60 rfl (lv' := [some (.ref 75), some (.long (_)), none, some (.int (iv ((k : Int))))]) rfl ?_
    refine zi_inc hk_184 rw_184_61 rfl rfl inc_1 (lv' := [some (.ref 75), some (.long (_)), none, some (.int (iv ((k : Int) + 1)))]) rfl ?_
    refine zr_goto hk_184 rw_184_62 ?_
    exact ih (k + 1) _ _ (by omega) hK
theorem dg_2 (hB : 87 ≤ B.length) {S0 T : Nat} (hT : T ≤ 60000) (hP : PageOK T p) (hW : ∀ b, WT (mh B p b z)) (hI : ∀ b, GI S0 0 p z (mh B p b z)) {G : Nat} (hG : p 218 = iv (G : Int)) (hG2 : G ≤ 60) : ∀ (m k : Nat) (s : Int64) (b : Nat → Nat → Int32), k + m = 10 → K4 a b → ZR (d + 6) 184 21 [some (.ref 75), some (.long (s)), none, some (.int (iv ((k : Int))))] [] (mh B p b z) (fun v ph' => ∃ b, ph' = mh B p b z ∧ K4 a b ∧ ∃ x : Int64, v = some (.long x)) := by
  intro m
  induction m with
  | zero =>
    intro k s b hkm hK
    refine zr_cut hk_184 rw_184_21 ?_
    refine zr_iload hk_184 rw_184_22 rfl ?_
    refine zi_const hk_184 rw_184_23 (c := 10) rfl ?_
    refine zi_icmp_ge hk_184 rw_184_24 (by unfold inR; omega) (by unfold inR; omega) (fun h24 => ?_) (fun h24 => by omega)
    refine zi_const hk_184 rw_184_38 (c := 0) rfl ?_
    refine zi_istore hk_184 rw_184_39 rfl (lv' := [some (.ref 75), some (.long (s)), none, some (.int (iv (0)))]) rfl ?_
    exact dg_3 hB hT hP hW hI hG hG2 G 0 _ _ (by omega) hK
  | succ m ih =>
    intro k s b hkm hK
    refine zr_cut hk_184 rw_184_21 ?_
    refine zr_iload hk_184 rw_184_22 rfl ?_
    refine zi_const hk_184 rw_184_23 (c := 10) rfl ?_
    refine zi_icmp_ge hk_184 rw_184_24 (by unfold inR; omega) (by unfold inR; omega) (fun h24 => by omega) (fun h24 => ?_)
    refine zr_aload hk_184 rw_184_25 rfl ?_
    refine zr_iload hk_184 rw_184_26 rfl ?_
    refine c_isOpenN hk_184 hB rw_184_27 (k) (by omega) (by omega) (Nat.le_of_ble_eq_true rfl) (fun h27c => ?_) (fun h27c => ?_)
    · refine zi_if_eq hk_184 rw_184_28 (by unfold inR; omega) (fun h => absurd h (by decide)) (fun _ => ?_)
      refine zr_aload hk_184 rw_184_29 rfl ?_
      refine zr_lload hk_184 rw_184_30 rfl ?_
      refine zr_iload hk_184 rw_184_31 rfl ?_
      refine c_mixed hk_184 hB rw_184_32 hP (hW _) (hI _) (by omega) (Nat.le_of_ble_eq_true rfl) (fun b2 x2 hK2 => ?_)
      have hK := hK.trans hK2
      refine zr_goto hk_184 rw_184_33 ?_
      refine zr_lstore hk_184 rw_184_35 rfl (lv' := [some (.ref 75), some (.long (x2)), none, some (.int (iv ((k : Int))))]) rfl ?_
      refine zi_inc hk_184 rw_184_36 rfl rfl inc_1 (lv' := [some (.ref 75), some (.long (x2)), none, some (.int (iv ((k : Int) + 1)))]) rfl ?_
      refine zr_goto hk_184 rw_184_37 ?_
      exact ih (k + 1) _ _ (by omega) hK
    · refine zi_if_eq hk_184 rw_184_28 (by unfold inR; omega) (fun _ => ?_) (fun h => absurd h (by decide))
      refine zr_lload hk_184 rw_184_34 rfl ?_
      refine zr_lstore hk_184 rw_184_35 rfl (lv' := [some (.ref 75), some (.long (s)), none, some (.int (iv ((k : Int))))]) rfl ?_
      refine zi_inc hk_184 rw_184_36 rfl rfl inc_1 (lv' := [some (.ref 75), some (.long (s)), none, some (.int (iv ((k : Int) + 1)))]) rfl ?_
      refine zr_goto hk_184 rw_184_37 ?_
      exact ih (k + 1) _ _ (by omega) hK
theorem dg_1 (hB : 87 ≤ B.length) {S0 T : Nat} (hT : T ≤ 60000) (hP : PageOK T p) (hW : ∀ b, WT (mh B p b z)) (hI : ∀ b, GI S0 0 p z (mh B p b z)) {G : Nat} (hG : p 218 = iv (G : Int)) (hG2 : G ≤ 60) : ∀ (m k : Nat) (s : Int64) (b : Nat → Nat → Int32), k + m = 13 → K4 a b → ZR (d + 6) 184 4 [some (.ref 75), some (.long (s)), none, some (.int (iv ((k : Int))))] [] (mh B p b z) (fun v ph' => ∃ b, ph' = mh B p b z ∧ K4 a b ∧ ∃ x : Int64, v = some (.long x)) := by
  intro m
  induction m with
  | zero =>
    intro k s b hkm hK
    refine zr_cut hk_184 rw_184_4 ?_
    refine zr_iload hk_184 rw_184_5 rfl ?_
    refine zi_const hk_184 rw_184_6 (c := 12) rfl ?_
    refine zi_icmp_gt hk_184 rw_184_7 (by unfold inR; omega) (by unfold inR; omega) (fun h7 => ?_) (fun h7 => by omega)
    refine zi_const hk_184 rw_184_19 (c := 0) rfl ?_
    refine zi_istore hk_184 rw_184_20 rfl (lv' := [some (.ref 75), some (.long (s)), none, some (.int (iv (0)))]) rfl ?_
    exact dg_2 hB hT hP hW hI hG hG2 10 0 _ _ (by omega) hK
  | succ m ih =>
    intro k s b hkm hK
    refine zr_cut hk_184 rw_184_4 ?_
    refine zr_iload hk_184 rw_184_5 rfl ?_
    refine zi_const hk_184 rw_184_6 (c := 12) rfl ?_
    refine zi_icmp_gt hk_184 rw_184_7 (by unfold inR; omega) (by unfold inR; omega) (fun h7 => by omega) (fun h7 => ?_)
    refine zr_ldc hk_184 rw_184_8 ?_
    refine zr_lload hk_184 rw_184_9 rfl ?_
    refine zr_lmul hk_184 rw_184_10 ?_
    refine zr_aload hk_184 rw_184_11 rfl ?_
    refine zr_iload hk_184 rw_184_12 rfl ?_
    refine c_told hk_184 hB rw_184_13 hP (hW _) (hI _) (Nat.le_of_ble_eq_true rfl) (fun b2 x2 hK2 => ?_)
    have hK := hK.trans hK2
    refine zr_i2l hk_184 rw_184_14 ?_
    refine zr_ladd hk_184 rw_184_15 ?_
    refine zr_lstore hk_184 rw_184_16 rfl (lv' := [some (.ref 75), some (.long (_)), none, some (.int (iv ((k : Int))))]) rfl ?_
    refine zi_inc hk_184 rw_184_17 rfl rfl inc_1 (lv' := [some (.ref 75), some (.long (_)), none, some (.int (iv ((k : Int) + 1)))]) rfl ?_
    refine zr_goto hk_184 rw_184_18 ?_
    exact ih (k + 1) _ _ (by omega) hK
theorem digest_ok (d : Nat) (hB : 87 ≤ B.length) {S0 T : Nat} (hT : T ≤ 60000) (hP : PageOK T p) (hW : ∀ b, WT (mh B p b z)) (hI : ∀ b, GI S0 0 p z (mh B p b z)) : ZC (d + 6) 184 [.ref 75] (mh B p a z) (fun v ph' => ∃ b, ph' = mh B p b z ∧ K4 a b ∧ ∃ x : Int64, v = some (.long x)) := by
  obtain ⟨G, hG, hG2⟩ := hP.1.2.1.2.2.2.2.2.nat
  refine ZC.of (lv := [some (.ref 75)]) hk_184 (fun i v hv => ?_) ?_
  · match i, hv with
    | 0, hv => cases hv; rfl
    | i + 1, hv => simp at hv
  refine zr_ldc hk_184 rw_184_0 ?_
  refine zr_lstore hk_184 rw_184_1 rfl (lv' := [some (.ref 75), some (.long (_))]) rfl ?_
  refine zi_const hk_184 rw_184_2 (c := 0) rfl ?_
  refine zi_istore hk_184 rw_184_3 rfl (lv' := [some (.ref 75), some (.long (_)), none, some (.int (iv (0)))]) rfl ?_
  exact dg_1 hB hT hP hW hI hG (by omega) 13 0 _ _ (by omega) (K4.id a)
end MS

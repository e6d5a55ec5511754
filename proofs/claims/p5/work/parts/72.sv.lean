/-! ===== by program (wip/gen/m72.py): a tick's service ===== -/
theorem kc165_eq : codeOf 165 = kc165 := rfl
theorem hk_165 : 165 < 186 := by decide
theorem rw_165_0 : (codeOf 165)[0]? = some (0, .aload 0, 0, 0, 3, 1, []) := by rw [kc165_eq]; rfl
theorem rw_165_1 : (codeOf 165)[1]? = some (1, .getfield 7, 9, 0, 3, 3, []) := by rw [kc165_eq]; rfl
theorem rw_165_2 : (codeOf 165)[2]? = some (4, .iconst 212, 2147483860, 0, 0, 3, []) := by rw [kc165_eq]; rfl
theorem rw_165_3 : (codeOf 165)[3]? = some (7, .iaload, 0, 0, 0, 1, []) := by rw [kc165_eq]; rfl
theorem rw_165_4 : (codeOf 165)[4]? = some (8, .aload 0, 0, 0, 3, 1, []) := by rw [kc165_eq]; rfl
theorem rw_165_5 : (codeOf 165)[5]? = some (9, .getfield 7, 9, 0, 3, 3, []) := by rw [kc165_eq]; rfl
theorem rw_165_6 : (codeOf 165)[6]? = some (12, .iconst 218, 2147483866, 0, 0, 3, []) := by rw [kc165_eq]; rfl
theorem rw_165_7 : (codeOf 165)[7]? = some (15, .iaload, 0, 0, 0, 1, []) := by rw [kc165_eq]; rfl
theorem rw_165_8 : (codeOf 165)[8]? = some (16, .invokestatic 96, 137, 0, 0, 3, []) := by rw [kc165_eq]; rfl
theorem rw_165_9 : (codeOf 165)[9]? = some (19, .istore 1, 1, 0, 0, 1, []) := by rw [kc165_eq]; rfl
theorem rw_165_10 : (codeOf 165)[10]? = some (20, .iconst 0, 2147483648, 0, 0, 1, []) := by rw [kc165_eq]; rfl
theorem rw_165_11 : (codeOf 165)[11]? = some (21, .istore 2, 2, 0, 0, 1, []) := by rw [kc165_eq]; rfl
theorem rw_165_12 : (codeOf 165)[12]? = some (22, .monitorexit, 1320, 0, 0, 0, []) := by rw [kc165_eq]; rfl
theorem rw_165_13 : (codeOf 165)[13]? = some (22, .iload 2, 2, 0, 0, 1, []) := by rw [kc165_eq]; rfl
theorem rw_165_14 : (codeOf 165)[14]? = some (23, .iload 1, 1, 0, 0, 1, []) := by rw [kc165_eq]; rfl
theorem rw_165_15 : (codeOf 165)[15]? = some (24, .if_icmp .ge 100, 124, 74, 0, 3, []) := by rw [kc165_eq]; rfl
theorem rw_165_16 : (codeOf 165)[16]? = some (27, .iconst 1000, 2147484648, 0, 0, 3, []) := by rw [kc165_eq]; rfl
theorem rw_165_17 : (codeOf 165)[17]? = some (30, .iconst 4, 2147483652, 0, 0, 1, []) := by rw [kc165_eq]; rfl
theorem rw_165_18 : (codeOf 165)[18]? = some (31, .aload 0, 0, 0, 3, 1, []) := by rw [kc165_eq]; rfl
theorem rw_165_19 : (codeOf 165)[19]? = some (32, .getfield 7, 9, 0, 3, 3, []) := by rw [kc165_eq]; rfl
theorem rw_165_20 : (codeOf 165)[20]? = some (35, .iconst 219, 2147483867, 0, 0, 3, []) := by rw [kc165_eq]; rfl
theorem rw_165_21 : (codeOf 165)[21]? = some (38, .iaload, 0, 0, 0, 1, []) := by rw [kc165_eq]; rfl
theorem rw_165_22 : (codeOf 165)[22]? = some (39, .imul, 0, 0, 0, 1, []) := by rw [kc165_eq]; rfl
theorem rw_165_23 : (codeOf 165)[23]? = some (40, .iadd, 0, 0, 0, 1, []) := by rw [kc165_eq]; rfl
theorem rw_165_24 : (codeOf 165)[24]? = some (41, .istore 3, 3, 0, 0, 1, []) := by rw [kc165_eq]; rfl
theorem rw_165_25 : (codeOf 165)[25]? = some (42, .aload 0, 0, 0, 3, 1, []) := by rw [kc165_eq]; rfl
theorem rw_165_26 : (codeOf 165)[26]? = some (43, .getfield 7, 9, 0, 3, 3, []) := by rw [kc165_eq]; rfl
theorem rw_165_27 : (codeOf 165)[27]? = some (46, .iload 3, 3, 0, 0, 1, []) := by rw [kc165_eq]; rfl
theorem rw_165_28 : (codeOf 165)[28]? = some (47, .aload 0, 0, 0, 3, 1, []) := by rw [kc165_eq]; rfl
theorem rw_165_29 : (codeOf 165)[29]? = some (48, .getfield 7, 9, 0, 3, 3, []) := by rw [kc165_eq]; rfl
theorem rw_165_30 : (codeOf 165)[30]? = some (51, .iconst 214, 2147483862, 0, 0, 3, []) := by rw [kc165_eq]; rfl
theorem rw_165_31 : (codeOf 165)[31]? = some (54, .iaload, 0, 0, 0, 1, []) := by rw [kc165_eq]; rfl
theorem rw_165_32 : (codeOf 165)[32]? = some (55, .aload 0, 0, 0, 3, 1, []) := by rw [kc165_eq]; rfl
theorem rw_165_33 : (codeOf 165)[33]? = some (56, .getfield 7, 9, 0, 3, 3, []) := by rw [kc165_eq]; rfl
theorem rw_165_34 : (codeOf 165)[34]? = some (59, .iconst 213, 2147483861, 0, 0, 3, []) := by rw [kc165_eq]; rfl
theorem rw_165_35 : (codeOf 165)[35]? = some (62, .iaload, 0, 0, 0, 1, []) := by rw [kc165_eq]; rfl
theorem rw_165_36 : (codeOf 165)[36]? = some (63, .iadd, 0, 0, 0, 1, []) := by rw [kc165_eq]; rfl
theorem rw_165_37 : (codeOf 165)[37]? = some (64, .iastore, 0, 0, 0, 1, []) := by rw [kc165_eq]; rfl
theorem rw_165_38 : (codeOf 165)[38]? = some (65, .iconst 0, 2147483648, 0, 0, 1, []) := by rw [kc165_eq]; rfl
theorem rw_165_39 : (codeOf 165)[39]? = some (66, .istore 4, 4, 0, 0, 2, []) := by rw [kc165_eq]; rfl
theorem rw_165_40 : (codeOf 165)[40]? = some (68, .monitorexit, 1321, 0, 0, 0, []) := by rw [kc165_eq]; rfl
theorem rw_165_41 : (codeOf 165)[41]? = some (68, .iload 4, 4, 0, 0, 2, []) := by rw [kc165_eq]; rfl
theorem rw_165_42 : (codeOf 165)[42]? = some (70, .iconst 3, 2147483651, 0, 0, 1, []) := by rw [kc165_eq]; rfl
theorem rw_165_43 : (codeOf 165)[43]? = some (71, .if_icmp .ge 35, 106, 64, 0, 3, []) := by rw [kc165_eq]; rfl
theorem rw_165_44 : (codeOf 165)[44]? = some (74, .aload 0, 0, 0, 3, 1, []) := by rw [kc165_eq]; rfl
theorem rw_165_45 : (codeOf 165)[45]? = some (75, .getfield 7, 9, 0, 3, 3, []) := by rw [kc165_eq]; rfl
theorem rw_165_46 : (codeOf 165)[46]? = some (78, .iload 3, 3, 0, 0, 1, []) := by rw [kc165_eq]; rfl
theorem rw_165_47 : (codeOf 165)[47]? = some (79, .iconst 1, 2147483649, 0, 0, 1, []) := by rw [kc165_eq]; rfl
theorem rw_165_48 : (codeOf 165)[48]? = some (80, .iadd, 0, 0, 0, 1, []) := by rw [kc165_eq]; rfl
theorem rw_165_49 : (codeOf 165)[49]? = some (81, .iload 4, 4, 0, 0, 2, []) := by rw [kc165_eq]; rfl
theorem rw_165_50 : (codeOf 165)[50]? = some (83, .iadd, 0, 0, 0, 1, []) := by rw [kc165_eq]; rfl
theorem rw_165_51 : (codeOf 165)[51]? = some (84, .aload 0, 0, 0, 3, 1, []) := by rw [kc165_eq]; rfl
theorem rw_165_52 : (codeOf 165)[52]? = some (85, .getfield 7, 9, 0, 3, 3, []) := by rw [kc165_eq]; rfl
theorem rw_165_53 : (codeOf 165)[53]? = some (88, .iconst 820, 2147484468, 0, 0, 3, []) := by rw [kc165_eq]; rfl
theorem rw_165_54 : (codeOf 165)[54]? = some (91, .iconst 3, 2147483651, 0, 0, 1, []) := by rw [kc165_eq]; rfl
theorem rw_165_55 : (codeOf 165)[55]? = some (92, .iload 2, 2, 0, 0, 1, []) := by rw [kc165_eq]; rfl
theorem rw_165_56 : (codeOf 165)[56]? = some (93, .imul, 0, 0, 0, 1, []) := by rw [kc165_eq]; rfl
theorem rw_165_57 : (codeOf 165)[57]? = some (94, .iadd, 0, 0, 0, 1, []) := by rw [kc165_eq]; rfl
theorem rw_165_58 : (codeOf 165)[58]? = some (95, .iload 4, 4, 0, 0, 2, []) := by rw [kc165_eq]; rfl
theorem rw_165_59 : (codeOf 165)[59]? = some (97, .iadd, 0, 0, 0, 1, []) := by rw [kc165_eq]; rfl
theorem rw_165_60 : (codeOf 165)[60]? = some (98, .iaload, 0, 0, 0, 1, []) := by rw [kc165_eq]; rfl
theorem rw_165_61 : (codeOf 165)[61]? = some (99, .iastore, 0, 0, 0, 1, []) := by rw [kc165_eq]; rfl
theorem rw_165_62 : (codeOf 165)[62]? = some (100, .iinc 4 1, 4, 1, 0, 3, []) := by rw [kc165_eq]; rfl
theorem rw_165_63 : (codeOf 165)[63]? = some (103, .goto (-35), 68, 40, 0, 3, []) := by rw [kc165_eq]; rfl
theorem rw_165_64 : (codeOf 165)[64]? = some (106, .aload 0, 0, 0, 3, 1, []) := by rw [kc165_eq]; rfl
theorem rw_165_65 : (codeOf 165)[65]? = some (107, .getfield 7, 9, 0, 3, 3, []) := by rw [kc165_eq]; rfl
theorem rw_165_66 : (codeOf 165)[66]? = some (110, .iconst 219, 2147483867, 0, 0, 3, []) := by rw [kc165_eq]; rfl
theorem rw_165_67 : (codeOf 165)[67]? = some (113, .dup2, 0, 0, 0, 1, []) := by rw [kc165_eq]; rfl
theorem rw_165_68 : (codeOf 165)[68]? = some (114, .iaload, 0, 0, 0, 1, []) := by rw [kc165_eq]; rfl
theorem rw_165_69 : (codeOf 165)[69]? = some (115, .iconst 1, 2147483649, 0, 0, 1, []) := by rw [kc165_eq]; rfl
theorem rw_165_70 : (codeOf 165)[70]? = some (116, .iadd, 0, 0, 0, 1, []) := by rw [kc165_eq]; rfl
theorem rw_165_71 : (codeOf 165)[71]? = some (117, .iastore, 0, 0, 0, 1, []) := by rw [kc165_eq]; rfl
theorem rw_165_72 : (codeOf 165)[72]? = some (118, .iinc 2 1, 2, 1, 0, 3, []) := by rw [kc165_eq]; rfl
theorem rw_165_73 : (codeOf 165)[73]? = some (121, .goto (-99), 22, 12, 0, 3, []) := by rw [kc165_eq]; rfl
theorem rw_165_74 : (codeOf 165)[74]? = some (124, .iconst 820, 2147484468, 0, 0, 3, []) := by rw [kc165_eq]; rfl
theorem rw_165_75 : (codeOf 165)[75]? = some (127, .istore 2, 2, 0, 0, 1, []) := by rw [kc165_eq]; rfl
theorem rw_165_76 : (codeOf 165)[76]? = some (128, .monitorexit, 1322, 0, 0, 0, []) := by rw [kc165_eq]; rfl
theorem rw_165_77 : (codeOf 165)[77]? = some (128, .iload 2, 2, 0, 0, 1, []) := by rw [kc165_eq]; rfl
theorem rw_165_78 : (codeOf 165)[78]? = some (129, .iconst 820, 2147484468, 0, 0, 3, []) := by rw [kc165_eq]; rfl
theorem rw_165_79 : (codeOf 165)[79]? = some (132, .iconst 3, 2147483651, 0, 0, 1, []) := by rw [kc165_eq]; rfl
theorem rw_165_80 : (codeOf 165)[80]? = some (133, .aload 0, 0, 0, 3, 1, []) := by rw [kc165_eq]; rfl
theorem rw_165_81 : (codeOf 165)[81]? = some (134, .getfield 7, 9, 0, 3, 3, []) := by rw [kc165_eq]; rfl
theorem rw_165_82 : (codeOf 165)[82]? = some (137, .iconst 218, 2147483866, 0, 0, 3, []) := by rw [kc165_eq]; rfl
theorem rw_165_83 : (codeOf 165)[83]? = some (140, .iaload, 0, 0, 0, 1, []) := by rw [kc165_eq]; rfl
theorem rw_165_84 : (codeOf 165)[84]? = some (141, .iload 1, 1, 0, 0, 1, []) := by rw [kc165_eq]; rfl
theorem rw_165_85 : (codeOf 165)[85]? = some (142, .isub, 0, 0, 0, 1, []) := by rw [kc165_eq]; rfl
theorem rw_165_86 : (codeOf 165)[86]? = some (143, .imul, 0, 0, 0, 1, []) := by rw [kc165_eq]; rfl
theorem rw_165_87 : (codeOf 165)[87]? = some (144, .iadd, 0, 0, 0, 1, []) := by rw [kc165_eq]; rfl
theorem rw_165_88 : (codeOf 165)[88]? = some (145, .if_icmp .ge 25, 170, 103, 0, 3, []) := by rw [kc165_eq]; rfl
theorem rw_165_89 : (codeOf 165)[89]? = some (148, .aload 0, 0, 0, 3, 1, []) := by rw [kc165_eq]; rfl
theorem rw_165_90 : (codeOf 165)[90]? = some (149, .getfield 7, 9, 0, 3, 3, []) := by rw [kc165_eq]; rfl
theorem rw_165_91 : (codeOf 165)[91]? = some (152, .iload 2, 2, 0, 0, 1, []) := by rw [kc165_eq]; rfl
theorem rw_165_92 : (codeOf 165)[92]? = some (153, .aload 0, 0, 0, 3, 1, []) := by rw [kc165_eq]; rfl
theorem rw_165_93 : (codeOf 165)[93]? = some (154, .getfield 7, 9, 0, 3, 3, []) := by rw [kc165_eq]; rfl
theorem rw_165_94 : (codeOf 165)[94]? = some (157, .iload 2, 2, 0, 0, 1, []) := by rw [kc165_eq]; rfl
theorem rw_165_95 : (codeOf 165)[95]? = some (158, .iconst 3, 2147483651, 0, 0, 1, []) := by rw [kc165_eq]; rfl
theorem rw_165_96 : (codeOf 165)[96]? = some (159, .iload 1, 1, 0, 0, 1, []) := by rw [kc165_eq]; rfl
theorem rw_165_97 : (codeOf 165)[97]? = some (160, .imul, 0, 0, 0, 1, []) := by rw [kc165_eq]; rfl
theorem rw_165_98 : (codeOf 165)[98]? = some (161, .iadd, 0, 0, 0, 1, []) := by rw [kc165_eq]; rfl
theorem rw_165_99 : (codeOf 165)[99]? = some (162, .iaload, 0, 0, 0, 1, []) := by rw [kc165_eq]; rfl
theorem rw_165_100 : (codeOf 165)[100]? = some (163, .iastore, 0, 0, 0, 1, []) := by rw [kc165_eq]; rfl
theorem rw_165_101 : (codeOf 165)[101]? = some (164, .iinc 2 1, 2, 1, 0, 3, []) := by rw [kc165_eq]; rfl
theorem rw_165_102 : (codeOf 165)[102]? = some (167, .goto (-39), 128, 76, 0, 3, []) := by rw [kc165_eq]; rfl
theorem rw_165_103 : (codeOf 165)[103]? = some (170, .aload 0, 0, 0, 3, 1, []) := by rw [kc165_eq]; rfl
theorem rw_165_104 : (codeOf 165)[104]? = some (171, .getfield 7, 9, 0, 3, 3, []) := by rw [kc165_eq]; rfl
theorem rw_165_105 : (codeOf 165)[105]? = some (174, .iconst 218, 2147483866, 0, 0, 3, []) := by rw [kc165_eq]; rfl
theorem rw_165_106 : (codeOf 165)[106]? = some (177, .dup2, 0, 0, 0, 1, []) := by rw [kc165_eq]; rfl
theorem rw_165_107 : (codeOf 165)[107]? = some (178, .iaload, 0, 0, 0, 1, []) := by rw [kc165_eq]; rfl
theorem rw_165_108 : (codeOf 165)[108]? = some (179, .iload 1, 1, 0, 0, 1, []) := by rw [kc165_eq]; rfl
theorem rw_165_109 : (codeOf 165)[109]? = some (180, .isub, 0, 0, 0, 1, []) := by rw [kc165_eq]; rfl
theorem rw_165_110 : (codeOf 165)[110]? = some (181, .iastore, 0, 0, 0, 1, []) := by rw [kc165_eq]; rfl
theorem rw_165_111 : (codeOf 165)[111]? = some (182, .return_, 0, 0, 0, 1, []) := by rw [kc165_eq]; rfl
section MI
variable {d k j : Nat} {lv : List (Option Value)} {st : List Value} {ph : PH} {Q : Option Value → PH → Prop} {B : PH} {p : Nat → Int32} {a : Nat → Nat → Int32} {z : Nat → Int32}
theorem mn_nat {x y : Nat} (hx : x ≤ 1000000) (hy : y ≤ 1000000) : ∃ n : Nat, mn (iv (x : Int)) (iv (y : Int)) = iv (n : Int) ∧ n ≤ x ∧ n ≤ y := by
  unfold mn
  by_cases h : iv (y : Int) ≤ iv (x : Int)
  · rw [if_pos h]
    rw [iv_le (by unfold inR; omega) (by unfold inR; omega)] at h
    exact ⟨y, rfl, by omega, Nat.le_refl _⟩
  · rw [if_neg h]
    rw [iv_le (by unfold inR; omega) (by unfold inR; omega)] at h
    exact ⟨x, rfl, Nat.le_refl _, by omega⟩
/-- while packets are served: k are on their way -/
def SV (p q : Nat → Int32) (t D C k : Nat) : Prop := (∀ i, i ≠ 219 → (i < 1000 + 4 * C ∨ 2000 ≤ i) → q i = p i) ∧ q 219 = iv ((C + k : Nat) : Int) ∧ ∀ j, j < k → q (1000 + 4 * (C + j)) = iv ((t : Int) + (D : Int))
/-- behind a tick's service -/
def SVe (p q : Nat → Int32) (t D C G n : Nat) : Prop := (∀ i, i ≠ 219 → i ≠ 218 → (i < 820 ∨ (1000 ≤ i ∧ i < 1000 + 4 * C) ∨ 2000 ≤ i) → q i = p i) ∧ q 219 = iv ((C + n : Nat) : Int) ∧ q 218 = iv ((G - n : Nat) : Int) ∧ ∀ j, j < n → q (1000 + 4 * (C + j)) = iv ((t : Int) + (D : Int))
theorem SV_one {p q r r2 : Nat → Int32} {t D C k : Nat} (h : SV p q t D C k) (hC : C + k ≤ 240) (hr : r = upd q (4 * C + 4 * k + 1000) (iv ((t : Int) + (D : Int)))) (ho : ∀ x, x < 1001 + 4 * (C + k) ∨ 1001 + 4 * (C + k) + 3 ≤ x → r2 x = r x) : SV p (upd r2 219 (iv (((C + k : Nat) : Int) + 1))) t D C (k + 1) := by
  obtain ⟨h1, h2, h3⟩ := h
  subst hr
  refine ⟨fun i hi h => ?_, uq_eq, fun j hj => ?_⟩
  · rw [uq_ne hi, ho i (by omega), uq_ne (by omega)]
    exact h1 i hi h
  · rw [uq_ne (by omega), ho _ (by omega)]
    by_cases e : j = k
    · subst e
      rw [show 1000 + 4 * (C + j) = 4 * C + 4 * j + 1000 by omega, uq_eq]
    · rw [uq_ne (by omega)]
      exact h3 j (by omega)
theorem sv_in (hB : 87 ≤ B.length) {q : Nat → Int32} {C k n : Nat} (hk : k < 60) (hC : C + k < 240) (hQ : ∀ r', (∀ x, x < 1001 + 4 * (C + k) ∨ 1001 + 4 * (C + k) + 3 ≤ x → r' x = q x) → ZR d 165 64 [some (.ref 75), some (.int (iv ((n : Int)))), some (.int (iv ((k : Int)))), some (.int (iv (1000 + (4 * ((C + k : Nat) : Int))))), some (.int (iv (((3 : Nat) : Int))))] [] (mh B r' a z) Q) : ∀ (m i : Nat) (r : Nat → Int32), i + m = 3 → (∀ x, x < 1001 + 4 * (C + k) ∨ 1001 + 4 * (C + k) + 3 ≤ x → r x = q x) → ZR d 165 40 [some (.ref 75), some (.int (iv ((n : Int)))), some (.int (iv ((k : Int)))), some (.int (iv (1000 + (4 * ((C + k : Nat) : Int))))), some (.int (iv ((i : Int))))] [] (mh B r a z) Q := by
  intro m
  induction m with
  | zero =>
    intro i r hin ho
    refine zr_cut hk_165 rw_165_40 ?_
    refine zr_iload hk_165 rw_165_41 rfl ?_
    refine zi_const hk_165 rw_165_42 (c := 3) rfl ?_
    refine zi_icmp_ge hk_165 rw_165_43 (by unfold inR; omega) (by unfold inR; omega) (fun h43 => ?_) (fun h43 => by omega)
    obtain rfl : i = 3 := by omega
    exact hQ r ho
  | succ m ih =>
    intro i r hin ho
    refine zr_cut hk_165 rw_165_40 ?_
    refine zr_iload hk_165 rw_165_41 rfl ?_
    refine zi_const hk_165 rw_165_42 (c := 3) rfl ?_
    refine zi_icmp_ge hk_165 rw_165_43 (by unfold inR; omega) (by unfold inR; omega) (fun h43 => by omega) (fun h43 => ?_)
    refine zr_aload hk_165 rw_165_44 rfl ?_
    refine mz_getf hk_165 hB rw_165_45 rfl ?_
    refine zr_iload hk_165 rw_165_46 rfl ?_
    refine zi_const hk_165 rw_165_47 (c := 1) rfl ?_
    refine zi_add hk_165 rw_165_48 ?_
    refine zr_iload hk_165 rw_165_49 rfl ?_
    refine zi_add hk_165 rw_165_50 ?_
    refine zr_aload hk_165 rw_165_51 rfl ?_
    refine mz_getf hk_165 hB rw_165_52 rfl ?_
    refine zi_const hk_165 rw_165_53 (c := 820) rfl ?_
    refine zi_const hk_165 rw_165_54 (c := 3) rfl ?_
    refine zr_iload hk_165 rw_165_55 rfl ?_
    refine zi_mul hk_165 rw_165_56 ?_
    refine zi_add hk_165 rw_165_57 ?_
    refine zr_iload hk_165 rw_165_58 rfl ?_
    refine zi_add hk_165 rw_165_59 ?_
    refine mz_pld hk_165 hB rw_165_60 (i + 3 * k + 820) (by omega) (by omega) ?_
    refine mz_pst hk_165 hB rw_165_61 (4 * C + i + 4 * k + 1001) (by omega) (by omega) ?_
    refine zi_inc hk_165 rw_165_62 rfl rfl inc_1 (lv' := [some (.ref 75), some (.int (iv ((n : Int)))), some (.int (iv ((k : Int)))), some (.int (iv (1000 + (4 * ((C + k : Nat) : Int))))), some (.int (iv ((i : Int) + 1)))]) rfl ?_
    refine zr_goto hk_165 rw_165_63 ?_
    exact ih (i + 1) _ (by omega) (fun x hx => (uq_ne (by omega)).trans (ho x hx))
theorem sv_sh (hB : 87 ≤ B.length) {q : Nat → Int32} {G n : Nat} (hG : q 218 = iv (G : Int)) (hG2 : G ≤ 60) (hn : n ≤ G) (hQ : ∀ r', (∀ x, x < 820 ∨ 1000 ≤ x → r' x = q x) → ZR d 165 103 [some (.ref 75), some (.int (iv ((n : Int)))), some (.int (iv (((820 + 3 * (G - n) : Nat) : Int))))] [] (mh B r' a z) Q) : ∀ (m k : Nat) (r : Nat → Int32), k + m = 820 + 3 * (G - n) → 820 ≤ k → (∀ x, x < 820 ∨ 1000 ≤ x → r x = q x) → ZR d 165 76 [some (.ref 75), some (.int (iv ((n : Int)))), some (.int (iv ((k : Int))))] [] (mh B r a z) Q := by
  intro m
  induction m with
  | zero =>
    intro k r hkm hlo ho
    refine zr_cut hk_165 rw_165_76 ?_
    refine zr_iload hk_165 rw_165_77 rfl ?_
    refine zi_const hk_165 rw_165_78 (c := 820) rfl ?_
    refine zi_const hk_165 rw_165_79 (c := 3) rfl ?_
    refine zr_aload hk_165 rw_165_80 rfl ?_
    refine mz_getf hk_165 hB rw_165_81 rfl ?_
    refine zi_const hk_165 rw_165_82 (c := 218) rfl ?_
    refine mz_plde hk_165 hB rw_165_83 (218) (by omega) (by omega) ((ho _ (by omega)).trans hG) ?_
    refine zr_iload hk_165 rw_165_84 rfl ?_
    refine zi_sub hk_165 rw_165_85 ?_
    refine zi_mul hk_165 rw_165_86 ?_
    refine zi_add hk_165 rw_165_87 ?_
    refine zi_icmp_ge hk_165 rw_165_88 (by unfold inR; omega) (by unfold inR; omega) (fun h88 => ?_) (fun h88 => by omega)
    obtain rfl : k = 820 + 3 * (G - n) := by omega
    exact hQ r ho
  | succ m ih =>
    intro k r hkm hlo ho
    refine zr_cut hk_165 rw_165_76 ?_
    refine zr_iload hk_165 rw_165_77 rfl ?_
    refine zi_const hk_165 rw_165_78 (c := 820) rfl ?_
    refine zi_const hk_165 rw_165_79 (c := 3) rfl ?_
    refine zr_aload hk_165 rw_165_80 rfl ?_
    refine mz_getf hk_165 hB rw_165_81 rfl ?_
    refine zi_const hk_165 rw_165_82 (c := 218) rfl ?_
    refine mz_plde hk_165 hB rw_165_83 (218) (by omega) (by omega) ((ho _ (by omega)).trans hG) ?_
    refine zr_iload hk_165 rw_165_84 rfl ?_
    refine zi_sub hk_165 rw_165_85 ?_
    refine zi_mul hk_165 rw_165_86 ?_
    refine zi_add hk_165 rw_165_87 ?_
    refine zi_icmp_ge hk_165 rw_165_88 (by unfold inR; omega) (by unfold inR; omega) (fun h88 => by omega) (fun h88 => ?_)
    refine zr_aload hk_165 rw_165_89 rfl ?_
    refine mz_getf hk_165 hB rw_165_90 rfl ?_
    refine zr_iload hk_165 rw_165_91 rfl ?_
    refine zr_aload hk_165 rw_165_92 rfl ?_
    refine mz_getf hk_165 hB rw_165_93 rfl ?_
    refine zr_iload hk_165 rw_165_94 rfl ?_
    refine zi_const hk_165 rw_165_95 (c := 3) rfl ?_
    refine zr_iload hk_165 rw_165_96 rfl ?_
    refine zi_mul hk_165 rw_165_97 ?_
    refine zi_add hk_165 rw_165_98 ?_
    refine mz_pld hk_165 hB rw_165_99 (k + 3 * n) (by omega) (by omega) ?_
    refine mz_pst hk_165 hB rw_165_100 (k) (by omega) (by omega) ?_
    refine zi_inc hk_165 rw_165_101 rfl rfl inc_1 (lv' := [some (.ref 75), some (.int (iv ((n : Int)))), some (.int (iv ((k : Int) + 1)))]) rfl ?_
    refine zr_goto hk_165 rw_165_102 ?_
    exact ih (k + 1) _ (by omega) (by omega) (fun x hx => (uq_ne (by omega)).trans (ho x hx))
theorem sv_loop (hB : 87 ≤ B.length) {t D C G n : Nat} (h214 : p 214 = iv (t : Int)) (h213 : p 213 = iv (D : Int)) (h218 : p 218 = iv (G : Int)) (hG2 : G ≤ 60) (hnG : n ≤ G) (hC : C + n ≤ 240) : ∀ (m k : Nat) (q : Nat → Int32), k + m = n → SV p q t D C k → ZR d 165 12 [some (.ref 75), some (.int (iv ((n : Int)))), some (.int (iv ((k : Int))))] [] (mh B q a z) (fun v ph' => ∃ q', ph' = mh B q' a z ∧ v = none ∧ SVe p q' t D C G n) := by
  intro m
  induction m with
  | zero =>
    intro k q hkm hI
    refine zr_cut hk_165 rw_165_12 ?_
    refine zr_iload hk_165 rw_165_13 rfl ?_
    refine zr_iload hk_165 rw_165_14 rfl ?_
    refine zi_icmp_ge hk_165 rw_165_15 (by unfold inR; omega) (by unfold inR; omega) (fun h15 => ?_) (fun h15 => by omega)
    refine zi_const hk_165 rw_165_74 (c := 820) rfl ?_
    refine zi_istore hk_165 rw_165_75 rfl (lv' := [some (.ref 75), some (.int (iv ((n : Int)))), some (.int (iv (820)))]) rfl ?_
    refine sv_sh (q := q) hB ((hI.1 _ (by omega) (by omega)).trans h218) hG2 hnG (fun r ho => ?_) (3 * (G - n)) 820 q (by omega) (by omega) (fun _ _ => rfl)
    refine zr_aload hk_165 rw_165_103 rfl ?_
    refine mz_getf hk_165 hB rw_165_104 rfl ?_
    refine zi_const hk_165 rw_165_105 (c := 218) rfl ?_
    refine zr_dup2 hk_165 rw_165_106 rfl rfl ?_
    refine mz_plde hk_165 hB rw_165_107 (218) (by omega) (by omega) ((ho _ (by omega)).trans ((hI.1 _ (by omega) (by omega)).trans h218)) ?_
    refine zr_iload hk_165 rw_165_108 rfl ?_
    refine zi_sub hk_165 rw_165_109 ?_
    refine mz_pst hk_165 hB rw_165_110 (218) (by omega) (by omega) ?_
    refine zr_return (a := 0) hk_165 rw_165_111 ?_
    obtain rfl : k = n := by omega
    refine ⟨_, rfl, rfl, fun i h1 h2 h3 => ?_, ?_, ?_, fun j hj => ?_⟩
    · rw [uq_ne h2, ho i (by omega)]; exact hI.1 i h1 (by omega)
    · rw [uq_ne (by omega), ho _ (by omega)]; exact hI.2.1
    · rw [uq_eq]; congr 1; omega
    · rw [uq_ne (by omega), ho _ (by omega)]; exact hI.2.2 j hj
  | succ m ih =>
    intro k q hkm hI
    refine zr_cut hk_165 rw_165_12 ?_
    refine zr_iload hk_165 rw_165_13 rfl ?_
    refine zr_iload hk_165 rw_165_14 rfl ?_
    refine zi_icmp_ge hk_165 rw_165_15 (by unfold inR; omega) (by unfold inR; omega) (fun h15 => by omega) (fun h15 => ?_)
    refine zi_const hk_165 rw_165_16 (c := 1000) rfl ?_
    refine zi_const hk_165 rw_165_17 (c := 4) rfl ?_
    refine zr_aload hk_165 rw_165_18 rfl ?_
    refine mz_getf hk_165 hB rw_165_19 rfl ?_
    refine zi_const hk_165 rw_165_20 (c := 219) rfl ?_
    refine mz_plde hk_165 hB rw_165_21 (219) (by omega) (by omega) (hI.2.1) ?_
    refine zi_mul hk_165 rw_165_22 ?_
    refine zi_add hk_165 rw_165_23 ?_
    refine zi_istore hk_165 rw_165_24 rfl (lv' := [some (.ref 75), some (.int (iv ((n : Int)))), some (.int (iv ((k : Int)))), some (.int (iv (1000 + (4 * (((C + k : Nat) : Int))))))]) rfl ?_
    refine zr_aload hk_165 rw_165_25 rfl ?_
    refine mz_getf hk_165 hB rw_165_26 rfl ?_
    refine zr_iload hk_165 rw_165_27 rfl ?_
    refine zr_aload hk_165 rw_165_28 rfl ?_
    refine mz_getf hk_165 hB rw_165_29 rfl ?_
    refine zi_const hk_165 rw_165_30 (c := 214) rfl ?_
    refine mz_plde hk_165 hB rw_165_31 (214) (by omega) (by omega) ((hI.1 _ (by omega) (by omega)).trans h214) ?_
    refine zr_aload hk_165 rw_165_32 rfl ?_
    refine mz_getf hk_165 hB rw_165_33 rfl ?_
    refine zi_const hk_165 rw_165_34 (c := 213) rfl ?_
    refine mz_plde hk_165 hB rw_165_35 (213) (by omega) (by omega) ((hI.1 _ (by omega) (by omega)).trans h213) ?_
    refine zi_add hk_165 rw_165_36 ?_
    refine mz_pst hk_165 hB rw_165_37 (4 * C + 4 * k + 1000) (by omega) (by omega) ?_
    refine zi_const hk_165 rw_165_38 (c := 0) rfl ?_
    refine zi_istore hk_165 rw_165_39 rfl (lv' := [some (.ref 75), some (.int (iv ((n : Int)))), some (.int (iv ((k : Int)))), some (.int (iv (1000 + (4 * (((C + k : Nat) : Int)))))), some (.int (iv (0)))]) rfl ?_
    refine sv_in hB (by omega) (by omega) (fun r ho => ?_) 3 0 _ (by omega) (fun _ _ => rfl)
    refine zr_aload hk_165 rw_165_64 rfl ?_
    refine mz_getf hk_165 hB rw_165_65 rfl ?_
    refine zi_const hk_165 rw_165_66 (c := 219) rfl ?_
    refine zr_dup2 hk_165 rw_165_67 rfl rfl ?_
    refine mz_plde hk_165 hB rw_165_68 (219) (by omega) (by omega) ((ho _ (by omega)).trans ((uq_ne (by omega)).trans hI.2.1)) ?_
    refine zi_const hk_165 rw_165_69 (c := 1) rfl ?_
    refine zi_add hk_165 rw_165_70 ?_
    refine mz_pst hk_165 hB rw_165_71 (219) (by omega) (by omega) ?_
    refine zi_inc hk_165 rw_165_72 rfl rfl inc_1 (lv' := [some (.ref 75), some (.int (iv ((n : Int)))), some (.int (iv ((k : Int) + 1))), some (.int (iv (1000 + (4 * (((C + k : Nat) : Int)))))), some (.int (iv (((3 : Nat) : Int))))]) rfl ?_
    refine zr_goto hk_165 rw_165_73 ?_
    have hJ := SV_one hI (by omega) rfl ho
    exact zr_app (lv := [some (.ref 75), some (.int (iv (n : Int))), some (.int (iv ((k : Int) + 1)))]) (ex := [some (.int (iv (1000 + (4 * (((C + k : Nat) : Int)))))), some (.int (iv (((3 : Nat) : Int))))]) (ih (k + 1) _ (by omega) hJ)
theorem serves_ok (d : Nat) (hB : 87 ≤ B.length) {t D C G R : Nat} (h214 : p 214 = iv (t : Int)) (h213 : p 213 = iv (D : Int)) (h218 : p 218 = iv (G : Int)) (h219 : p 219 = iv (C : Int)) (h212 : p 212 = iv (R : Int)) (hR : R ≤ 8) (hG2 : G ≤ 60) (hC : C ≤ 232) : ZC (d + 1) 165 [.ref 75] (mh B p a z) (fun v ph' => ∃ n q', n ≤ 8 ∧ n ≤ G ∧ ph' = mh B q' a z ∧ v = none ∧ SVe p q' t D C G n) := by
  refine ZC.of (lv := [some (.ref 75)]) hk_165 (fun i v hv => ?_) ?_
  · match i, hv with
    | 0, hv => cases hv; rfl
    | i + 1, hv => simp at hv
  refine zr_aload hk_165 rw_165_0 rfl ?_
  refine mz_getf hk_165 hB rw_165_1 rfl ?_
  refine zi_const hk_165 rw_165_2 (c := 212) rfl ?_
  refine mz_plde hk_165 hB rw_165_3 (212) (by omega) (by omega) (h212) ?_
  refine zr_aload hk_165 rw_165_4 rfl ?_
  refine mz_getf hk_165 hB rw_165_5 rfl ?_
  refine zi_const hk_165 rw_165_6 (c := 218) rfl ?_
  refine mz_plde hk_165 hB rw_165_7 (218) (by omega) (by omega) (h218) ?_
  refine c_least hk_165 hB rw_165_8 (Nat.le_of_ble_eq_true rfl) ?_
  obtain ⟨n, hn, hnR, hnG⟩ := mn_nat (x := R) (y := G) (by omega) (by omega)
  rw [hn]
  refine zi_istore hk_165 rw_165_9 rfl (lv' := [some (.ref 75), some (.int (iv ((n : Int))))]) rfl ?_
  refine zi_const hk_165 rw_165_10 (c := 0) rfl ?_
  refine zi_istore hk_165 rw_165_11 rfl (lv' := [some (.ref 75), some (.int (iv ((n : Int)))), some (.int (iv (0)))]) rfl ?_
  refine zr_mono (Q := fun v ph' => ∃ q', ph' = mh B q' a z ∧ v = none ∧ SVe p q' t D C G n) (fun v ph' ⟨q', e1, e2, e3⟩ => ⟨n, q', by omega, hnG, e1, e2, e3⟩) ?_
  exact sv_loop (D := D) hB h214 h213 h218 hG2 hnG (by omega) n 0 p (by omega) ⟨fun _ _ _ => rfl, h219, fun j hj => absurd hj (Nat.not_lt_zero _)⟩
theorem c_serves (hk : k < 186) (hB : 87 ≤ B.length) {pc b x ix : Nat} {ts : List Nat} (hrow : (codeOf k)[j]? = some (pc, .invokevirtual ix, 165, b, x, 3, ts)) {t D C G R : Nat} (h214 : p 214 = iv (t : Int)) (h213 : p 213 = iv (D : Int)) (h218 : p 218 = iv (G : Int)) (h219 : p 219 = iv (C : Int)) (h212 : p 212 = iv (R : Int)) (hR : R ≤ 8) (hG2 : G ≤ 60) (hC : C ≤ 232) (hcat : catS st ≤ 8) (h : ∀ n q, n ≤ 8 → n ≤ G → SVe p q t D C G n → ZR (d + 2) k (j + 1) lv st (mh B q a z) Q) : ZR (d + 2) k j lv (.ref 75 :: st) (mh B p a z) Q := by
  refine mz_call (L := 5) (n := 0) (as := []) (r := st) hk hB hrow (by decide) (by decide) ⟨rfl, rfl, rfl, rfl⟩ rfl rfl hcat (Nat.le_of_ble_eq_true rfl) (serves_ok d hB h214 h213 h218 h219 h212 hR hG2 hC) ?_
  rintro w ph' ⟨n, q, h1, h2, rfl, rfl, h3⟩
  exact h n q h1 h2 h3
/-- a tick's end -/
theorem tick_end {p q r : Nat → Int32} {T t D C G n : Nat} (hb : BaseOK p) (ht : t ≤ T) (h214 : p 214 = iv (t : Int)) (hac : ∀ c, c < 10 → ∃ n : Nat, p (21 * c + 16) = iv (n : Int) ∧ n + C ≤ 8 * t) (ha : AckS p t C) (hD1 : 1 ≤ D) (hD2 : D ≤ 30) (hn : n ≤ 8) (hG : G ≤ 60) (hv : SVe p q t D C G n) (hs : Soft q r) : PageOK (T + 1) (upd r 214 (iv ((t : Int) + 1))) ∧ ∀ i, 2000 ≤ i → upd r 214 (iv ((t : Int) + 1)) i = p i := by
  obtain ⟨v1, v2, v3, v4⟩ := hv
  have hC := ackS_le ha
  have hq : BaseOK q := (hb.win (q := upd p 218 (iv ((G - n : Nat) : Int))) (fun i _ h2 _ => uq_ne h2) (hb.2.1.2.2.2.2.1.of_eq (uq_ne (by omega))) ⟨_, uq_eq, by omega, by omega⟩).eqv (fun i _ h => by
    by_cases e : i = 218
    · subst e
      rw [uq_eq]
      exact v3
    · rw [uq_ne e]
      exact v1 i (by omega) e (by omega))
  obtain ⟨s, s1, s2, s3⟩ := ha
  refine ⟨⟨(hq.soft hs).eqv (fun i _ h => uq_ne (by omega)), t + 1, C + n, by omega, uq_eq, ?_, fun c hc => ?_, fun k => if k < C then s k else t, fun k hk => ?_, fun k hk => ?_, fun k hk => ?_⟩, fun i hi => ?_⟩
  · rw [uq_ne (by omega), hs.1 _ (by omega)]
    exact v2
  · obtain ⟨m, m1, m2⟩ := hac c hc
    refine ⟨m, ?_, by omega⟩
    rw [uq_ne (by omega), (hs.2 c hc).2.2.2.1, v1 _ (by omega) (by omega) (by omega)]
    exact m1
  · dsimp only
    by_cases e : k + 1 < C
    · rw [if_pos (by omega), if_pos e]
      exact s1 k e
    · rw [if_neg e]
      by_cases e2 : k < C
      · rw [if_pos e2]
        exact Nat.le_of_lt (s3 k e2).1
      · rw [if_neg e2]
        exact Nat.le_refl _
  · dsimp only
    rw [if_pos (by omega)]
    by_cases e : k + 8 < C
    · rw [if_pos e]
      exact s2 k e
    · rw [if_neg e]
      exact (s3 k (by omega)).1
  · dsimp only
    by_cases e : k < C
    · rw [if_pos e]
      obtain ⟨a1, u, a2, a3, a4⟩ := s3 k e
      refine ⟨by omega, u, ?_, a3, a4⟩
      rw [uq_ne (by omega), hs.1 _ (by omega), v1 _ (by omega) (by omega) (by omega)]
      exact a2
    · rw [if_neg e]
      refine ⟨by omega, t + D, ?_, by omega, by omega⟩
      have := v4 (k - C) (by omega)
      rw [show C + (k - C) = k by omega] at this
      rw [uq_ne (by omega), hs.1 _ (by omega)]
      exact this
  · rw [uq_ne (by omega), hs.1 _ (by omega)]
    exact v1 i (by omega) (by omega) (by omega)
end MI

/-! ===== by program (wip/gen/m75.py): a tick ===== -/
theorem kc145_eq : codeOf 145 = kc145 := rfl
theorem hk_145 : 145 < 186 := by decide
theorem rw_145_0 : (codeOf 145)[0]? = some (0, .aload 0, 0, 0, 3, 1, []) := by rw [kc145_eq]; rfl
theorem rw_145_1 : (codeOf 145)[1]? = some (1, .invokevirtual 151, 146, 0, 0, 3, []) := by rw [kc145_eq]; rfl
theorem rw_145_2 : (codeOf 145)[2]? = some (4, .istore 1, 1, 0, 0, 1, []) := by rw [kc145_eq]; rfl
theorem rw_145_3 : (codeOf 145)[3]? = some (5, .iconst 0, 2147483648, 0, 0, 1, []) := by rw [kc145_eq]; rfl
theorem rw_145_4 : (codeOf 145)[4]? = some (6, .istore 2, 2, 0, 0, 1, []) := by rw [kc145_eq]; rfl
theorem rw_145_5 : (codeOf 145)[5]? = some (7, .monitorexit, 1160, 0, 0, 0, []) := by rw [kc145_eq]; rfl
theorem rw_145_6 : (codeOf 145)[6]? = some (7, .iload 2, 2, 0, 0, 1, []) := by rw [kc145_eq]; rfl
theorem rw_145_7 : (codeOf 145)[7]? = some (8, .iconst 10, 2147483658, 0, 0, 2, []) := by rw [kc145_eq]; rfl
theorem rw_145_8 : (codeOf 145)[8]? = some (10, .if_icmp .ge 22, 32, 18, 0, 3, []) := by rw [kc145_eq]; rfl
theorem rw_145_9 : (codeOf 145)[9]? = some (13, .aload 0, 0, 0, 3, 1, []) := by rw [kc145_eq]; rfl
theorem rw_145_10 : (codeOf 145)[10]? = some (14, .iload 2, 2, 0, 0, 1, []) := by rw [kc145_eq]; rfl
theorem rw_145_11 : (codeOf 145)[11]? = some (15, .invokevirtual 154, 158, 0, 0, 3, []) := by rw [kc145_eq]; rfl
theorem rw_145_12 : (codeOf 145)[12]? = some (18, .ifCond .eq 8, 26, 16, 0, 3, []) := by rw [kc145_eq]; rfl
theorem rw_145_13 : (codeOf 145)[13]? = some (21, .aload 0, 0, 0, 3, 1, []) := by rw [kc145_eq]; rfl
theorem rw_145_14 : (codeOf 145)[14]? = some (22, .iload 2, 2, 0, 0, 1, []) := by rw [kc145_eq]; rfl
theorem rw_145_15 : (codeOf 145)[15]? = some (23, .invokevirtual 157, 160, 0, 0, 3, []) := by rw [kc145_eq]; rfl
theorem rw_145_16 : (codeOf 145)[16]? = some (26, .iinc 2 1, 2, 1, 0, 3, []) := by rw [kc145_eq]; rfl
theorem rw_145_17 : (codeOf 145)[17]? = some (29, .goto (-22), 7, 5, 0, 3, []) := by rw [kc145_eq]; rfl
theorem rw_145_18 : (codeOf 145)[18]? = some (32, .aload 0, 0, 0, 3, 1, []) := by rw [kc145_eq]; rfl
theorem rw_145_19 : (codeOf 145)[19]? = some (33, .invokevirtual 160, 161, 0, 0, 3, []) := by rw [kc145_eq]; rfl
theorem rw_145_20 : (codeOf 145)[20]? = some (36, .iconst 1, 2147483649, 0, 0, 1, []) := by rw [kc145_eq]; rfl
theorem rw_145_21 : (codeOf 145)[21]? = some (37, .istore 2, 2, 0, 0, 1, []) := by rw [kc145_eq]; rfl
theorem rw_145_22 : (codeOf 145)[22]? = some (38, .monitorexit, 1161, 0, 0, 0, []) := by rw [kc145_eq]; rfl
theorem rw_145_23 : (codeOf 145)[23]? = some (38, .iload 2, 2, 0, 0, 1, []) := by rw [kc145_eq]; rfl
theorem rw_145_24 : (codeOf 145)[24]? = some (39, .ifCond .eq 55, 94, 55, 0, 3, []) := by rw [kc145_eq]; rfl
theorem rw_145_25 : (codeOf 145)[25]? = some (42, .iconst 0, 2147483648, 0, 0, 1, []) := by rw [kc145_eq]; rfl
theorem rw_145_26 : (codeOf 145)[26]? = some (43, .istore 2, 2, 0, 0, 1, []) := by rw [kc145_eq]; rfl
theorem rw_145_27 : (codeOf 145)[27]? = some (44, .iconst 0, 2147483648, 0, 0, 1, []) := by rw [kc145_eq]; rfl
theorem rw_145_28 : (codeOf 145)[28]? = some (45, .istore 3, 3, 0, 0, 1, []) := by rw [kc145_eq]; rfl
theorem rw_145_29 : (codeOf 145)[29]? = some (46, .monitorexit, 1162, 0, 0, 0, []) := by rw [kc145_eq]; rfl
theorem rw_145_30 : (codeOf 145)[30]? = some (46, .iload 3, 3, 0, 0, 1, []) := by rw [kc145_eq]; rfl
theorem rw_145_31 : (codeOf 145)[31]? = some (47, .iconst 10, 2147483658, 0, 0, 2, []) := by rw [kc145_eq]; rfl
theorem rw_145_32 : (codeOf 145)[32]? = some (49, .if_icmp .ge 42, 91, 54, 0, 3, []) := by rw [kc145_eq]; rfl
theorem rw_145_33 : (codeOf 145)[33]? = some (52, .aload 0, 0, 0, 3, 1, []) := by rw [kc145_eq]; rfl
theorem rw_145_34 : (codeOf 145)[34]? = some (53, .aload 0, 0, 0, 3, 1, []) := by rw [kc145_eq]; rfl
theorem rw_145_35 : (codeOf 145)[35]? = some (54, .getfield 7, 9, 0, 3, 3, []) := by rw [kc145_eq]; rfl
theorem rw_145_36 : (codeOf 145)[36]? = some (57, .iconst 214, 2147483862, 0, 0, 3, []) := by rw [kc145_eq]; rfl
theorem rw_145_37 : (codeOf 145)[37]? = some (60, .iaload, 0, 0, 0, 1, []) := by rw [kc145_eq]; rfl
theorem rw_145_38 : (codeOf 145)[38]? = some (61, .iconst 10, 2147483658, 0, 0, 2, []) := by rw [kc145_eq]; rfl
theorem rw_145_39 : (codeOf 145)[39]? = some (63, .irem, 0, 0, 0, 1, []) := by rw [kc145_eq]; rfl
theorem rw_145_40 : (codeOf 145)[40]? = some (64, .iload 3, 3, 0, 0, 1, []) := by rw [kc145_eq]; rfl
theorem rw_145_41 : (codeOf 145)[41]? = some (65, .iadd, 0, 0, 0, 1, []) := by rw [kc145_eq]; rfl
theorem rw_145_42 : (codeOf 145)[42]? = some (66, .iconst 10, 2147483658, 0, 0, 2, []) := by rw [kc145_eq]; rfl
theorem rw_145_43 : (codeOf 145)[43]? = some (68, .irem, 0, 0, 0, 1, []) := by rw [kc145_eq]; rfl
theorem rw_145_44 : (codeOf 145)[44]? = some (69, .invokevirtual 163, 163, 0, 0, 3, []) := by rw [kc145_eq]; rfl
theorem rw_145_45 : (codeOf 145)[45]? = some (72, .ifCond .ne 7, 79, 48, 0, 3, []) := by rw [kc145_eq]; rfl
theorem rw_145_46 : (codeOf 145)[46]? = some (75, .iload 2, 2, 0, 0, 1, []) := by rw [kc145_eq]; rfl
theorem rw_145_47 : (codeOf 145)[47]? = some (76, .ifCond .eq 7, 83, 50, 0, 3, []) := by rw [kc145_eq]; rfl
theorem rw_145_48 : (codeOf 145)[48]? = some (79, .iconst 1, 2147483649, 0, 0, 1, []) := by rw [kc145_eq]; rfl
theorem rw_145_49 : (codeOf 145)[49]? = some (80, .goto 4, 84, 51, 0, 3, []) := by rw [kc145_eq]; rfl
theorem rw_145_50 : (codeOf 145)[50]? = some (83, .iconst 0, 2147483648, 0, 0, 1, []) := by rw [kc145_eq]; rfl
theorem rw_145_51 : (codeOf 145)[51]? = some (84, .istore 2, 2, 0, 0, 1, []) := by rw [kc145_eq]; rfl
theorem rw_145_52 : (codeOf 145)[52]? = some (85, .iinc 3 1, 3, 1, 0, 3, []) := by rw [kc145_eq]; rfl
theorem rw_145_53 : (codeOf 145)[53]? = some (88, .goto (-42), 46, 29, 0, 3, []) := by rw [kc145_eq]; rfl
theorem rw_145_54 : (codeOf 145)[54]? = some (91, .goto (-53), 38, 22, 0, 3, []) := by rw [kc145_eq]; rfl
theorem rw_145_55 : (codeOf 145)[55]? = some (94, .aload 0, 0, 0, 3, 1, []) := by rw [kc145_eq]; rfl
theorem rw_145_56 : (codeOf 145)[56]? = some (95, .invokevirtual 166, 165, 0, 0, 3, []) := by rw [kc145_eq]; rfl
theorem rw_145_57 : (codeOf 145)[57]? = some (98, .iconst 0, 2147483648, 0, 0, 1, []) := by rw [kc145_eq]; rfl
theorem rw_145_58 : (codeOf 145)[58]? = some (99, .istore 3, 3, 0, 0, 1, []) := by rw [kc145_eq]; rfl
theorem rw_145_59 : (codeOf 145)[59]? = some (100, .monitorexit, 1163, 0, 0, 0, []) := by rw [kc145_eq]; rfl
theorem rw_145_60 : (codeOf 145)[60]? = some (100, .iload 3, 3, 0, 0, 1, []) := by rw [kc145_eq]; rfl
theorem rw_145_61 : (codeOf 145)[61]? = some (101, .iconst 10, 2147483658, 0, 0, 2, []) := by rw [kc145_eq]; rfl
theorem rw_145_62 : (codeOf 145)[62]? = some (103, .if_icmp .ge 43, 146, 84, 0, 3, []) := by rw [kc145_eq]; rfl
theorem rw_145_63 : (codeOf 145)[63]? = some (106, .aload 0, 0, 0, 3, 1, []) := by rw [kc145_eq]; rfl
theorem rw_145_64 : (codeOf 145)[64]? = some (107, .getfield 7, 9, 0, 3, 3, []) := by rw [kc145_eq]; rfl
theorem rw_145_65 : (codeOf 145)[65]? = some (110, .iconst 214, 2147483862, 0, 0, 3, []) := by rw [kc145_eq]; rfl
theorem rw_145_66 : (codeOf 145)[66]? = some (113, .iaload, 0, 0, 0, 1, []) := by rw [kc145_eq]; rfl
theorem rw_145_67 : (codeOf 145)[67]? = some (114, .iconst 8, 2147483656, 0, 0, 2, []) := by rw [kc145_eq]; rfl
theorem rw_145_68 : (codeOf 145)[68]? = some (116, .irem, 0, 0, 0, 1, []) := by rw [kc145_eq]; rfl
theorem rw_145_69 : (codeOf 145)[69]? = some (117, .ifCond .ne 29, 146, 84, 0, 3, []) := by rw [kc145_eq]; rfl
theorem rw_145_70 : (codeOf 145)[70]? = some (120, .aload 0, 0, 0, 3, 1, []) := by rw [kc145_eq]; rfl
theorem rw_145_71 : (codeOf 145)[71]? = some (121, .iload 3, 3, 0, 0, 1, []) := by rw [kc145_eq]; rfl
theorem rw_145_72 : (codeOf 145)[72]? = some (122, .iconst 12, 2147483660, 0, 0, 2, []) := by rw [kc145_eq]; rfl
theorem rw_145_73 : (codeOf 145)[73]? = some (124, .iconst 0, 2147483648, 0, 0, 1, []) := by rw [kc145_eq]; rfl
theorem rw_145_74 : (codeOf 145)[74]? = some (125, .aload 0, 0, 0, 3, 1, []) := by rw [kc145_eq]; rfl
theorem rw_145_75 : (codeOf 145)[75]? = some (126, .iload 3, 3, 0, 0, 1, []) := by rw [kc145_eq]; rfl
theorem rw_145_76 : (codeOf 145)[76]? = some (127, .iconst 12, 2147483660, 0, 0, 2, []) := by rw [kc145_eq]; rfl
theorem rw_145_77 : (codeOf 145)[77]? = some (129, .invokevirtual 62, 130, 0, 0, 3, []) := by rw [kc145_eq]; rfl
theorem rw_145_78 : (codeOf 145)[78]? = some (132, .iconst 1, 2147483649, 0, 0, 1, []) := by rw [kc145_eq]; rfl
theorem rw_145_79 : (codeOf 145)[79]? = some (133, .isub, 0, 0, 0, 1, []) := by rw [kc145_eq]; rfl
theorem rw_145_80 : (codeOf 145)[80]? = some (134, .invokestatic 99, 138, 0, 0, 3, []) := by rw [kc145_eq]; rfl
theorem rw_145_81 : (codeOf 145)[81]? = some (137, .invokevirtual 66, 119, 0, 0, 3, []) := by rw [kc145_eq]; rfl
theorem rw_145_82 : (codeOf 145)[82]? = some (140, .iinc 3 1, 3, 1, 0, 3, []) := by rw [kc145_eq]; rfl
theorem rw_145_83 : (codeOf 145)[83]? = some (143, .goto (-43), 100, 59, 0, 3, []) := by rw [kc145_eq]; rfl
theorem rw_145_84 : (codeOf 145)[84]? = some (146, .aload 0, 0, 0, 3, 1, []) := by rw [kc145_eq]; rfl
theorem rw_145_85 : (codeOf 145)[85]? = some (147, .getfield 7, 9, 0, 3, 3, []) := by rw [kc145_eq]; rfl
theorem rw_145_86 : (codeOf 145)[86]? = some (150, .iconst 214, 2147483862, 0, 0, 3, []) := by rw [kc145_eq]; rfl
theorem rw_145_87 : (codeOf 145)[87]? = some (153, .dup2, 0, 0, 0, 1, []) := by rw [kc145_eq]; rfl
theorem rw_145_88 : (codeOf 145)[88]? = some (154, .iaload, 0, 0, 0, 1, []) := by rw [kc145_eq]; rfl
theorem rw_145_89 : (codeOf 145)[89]? = some (155, .iconst 1, 2147483649, 0, 0, 1, []) := by rw [kc145_eq]; rfl
theorem rw_145_90 : (codeOf 145)[90]? = some (156, .iadd, 0, 0, 0, 1, []) := by rw [kc145_eq]; rfl
theorem rw_145_91 : (codeOf 145)[91]? = some (157, .iastore, 0, 0, 0, 1, []) := by rw [kc145_eq]; rfl
theorem rw_145_92 : (codeOf 145)[92]? = some (158, .iload 1, 1, 0, 0, 1, []) := by rw [kc145_eq]; rfl
theorem rw_145_93 : (codeOf 145)[93]? = some (159, .ireturn, 1, 0, 0, 1, []) := by rw [kc145_eq]; rfl
section ML
variable {d k j : Nat} {lv : List (Option Value)} {st : List Value} {ph : PH} {Q : Option Value → PH → Prop} {B : PH} {p : Nat → Int32} {a : Nat → Nat → Int32} {z : Nat → Int32}
theorem tk_pen (hB : 87 ≤ B.length) {q : Nat → Int32} {x : Int32} {e : Int} {t : Nat} (ht : q 214 = iv (t : Int)) (ht2 : t ≤ 1000000) (hQ : ∀ (r : Nat → Int32) (k : Nat), Soft q r → ZR (d + 1) 145 84 [some (.ref 75), some (.int (x)), some (.int (iv (e))), some (.int (iv ((k : Int))))] [] (mh B r a z) Q) : ∀ (m k : Nat) (r : Nat → Int32), k + m = 10 → Soft q r → ZR (d + 1) 145 59 [some (.ref 75), some (.int (x)), some (.int (iv (e))), some (.int (iv ((k : Int))))] [] (mh B r a z) Q := by
  intro m
  induction m with
  | zero =>
    intro k r hkm SS
    refine zr_cut hk_145 rw_145_59 ?_
    refine zr_iload hk_145 rw_145_60 rfl ?_
    refine zi_const hk_145 rw_145_61 (c := 10) rfl ?_
    refine zi_icmp_ge hk_145 rw_145_62 (by unfold inR; omega) (by unfold inR; omega) (fun h62 => ?_) (fun h62 => by omega)
    exact hQ _ k SS
  | succ m ih =>
    intro k r hkm SS
    refine zr_cut hk_145 rw_145_59 ?_
    refine zr_iload hk_145 rw_145_60 rfl ?_
    refine zi_const hk_145 rw_145_61 (c := 10) rfl ?_
    refine zi_icmp_ge hk_145 rw_145_62 (by unfold inR; omega) (by unfold inR; omega) (fun h62 => by omega) (fun h62 => ?_)
    refine zr_aload hk_145 rw_145_63 rfl ?_
    refine mz_getf hk_145 hB rw_145_64 rfl ?_
    refine zi_const hk_145 rw_145_65 (c := 214) rfl ?_
    refine mz_plde hk_145 hB rw_145_66 (214) (by omega) (by omega) ((SS.1 _ (by omega)).trans ht) ?_
    refine zi_const hk_145 rw_145_67 (c := 8) rfl ?_
    refine zi_rem hk_145 rw_145_68 (by omega) (by omega) ?_
    refine zi_if_ne hk_145 rw_145_69 (by unfold inR; omega) (fun h69 => ?_) (fun h69 => ?_)
    · exact hQ _ k SS
    · refine zr_aload hk_145 rw_145_70 rfl ?_
      refine zr_iload hk_145 rw_145_71 rfl ?_
      refine zi_const hk_145 rw_145_72 (c := 12) rfl ?_
      refine zi_const hk_145 rw_145_73 (c := 0) rfl ?_
      refine zr_aload hk_145 rw_145_74 rfl ?_
      refine zr_iload hk_145 rw_145_75 rfl ?_
      refine zi_const hk_145 rw_145_76 (c := 12) rfl ?_
      refine c_of hk_145 hB rw_145_77 (21 * k + 12) (by omega) (by omega) (Nat.le_of_ble_eq_true rfl) ?_
      refine zi_const hk_145 rw_145_78 (c := 1) rfl ?_
      refine zr_isub hk_145 rw_145_79 ?_
      refine c_most hk_145 hB rw_145_80 (Nat.le_of_ble_eq_true rfl) ?_
      refine c_putS hk_145 hB rw_145_81 k 12 rfl rfl (by omega) (by decide) (by decide) (fun e => absurd e (by decide)) (fun e => absurd e (by decide)) (Nat.le_of_ble_eq_true rfl) (fun q S => ?_)
      have SS := SS.trans S
      refine zi_inc hk_145 rw_145_82 rfl rfl inc_1 (lv' := [some (.ref 75), some (.int (x)), some (.int (iv (e))), some (.int (iv ((k : Int) + 1)))]) rfl ?_
      refine zr_goto hk_145 rw_145_83 ?_
      exact ih (k + 1) _ (by omega) SS
theorem tk_tail (hB : 87 ≤ B.length) {T : Nat} {x : Int32} {e : Int} (hT0 : T ≤ 1000000) (hP : PageS T p) : ZR (d + 2) 145 55 [some (.ref 75), some (.int (x)), some (.int (iv (e)))] [] (mh B p a z) (fun v ph' => ∃ q' b, ph' = mh B q' b z ∧ (K4 a b ∧ ∃ x : Int32, v = some (.int x)) ∧ PageOK (T + 1) q' ∧ ∀ i, 2000 ≤ i → q' i = p i) := by
  obtain ⟨hb, t, C, hT, h214, h219, hac, ha⟩ := hP
  obtain ⟨D', h213, hD1, hD2⟩ := hb.2.1.2.2.2.1
  obtain ⟨D, rfl⟩ : ∃ D : Nat, D' = (D : Int) := ⟨D'.toNat, by omega⟩
  obtain ⟨G, h218, hG⟩ := hb.2.1.2.2.2.2.2.nat
  obtain ⟨R', h212, hR1, hR2⟩ := hb.2.1.2.2.1
  obtain ⟨R, rfl⟩ : ∃ R : Nat, R' = (R : Int) := ⟨R'.toNat, by omega⟩
  refine zr_aload hk_145 rw_145_55 rfl ?_
  refine c_serves hk_145 hB rw_145_56 h214 h213 h218 h219 h212 (by omega) (by omega) (ackS_le ha) (Nat.le_of_ble_eq_true rfl) (fun n q hn8 hnG hv => ?_)
  refine zi_const hk_145 rw_145_57 (c := 0) rfl ?_
  refine zi_istore hk_145 rw_145_58 rfl (lv' := [some (.ref 75), some (.int (x)), some (.int (iv (e))), some (.int (iv (0)))]) rfl ?_
  refine tk_pen hB ((hv.1 _ (by omega) (by omega) (by omega)).trans h214) (by omega) (fun r k S => ?_) 10 0 q (by omega) (Soft.rfl' q)
  refine zr_aload hk_145 rw_145_84 rfl ?_
  refine mz_getf hk_145 hB rw_145_85 rfl ?_
  refine zi_const hk_145 rw_145_86 (c := 214) rfl ?_
  refine zr_dup2 hk_145 rw_145_87 rfl rfl ?_
  refine mz_plde hk_145 hB rw_145_88 (214) (by omega) (by omega) ((S.1 _ (by omega)).trans ((hv.1 _ (by omega) (by omega) (by omega)).trans h214)) ?_
  refine zi_const hk_145 rw_145_89 (c := 1) rfl ?_
  refine zi_add hk_145 rw_145_90 ?_
  refine mz_pst hk_145 hB rw_145_91 (214) (by omega) (by omega) ?_
  refine zr_iload hk_145 rw_145_92 rfl ?_
  refine zr_ireturn hk_145 rw_145_93 ?_
  exact ⟨_, _, rfl, ⟨K4.id _, _, rfl⟩, (tick_end hb hT h214 hac ha (by omega) (by omega) hn8 (by omega) hv S).1, (tick_end hb hT h214 hac ha (by omega) (by omega) hn8 (by omega) hv S).2⟩
/-- while packets are sent -/
def TS (p q : Nat → Int32) (F U : Nat) : Prop := BaseOK q ∧ Mild p q ∧ q 217 = iv (F : Int) ∧ q 210 = iv (U : Int)
theorem TS.one {p q r : Nat → Int32} {F U : Nat} (h : TS p q F U) (h1 : BaseOK r) (h2 : Mild q r) (h3 : r 217 = iv ((F + 1 : Nat) : Int)) (h4 : r 210 = iv (U : Int)) : TS p r (F + 1) U := ⟨h1, h.2.1.trans h2, h3, h4⟩
theorem tk_in (hB : 87 ≤ B.length) {x : Int32} {t U F0 : Nat} (ht : p 214 = iv (t : Int)) (ht2 : t ≤ 1000000) (hU : U ≤ 200) (hQ : ∀ (q : Nat → Int32) (F : Nat) (e : Int), TS p q F U → F0 ≤ F → F ≤ 200 → (e = 0 ∨ (e = 1 ∧ F0 + 1 ≤ F)) → ZR (d + 3) 145 54 [some (.ref 75), some (.int (x)), some (.int (iv (e))), some (.int (iv (((10 : Nat) : Int))))] [] (mh B q a z) Q) : ∀ (m k : Nat) (q : Nat → Int32) (F : Nat) (e : Int), k + m = 10 → TS p q F U → F0 ≤ F → F ≤ 200 → (e = 0 ∨ (e = 1 ∧ F0 + 1 ≤ F)) → ZR (d + 3) 145 29 [some (.ref 75), some (.int (x)), some (.int (iv (e))), some (.int (iv ((k : Int))))] [] (mh B q a z) Q := by
  intro m
  induction m with
  | zero =>
    intro k q F e hkm hS hF0 hF2 he
    refine zr_cut hk_145 rw_145_29 ?_
    refine zr_iload hk_145 rw_145_30 rfl ?_
    refine zi_const hk_145 rw_145_31 (c := 10) rfl ?_
    refine zi_icmp_ge hk_145 rw_145_32 (by first | assumption | (unfold inR; omega)) (by first | assumption | (unfold inR; omega)) (fun h32 => ?_) (fun h32 => by omega)
    obtain rfl : k = 10 := by omega
    exact hQ q F e hS hF0 hF2 he
  | succ m ih =>
    intro k q F e hkm hS hF0 hF2 he
    refine zr_cut hk_145 rw_145_29 ?_
    refine zr_iload hk_145 rw_145_30 rfl ?_
    refine zi_const hk_145 rw_145_31 (c := 10) rfl ?_
    refine zi_icmp_ge hk_145 rw_145_32 (by first | assumption | (unfold inR; omega)) (by first | assumption | (unfold inR; omega)) (fun h32 => by omega) (fun h32 => ?_)
    refine zr_aload hk_145 rw_145_33 rfl ?_
    refine zr_aload hk_145 rw_145_34 rfl ?_
    refine mz_getf hk_145 hB rw_145_35 rfl ?_
    refine zi_const hk_145 rw_145_36 (c := 214) rfl ?_
    refine mz_plde hk_145 hB rw_145_37 (214) (by omega) (by omega) (hS.2.1.2.1.trans ht) ?_
    refine zi_const hk_145 rw_145_38 (c := 10) rfl ?_
    refine zi_rem hk_145 rw_145_39 (by omega) (by omega) ?_
    refine zr_iload hk_145 rw_145_40 rfl ?_
    refine zi_add hk_145 rw_145_41 ?_
    refine zi_const hk_145 rw_145_42 (c := 10) rfl ?_
    refine zi_rem hk_145 rw_145_43 (by omega) (by omega) ?_
    rw [show (((t : Int) % 10 + (k : Int)) % 10) = (((t % 10 + k) % 10 : Nat) : Int) by omega]
    refine c_sends hk_145 hB rw_145_44 (by omega) hS.1 hS.2.2.1 hF2 hS.2.2.2 hU (Nat.le_of_ble_eq_true rfl) ?_ (fun r g1 g2 g3 g4 g5 => ?_)
    · refine zi_if_ne hk_145 rw_145_45 (by first | assumption | (unfold inR; omega)) (fun h45 => by omega) (fun h45 => ?_)
      refine zr_iload hk_145 rw_145_46 rfl ?_
      refine zi_if_eq hk_145 rw_145_47 (by first | assumption | (unfold inR; omega)) (fun h47 => ?_) (fun h47 => ?_)
      · refine zi_const hk_145 rw_145_50 (c := 0) rfl ?_
        refine zi_istore hk_145 rw_145_51 rfl (lv' := [some (.ref 75), some (.int (x)), some (.int (iv (0))), some (.int (iv ((k : Int))))]) rfl ?_
        refine zi_inc hk_145 rw_145_52 rfl rfl inc_1 (lv' := [some (.ref 75), some (.int (x)), some (.int (iv (0))), some (.int (iv ((k : Int) + 1)))]) rfl ?_
        refine zr_goto hk_145 rw_145_53 ?_
        exact ih (k + 1) q F 0 (by omega) hS hF0 hF2 (Or.inl rfl)
      · refine zi_const hk_145 rw_145_48 (c := 1) rfl ?_
        refine zr_goto hk_145 rw_145_49 ?_
        refine zi_istore hk_145 rw_145_51 rfl (lv' := [some (.ref 75), some (.int (x)), some (.int (iv (1))), some (.int (iv ((k : Int))))]) rfl ?_
        refine zi_inc hk_145 rw_145_52 rfl rfl inc_1 (lv' := [some (.ref 75), some (.int (x)), some (.int (iv (1))), some (.int (iv ((k : Int) + 1)))]) rfl ?_
        refine zr_goto hk_145 rw_145_53 ?_
        exact ih (k + 1) q F 1 (by omega) hS hF0 hF2 (Or.inr ⟨rfl, by omega⟩)
    · have hS := hS.one g1 g2 g3 g5
      refine zi_if_ne hk_145 rw_145_45 (by first | assumption | (unfold inR; omega)) (fun h45 => ?_) (fun h45 => by omega)
      refine zi_const hk_145 rw_145_48 (c := 1) rfl ?_
      refine zr_goto hk_145 rw_145_49 ?_
      refine zi_istore hk_145 rw_145_51 rfl (lv' := [some (.ref 75), some (.int (x)), some (.int (iv (1))), some (.int (iv ((k : Int))))]) rfl ?_
      refine zi_inc hk_145 rw_145_52 rfl rfl inc_1 (lv' := [some (.ref 75), some (.int (x)), some (.int (iv (1))), some (.int (iv ((k : Int) + 1)))]) rfl ?_
      refine zr_goto hk_145 rw_145_53 ?_
      exact ih (k + 1) r (F + 1) 1 (by omega) hS (by omega) (by omega) (Or.inr ⟨rfl, by omega⟩)
theorem tk_exit (hB : 87 ≤ B.length) {T : Nat} {x : Int32} {q : Nat → Int32} {F U : Nat} (hT0 : T ≤ 1000000) (hP : PageS T p) (hS : TS p q F U) : ZR (d + 3) 145 22 [some (.ref 75), some (.int (x)), some (.int (iv (0)))] [] (mh B q a z) (fun v ph' => ∃ q' b, ph' = mh B q' b z ∧ (K4 a b ∧ ∃ x : Int32, v = some (.int x)) ∧ PageOK (T + 1) q' ∧ ∀ i, 2000 ≤ i → q' i = p i) := by
  refine zr_cut hk_145 rw_145_22 ?_
  refine zr_iload hk_145 rw_145_23 rfl ?_
  refine zi_if_eq hk_145 rw_145_24 (by unfold inR; omega) (fun h24 => ?_) (fun h24 => by omega)
  exact zr_mono (fun v ph' ⟨q', b, e1, e2, e3, e4⟩ => ⟨q', b, e1, e2, e3, fun i hi => (e4 i hi).trans (hS.2.1.1 i (by omega))⟩) (tk_tail hB hT0 (hP.mild hS.1 hS.2.1))
theorem tk_out (hB : 87 ≤ B.length) {T : Nat} {x : Int32} {t U : Nat} (hT0 : T ≤ 1000000) (hP : PageS T p) (ht : p 214 = iv (t : Int)) (htT : t ≤ T) (hU : U ≤ 200) : ∀ (m F : Nat) (q : Nat → Int32), 201 ≤ F + m → F ≤ 200 → TS p q F U → ZR (d + 3) 145 22 [some (.ref 75), some (.int (x)), some (.int (iv (1)))] [] (mh B q a z) (fun v ph' => ∃ q' b, ph' = mh B q' b z ∧ (K4 a b ∧ ∃ x : Int32, v = some (.int x)) ∧ PageOK (T + 1) q' ∧ ∀ i, 2000 ≤ i → q' i = p i) := by
  intro m
  induction m with
  | zero => intro F q h1 h2; omega
  | succ m ih =>
    intro F q hFm hF2 hS
    refine zr_cut hk_145 rw_145_22 ?_
    refine zr_iload hk_145 rw_145_23 rfl ?_
    refine zi_if_eq hk_145 rw_145_24 (by unfold inR; omega) (fun h24 => by omega) (fun h24 => ?_)
    refine zi_const hk_145 rw_145_25 (c := 0) rfl ?_
    refine zi_istore hk_145 rw_145_26 rfl (lv' := [some (.ref 75), some (.int (x)), some (.int (iv (0)))]) rfl ?_
    refine zi_const hk_145 rw_145_27 (c := 0) rfl ?_
    refine zi_istore hk_145 rw_145_28 rfl (lv' := [some (.ref 75), some (.int (x)), some (.int (iv (0))), some (.int (iv (0)))]) rfl ?_
    refine tk_in (F0 := F) hB ht (by omega) hU (fun q F1 e hS hF0 hF2 he => ?_) 10 0 q F 0 (by omega) hS (by omega) (by omega) (Or.inl rfl)
    refine zr_goto hk_145 rw_145_54 ?_
    refine zr_app (lv := [some (.ref 75), some (.int x), some (.int (iv e))]) (ex := [some (.int (iv (((10 : Nat) : Int))))]) ?_
    rcases he with rfl | ⟨rfl, he⟩
    · exact tk_exit hB hT0 hP hS
    · exact ih F1 q (by omega) hF2 hS
theorem tk_times (hB : 87 ≤ B.length) {T : Nat} {x : Int32} (hT0 : T ≤ 1000000) : ∀ (m c : Nat) (q : Nat → Int32), c + m = 10 → PageS T q → (∀ i, 2000 ≤ i → q i = p i) → ZR (d + 5) 145 5 [some (.ref 75), some (.int (x)), some (.int (iv ((c : Int))))] [] (mh B q a z) (fun v ph' => ∃ q' b, ph' = mh B q' b z ∧ (K4 a b ∧ ∃ x : Int32, v = some (.int x)) ∧ PageOK (T + 1) q' ∧ ∀ i, 2000 ≤ i → q' i = p i) := by
  intro m
  induction m with
  | zero =>
    intro c q hcm hP hH
    refine zr_cut hk_145 rw_145_5 ?_
    refine zr_iload hk_145 rw_145_6 rfl ?_
    refine zi_const hk_145 rw_145_7 (c := 10) rfl ?_
    refine zi_icmp_ge hk_145 rw_145_8 (by unfold inR; omega) (by unfold inR; omega) (fun h8 => ?_) (fun h8 => by omega)
    refine zr_aload hk_145 rw_145_18 rfl ?_
    refine c_shares hk_145 hB rw_145_19 hP.1 (Nat.le_of_ble_eq_true rfl) (fun b hK => ?_)
    refine zi_const hk_145 rw_145_20 (c := 1) rfl ?_
    refine zi_istore hk_145 rw_145_21 rfl (lv' := [some (.ref 75), some (.int (x)), some (.int (iv (1)))]) rfl ?_
    obtain ⟨F, hF, hF3⟩ := hP.1.2.1.2.2.2.2.1.nat
    obtain ⟨U', hU0, hU1, hU2⟩ := hP.1.2.1.1
    obtain ⟨U, rfl⟩ : ∃ U : Nat, U' = (U : Int) := ⟨U'.toNat, by omega⟩
    have hP2 := hP
    obtain ⟨hb, t, C, hT, h214, -⟩ := hP2
    exact zr_mono (fun v ph' ⟨q', b, e1, e2, e3, e4⟩ => ⟨q', b, e1, ⟨hK.trans e2.1, e2.2⟩, e3, fun i hi => (e4 i hi).trans (hH i hi)⟩) (tk_out (U := U) hB hT0 hP h214 hT (by omega) 201 F q (by omega) (by omega) ⟨hb, Mild.rfl' q, hF, hU0⟩)
  | succ m ih =>
    intro c q hcm hP hH
    refine zr_cut hk_145 rw_145_5 ?_
    refine zr_iload hk_145 rw_145_6 rfl ?_
    refine zi_const hk_145 rw_145_7 (c := 10) rfl ?_
    refine zi_icmp_ge hk_145 rw_145_8 (by unfold inR; omega) (by unfold inR; omega) (fun h8 => by omega) (fun h8 => ?_)
    obtain ⟨F, hF, hF3⟩ := hP.1.2.1.2.2.2.2.1.nat
    have hF2 : F ≤ 200 := by omega
    refine zr_aload hk_145 rw_145_9 rfl ?_
    refine zr_iload hk_145 rw_145_10 rfl ?_
    refine c_isOverdue hk_145 hB rw_145_11 (by omega) hF hF2 (Nat.le_of_ble_eq_true rfl) (fun h11c => ?_) (fun h11c => ?_)
    · refine zi_if_eq hk_145 rw_145_12 (by unfold inR; omega) (fun h => absurd h (by decide)) (fun _ => ?_)
      refine zr_aload hk_145 rw_145_13 rfl ?_
      refine zr_iload hk_145 rw_145_14 rfl ?_
      refine c_timesOut hk_145 hB rw_145_15 (by omega) hP.1 (Nat.le_of_ble_eq_true rfl) (fun r hb hm => ?_)
      have hP := hP.mild hb hm
      have hH : ∀ i, 2000 ≤ i → r i = p i := fun i hi => (hm.1 i (by omega)).trans (hH i hi)
      refine zi_inc hk_145 rw_145_16 rfl rfl inc_1 (lv' := [some (.ref 75), some (.int (x)), some (.int (iv ((c : Int) + 1)))]) rfl ?_
      refine zr_goto hk_145 rw_145_17 ?_
      exact ih (c + 1) _ (by omega) hP hH
    · refine zi_if_eq hk_145 rw_145_12 (by unfold inR; omega) (fun _ => ?_) (fun h => absurd h (by decide))
      refine zi_inc hk_145 rw_145_16 rfl rfl inc_1 (lv' := [some (.ref 75), some (.int (x)), some (.int (iv ((c : Int) + 1)))]) rfl ?_
      refine zr_goto hk_145 rw_145_17 ?_
      exact ih (c + 1) _ (by omega) hP hH
theorem ticks_ok (d : Nat) (hB : 87 ≤ B.length) {T : Nat} (hT0 : T ≤ 1000000) (hP : PageOK T p) : ZC (d + 6) 145 [.ref 75] (mh B p a z) (fun v ph' => ∃ q' b, ph' = mh B q' b z ∧ (K4 a b ∧ ∃ x : Int32, v = some (.int x)) ∧ PageOK (T + 1) q' ∧ ∀ i, 2000 ≤ i → q' i = p i) := by
  refine ZC.of (lv := [some (.ref 75)]) hk_145 (fun i v hv => ?_) ?_
  · match i, hv with
    | 0, hv => cases hv; rfl
    | i + 1, hv => simp at hv
  refine zr_aload hk_145 rw_145_0 rfl ?_
  refine c_acknowledges hk_145 hB rw_145_1 hP (Nat.le_of_ble_eq_true rfl) (fun q x hP hH => ?_)
  refine zi_istore hk_145 rw_145_2 rfl (lv' := [some (.ref 75), some (.int (x))]) rfl ?_
  refine zi_const hk_145 rw_145_3 (c := 0) rfl ?_
  refine zi_istore hk_145 rw_145_4 rfl (lv' := [some (.ref 75), some (.int (x)), some (.int (iv (0)))]) rfl ?_
  exact tk_times hB hT0 10 0 q (by omega) hP hH
theorem c_ticks (hk : k < 186) (hB : 87 ≤ B.length) {pc b x ix : Nat} {ts : List Nat} (hrow : (codeOf k)[j]? = some (pc, .invokevirtual ix, 145, b, x, 3, ts)) {T : Nat} (hT0 : T ≤ 1000000) (hP : PageOK T p) (hcat : catS st ≤ 8) (h : ∀ (q : Nat → Int32) (b : Nat → Nat → Int32) (x : Int32), K4 a b → PageOK (T + 1) q → (∀ i, 2000 ≤ i → q i = p i) → ZR (d + 7) k (j + 1) lv (.int x :: st) (mh B q b z) Q) : ZR (d + 7) k j lv (.ref 75 :: st) (mh B p a z) Q := by
  refine mz_call (L := 4) (n := 0) (as := []) (r := st) hk hB hrow (by decide) (by decide) ⟨rfl, rfl, rfl, rfl⟩ rfl rfl hcat (Nat.le_of_ble_eq_true rfl) (ticks_ok d hB hT0 hP) ?_
  rintro w ph' ⟨q, b, rfl, ⟨hK, x, rfl⟩, h1, h2⟩
  exact h q b x hK h1 h2
end ML

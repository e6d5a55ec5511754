/-! ===== by program (wip/gen/gen94.py): the other side's object is made ===== -/
theorem kc117_eq : codeOf 117 = kc117 := rfl
theorem hk_117 : 117 < 186 := by decide
theorem rw_117_0 : (codeOf 117)[0]? = some (0, .aload 0, 0, 0, 3, 1, []) := by rw [kc117_eq]; rfl
theorem rw_117_1 : (codeOf 117)[1]? = some (1, .nop, 0, 0, 0, 3, []) := by rw [kc117_eq]; rfl
theorem rw_117_2 : (codeOf 117)[2]? = some (4, .aload 0, 0, 0, 3, 1, []) := by rw [kc117_eq]; rfl
theorem rw_117_3 : (codeOf 117)[3]? = some (5, .iconst 14000, 2147497648, 0, 0, 3, []) := by rw [kc117_eq]; rfl
theorem rw_117_4 : (codeOf 117)[4]? = some (8, .newarray .int, 0, 0, 0, 2, []) := by rw [kc117_eq]; rfl
theorem rw_117_5 : (codeOf 117)[5]? = some (10, .putfield 7, 9, 0, 3, 3, []) := by rw [kc117_eq]; rfl
theorem rw_117_6 : (codeOf 117)[6]? = some (13, .aload 0, 0, 0, 3, 1, []) := by rw [kc117_eq]; rfl
theorem rw_117_7 : (codeOf 117)[7]? = some (14, .iconst 60, 2147483708, 0, 0, 2, []) := by rw [kc117_eq]; rfl
theorem rw_117_8 : (codeOf 117)[8]? = some (16, .newarray .int, 0, 0, 0, 2, []) := by rw [kc117_eq]; rfl
theorem rw_117_9 : (codeOf 117)[9]? = some (18, .putfield 13, 9, 2, 3, 3, []) := by rw [kc117_eq]; rfl
theorem rw_117_10 : (codeOf 117)[10]? = some (21, .aload 0, 0, 0, 3, 1, []) := by rw [kc117_eq]; rfl
theorem rw_117_11 : (codeOf 117)[11]? = some (22, .iconst (-9), 2147483639, 0, 0, 2, []) := by rw [kc117_eq]; rfl
theorem rw_117_12 : (codeOf 117)[12]? = some (24, .putfield 16, 9, 4, 0, 3, []) := by rw [kc117_eq]; rfl
theorem rw_117_13 : (codeOf 117)[13]? = some (27, .aload 0, 0, 0, 3, 1, []) := by rw [kc117_eq]; rfl
theorem rw_117_14 : (codeOf 117)[14]? = some (28, .iconst 10, 2147483658, 0, 0, 2, []) := by rw [kc117_eq]; rfl
theorem rw_117_15 : (codeOf 117)[15]? = some (30, .newarray .int, 0, 0, 0, 2, []) := by rw [kc117_eq]; rfl
theorem rw_117_16 : (codeOf 117)[16]? = some (32, .putfield 20, 9, 5, 3, 3, []) := by rw [kc117_eq]; rfl
theorem rw_117_17 : (codeOf 117)[17]? = some (35, .aload 0, 0, 0, 3, 1, []) := by rw [kc117_eq]; rfl
theorem rw_117_18 : (codeOf 117)[18]? = some (36, .iconst 10, 2147483658, 0, 0, 2, []) := by rw [kc117_eq]; rfl
theorem rw_117_19 : (codeOf 117)[19]? = some (38, .newarray .int, 0, 0, 0, 2, []) := by rw [kc117_eq]; rfl
theorem rw_117_20 : (codeOf 117)[20]? = some (40, .putfield 23, 9, 6, 3, 3, []) := by rw [kc117_eq]; rfl
theorem rw_117_21 : (codeOf 117)[21]? = some (43, .aload 0, 0, 0, 3, 1, []) := by rw [kc117_eq]; rfl
theorem rw_117_22 : (codeOf 117)[22]? = some (44, .iconst 5, 2147483653, 0, 0, 1, []) := by rw [kc117_eq]; rfl
theorem rw_117_23 : (codeOf 117)[23]? = some (45, .newarray .int, 0, 0, 0, 2, []) := by rw [kc117_eq]; rfl
theorem rw_117_24 : (codeOf 117)[24]? = some (47, .putfield 26, 9, 8, 3, 3, []) := by rw [kc117_eq]; rfl
theorem rw_117_25 : (codeOf 117)[25]? = some (50, .aload 0, 0, 0, 3, 1, []) := by rw [kc117_eq]; rfl
theorem rw_117_26 : (codeOf 117)[26]? = some (51, .iconst 10, 2147483658, 0, 0, 2, []) := by rw [kc117_eq]; rfl
theorem rw_117_27 : (codeOf 117)[27]? = some (53, .newarray .int, 0, 0, 0, 2, []) := by rw [kc117_eq]; rfl
theorem rw_117_28 : (codeOf 117)[28]? = some (55, .putfield 29, 9, 9, 3, 3, []) := by rw [kc117_eq]; rfl
theorem rw_117_29 : (codeOf 117)[29]? = some (58, .aload 0, 0, 0, 3, 1, []) := by rw [kc117_eq]; rfl
theorem rw_117_30 : (codeOf 117)[30]? = some (59, .iconst 10, 2147483658, 0, 0, 2, []) := by rw [kc117_eq]; rfl
theorem rw_117_31 : (codeOf 117)[31]? = some (61, .newarray .int, 0, 0, 0, 2, []) := by rw [kc117_eq]; rfl
theorem rw_117_32 : (codeOf 117)[32]? = some (63, .putfield 32, 9, 10, 3, 3, []) := by rw [kc117_eq]; rfl
theorem rw_117_33 : (codeOf 117)[33]? = some (66, .aload 0, 0, 0, 3, 1, []) := by rw [kc117_eq]; rfl
theorem rw_117_34 : (codeOf 117)[34]? = some (67, .iconst 10, 2147483658, 0, 0, 2, []) := by rw [kc117_eq]; rfl
theorem rw_117_35 : (codeOf 117)[35]? = some (69, .newarray .int, 0, 0, 0, 2, []) := by rw [kc117_eq]; rfl
theorem rw_117_36 : (codeOf 117)[36]? = some (71, .putfield 35, 9, 11, 3, 3, []) := by rw [kc117_eq]; rfl
theorem rw_117_37 : (codeOf 117)[37]? = some (74, .aload 0, 0, 0, 3, 1, []) := by rw [kc117_eq]; rfl
theorem rw_117_38 : (codeOf 117)[38]? = some (75, .iconst 10, 2147483658, 0, 0, 2, []) := by rw [kc117_eq]; rfl
theorem rw_117_39 : (codeOf 117)[39]? = some (77, .newarray .int, 0, 0, 0, 2, []) := by rw [kc117_eq]; rfl
theorem rw_117_40 : (codeOf 117)[40]? = some (79, .putfield 38, 9, 12, 3, 3, []) := by rw [kc117_eq]; rfl
theorem rw_117_41 : (codeOf 117)[41]? = some (82, .aload 0, 0, 0, 3, 1, []) := by rw [kc117_eq]; rfl
theorem rw_117_42 : (codeOf 117)[42]? = some (83, .iconst 10, 2147483658, 0, 0, 2, []) := by rw [kc117_eq]; rfl
theorem rw_117_43 : (codeOf 117)[43]? = some (85, .newarray .int, 0, 0, 0, 2, []) := by rw [kc117_eq]; rfl
theorem rw_117_44 : (codeOf 117)[44]? = some (87, .putfield 41, 9, 13, 3, 3, []) := by rw [kc117_eq]; rfl
theorem rw_117_45 : (codeOf 117)[45]? = some (90, .aload 0, 0, 0, 3, 1, []) := by rw [kc117_eq]; rfl
theorem rw_117_46 : (codeOf 117)[46]? = some (91, .iconst 10, 2147483658, 0, 0, 2, []) := by rw [kc117_eq]; rfl
theorem rw_117_47 : (codeOf 117)[47]? = some (93, .newarray .int, 0, 0, 0, 2, []) := by rw [kc117_eq]; rfl
theorem rw_117_48 : (codeOf 117)[48]? = some (95, .putfield 44, 9, 14, 3, 3, []) := by rw [kc117_eq]; rfl
theorem rw_117_49 : (codeOf 117)[49]? = some (98, .aload 0, 0, 0, 3, 1, []) := by rw [kc117_eq]; rfl
theorem rw_117_50 : (codeOf 117)[50]? = some (99, .getfield 7, 9, 0, 3, 3, []) := by rw [kc117_eq]; rfl
theorem rw_117_51 : (codeOf 117)[51]? = some (102, .iconst 210, 2147483858, 0, 0, 3, []) := by rw [kc117_eq]; rfl
theorem rw_117_52 : (codeOf 117)[52]? = some (105, .iconst 40, 2147483688, 0, 0, 2, []) := by rw [kc117_eq]; rfl
theorem rw_117_53 : (codeOf 117)[53]? = some (107, .iastore, 0, 0, 0, 1, []) := by rw [kc117_eq]; rfl
theorem rw_117_54 : (codeOf 117)[54]? = some (108, .aload 0, 0, 0, 3, 1, []) := by rw [kc117_eq]; rfl
theorem rw_117_55 : (codeOf 117)[55]? = some (109, .getfield 7, 9, 0, 3, 3, []) := by rw [kc117_eq]; rfl
theorem rw_117_56 : (codeOf 117)[56]? = some (112, .iconst 211, 2147483859, 0, 0, 3, []) := by rw [kc117_eq]; rfl
theorem rw_117_57 : (codeOf 117)[57]? = some (115, .iconst 20, 2147483668, 0, 0, 2, []) := by rw [kc117_eq]; rfl
theorem rw_117_58 : (codeOf 117)[58]? = some (117, .iastore, 0, 0, 0, 1, []) := by rw [kc117_eq]; rfl
theorem rw_117_59 : (codeOf 117)[59]? = some (118, .aload 0, 0, 0, 3, 1, []) := by rw [kc117_eq]; rfl
theorem rw_117_60 : (codeOf 117)[60]? = some (119, .getfield 7, 9, 0, 3, 3, []) := by rw [kc117_eq]; rfl
theorem rw_117_61 : (codeOf 117)[61]? = some (122, .iconst 212, 2147483860, 0, 0, 3, []) := by rw [kc117_eq]; rfl
theorem rw_117_62 : (codeOf 117)[62]? = some (125, .iconst 2, 2147483650, 0, 0, 1, []) := by rw [kc117_eq]; rfl
theorem rw_117_63 : (codeOf 117)[63]? = some (126, .iastore, 0, 0, 0, 1, []) := by rw [kc117_eq]; rfl
theorem rw_117_64 : (codeOf 117)[64]? = some (127, .aload 0, 0, 0, 3, 1, []) := by rw [kc117_eq]; rfl
theorem rw_117_65 : (codeOf 117)[65]? = some (128, .getfield 7, 9, 0, 3, 3, []) := by rw [kc117_eq]; rfl
theorem rw_117_66 : (codeOf 117)[66]? = some (131, .iconst 213, 2147483861, 0, 0, 3, []) := by rw [kc117_eq]; rfl
theorem rw_117_67 : (codeOf 117)[67]? = some (134, .iconst 5, 2147483653, 0, 0, 1, []) := by rw [kc117_eq]; rfl
theorem rw_117_68 : (codeOf 117)[68]? = some (135, .iastore, 0, 0, 0, 1, []) := by rw [kc117_eq]; rfl
theorem rw_117_69 : (codeOf 117)[69]? = some (136, .aload 0, 0, 0, 3, 1, []) := by rw [kc117_eq]; rfl
theorem rw_117_70 : (codeOf 117)[70]? = some (137, .iconst 1, 2147483649, 0, 0, 1, []) := by rw [kc117_eq]; rfl
theorem rw_117_71 : (codeOf 117)[71]? = some (138, .invokevirtual 47, 118, 0, 0, 3, []) := by rw [kc117_eq]; rfl
theorem rw_117_72 : (codeOf 117)[72]? = some (141, .return_, 0, 0, 0, 1, []) := by rw [kc117_eq]; rfl
def z00 : Nat → Int32 := fun i => if i = 2 then iv (-9) else 0
def p00 : Nat → Int32 := upd (upd (upd (upd (fun _ => 0) 210 (iv 40)) 211 (iv 20)) 212 (iv 2)) 213 (iv 5)
theorem li00 : LiOK p00 := by
  unfold p00
  refine ⟨⟨40, ?_, by omega, by omega⟩, ⟨20, ?_, by omega, by omega⟩, ⟨2, ?_, by omega, by omega⟩, ⟨5, ?_, by omega, by omega⟩, ⟨0, ?_, by omega, by omega⟩, ⟨0, ?_, by omega, by omega⟩⟩
  · exact (uq_ne (by decide)).trans ((uq_ne (by decide)).trans ((uq_ne (by decide)).trans uq_eq))
  · exact (uq_ne (by decide)).trans ((uq_ne (by decide)).trans uq_eq)
  · exact (uq_ne (by decide)).trans uq_eq
  · exact uq_eq
  · exact (uq_ne (by decide)).trans ((uq_ne (by decide)).trans ((uq_ne (by decide)).trans (uq_ne (by decide))))
  · exact (uq_ne (by decide)).trans ((uq_ne (by decide)).trans ((uq_ne (by decide)).trans (uq_ne (by decide))))
theorem szG {h : PH} {v ci : Nat} {fs fs' : List Value} {M : PH} (hv : h[v]? = some (.inr (.inr (ci, fs)))) : szH (G h v ci fs' M) = szH h + szH M := by
  unfold G
  rw [szH_app]
  congr 1
  exact szH_set hv rfl
set_option maxHeartbeats 1000000 in
theorem mod_new (d : Nat) {h : PH} (hl : h.length = 76) (hv : h[75]? = some (.inr (.inr (9, [.null, .int 0, .null, .int 0, .int 0, .null, .null, .int 0, .null, .null, .null, .null, .null, .null, .null])))) : ZC (d + 2) 117 [.ref 75] h (fun w ph' => w = none ∧ ∃ B q, (∀ i, i < 75 → B[i]? = h[i]?) ∧ B.length = 87 ∧ szH (mh B q (fun _ _ => 0) z00) = szH h + 14145 ∧ ph' = mh B q (fun _ _ => 0) z00 ∧ PageOK 0 q) := by
  refine zc_G hv ?_
  refine ZC.of (lv := [some (.ref 75)]) hk_117 (fun i v hv => ?_) ?_
  · match i, hv with
    | 0, hv => cases hv; rfl
    | i + 1, hv => simp at hv
  have hvl := (List.getElem?_eq_some_iff.mp hv).1
  refine zr_aload hk_117 rw_117_0 rfl ?_
  refine zr_oi hk_117 rw_117_1 (by omega) (by decide) ?_
  refine zr_aload hk_117 rw_117_2 rfl ?_
  refine zi_const hk_117 rw_117_3 (c := 14000) rfl ?_
  refine g_newa (n := 0) (N := [A0 14000]) hk_117 rw_117_4 14000 rfl (by decide) rfl rfl ?_
  refine g_put (fs' := [.ref (h.length + 0), .int 0, .null, .int 0, .int 0, .null, .null, .int 0, .null, .null, .null, .null, .null, .null, .null]) hk_117 rw_117_5 hvl (by decide) (Nat.le_of_ble_eq_true rfl) rfl rfl (fit_a _ _) rfl ?_
  refine zr_aload hk_117 rw_117_6 rfl ?_
  refine zi_const hk_117 rw_117_7 (c := 60) rfl ?_
  refine g_newa (n := 1) (N := [A0 14000, A0 60]) hk_117 rw_117_8 60 rfl (by decide) rfl rfl ?_
  refine g_put (fs' := [.ref (h.length + 0), .int 0, .ref (h.length + 1), .int 0, .int 0, .null, .null, .int 0, .null, .null, .null, .null, .null, .null, .null]) hk_117 rw_117_9 hvl (by decide) (Nat.le_of_ble_eq_true rfl) rfl rfl (fit_a _ _) rfl ?_
  refine zr_aload hk_117 rw_117_10 rfl ?_
  refine zi_const hk_117 rw_117_11 (c := -9) rfl ?_
  refine g_put (fs' := [.ref (h.length + 0), .int 0, .ref (h.length + 1), .int 0, .int (iv (-9)), .null, .null, .int 0, .null, .null, .null, .null, .null, .null, .null]) hk_117 rw_117_12 hvl (by decide) (Nat.le_of_ble_eq_true rfl) rfl rfl (fit_i _) rfl ?_
  refine zr_aload hk_117 rw_117_13 rfl ?_
  refine zi_const hk_117 rw_117_14 (c := 10) rfl ?_
  refine g_newa (n := 2) (N := [A0 14000, A0 60, A0 10]) hk_117 rw_117_15 10 rfl (by decide) rfl rfl ?_
  refine g_put (fs' := [.ref (h.length + 0), .int 0, .ref (h.length + 1), .int 0, .int (iv (-9)), .ref (h.length + 2), .null, .int 0, .null, .null, .null, .null, .null, .null, .null]) hk_117 rw_117_16 hvl (by decide) (Nat.le_of_ble_eq_true rfl) rfl rfl (fit_a _ _) rfl ?_
  refine zr_aload hk_117 rw_117_17 rfl ?_
  refine zi_const hk_117 rw_117_18 (c := 10) rfl ?_
  refine g_newa (n := 3) (N := [A0 14000, A0 60, A0 10, A0 10]) hk_117 rw_117_19 10 rfl (by decide) rfl rfl ?_
  refine g_put (fs' := [.ref (h.length + 0), .int 0, .ref (h.length + 1), .int 0, .int (iv (-9)), .ref (h.length + 2), .ref (h.length + 3), .int 0, .null, .null, .null, .null, .null, .null, .null]) hk_117 rw_117_20 hvl (by decide) (Nat.le_of_ble_eq_true rfl) rfl rfl (fit_a _ _) rfl ?_
  refine zr_aload hk_117 rw_117_21 rfl ?_
  refine zi_const hk_117 rw_117_22 (c := 5) rfl ?_
  refine g_newa (n := 4) (N := [A0 14000, A0 60, A0 10, A0 10, A0 5]) hk_117 rw_117_23 5 rfl (by decide) rfl rfl ?_
  refine g_put (fs' := [.ref (h.length + 0), .int 0, .ref (h.length + 1), .int 0, .int (iv (-9)), .ref (h.length + 2), .ref (h.length + 3), .int 0, .ref (h.length + 4), .null, .null, .null, .null, .null, .null]) hk_117 rw_117_24 hvl (by decide) (Nat.le_of_ble_eq_true rfl) rfl rfl (fit_a _ _) rfl ?_
  refine zr_aload hk_117 rw_117_25 rfl ?_
  refine zi_const hk_117 rw_117_26 (c := 10) rfl ?_
  refine g_newa (n := 5) (N := [A0 14000, A0 60, A0 10, A0 10, A0 5, A0 10]) hk_117 rw_117_27 10 rfl (by decide) rfl rfl ?_
  refine g_put (fs' := [.ref (h.length + 0), .int 0, .ref (h.length + 1), .int 0, .int (iv (-9)), .ref (h.length + 2), .ref (h.length + 3), .int 0, .ref (h.length + 4), .ref (h.length + 5), .null, .null, .null, .null, .null]) hk_117 rw_117_28 hvl (by decide) (Nat.le_of_ble_eq_true rfl) rfl rfl (fit_a _ _) rfl ?_
  refine zr_aload hk_117 rw_117_29 rfl ?_
  refine zi_const hk_117 rw_117_30 (c := 10) rfl ?_
  refine g_newa (n := 6) (N := [A0 14000, A0 60, A0 10, A0 10, A0 5, A0 10, A0 10]) hk_117 rw_117_31 10 rfl (by decide) rfl rfl ?_
  refine g_put (fs' := [.ref (h.length + 0), .int 0, .ref (h.length + 1), .int 0, .int (iv (-9)), .ref (h.length + 2), .ref (h.length + 3), .int 0, .ref (h.length + 4), .ref (h.length + 5), .ref (h.length + 6), .null, .null, .null, .null]) hk_117 rw_117_32 hvl (by decide) (Nat.le_of_ble_eq_true rfl) rfl rfl (fit_a _ _) rfl ?_
  refine zr_aload hk_117 rw_117_33 rfl ?_
  refine zi_const hk_117 rw_117_34 (c := 10) rfl ?_
  refine g_newa (n := 7) (N := [A0 14000, A0 60, A0 10, A0 10, A0 5, A0 10, A0 10, A0 10]) hk_117 rw_117_35 10 rfl (by decide) rfl rfl ?_
  refine g_put (fs' := [.ref (h.length + 0), .int 0, .ref (h.length + 1), .int 0, .int (iv (-9)), .ref (h.length + 2), .ref (h.length + 3), .int 0, .ref (h.length + 4), .ref (h.length + 5), .ref (h.length + 6), .ref (h.length + 7), .null, .null, .null]) hk_117 rw_117_36 hvl (by decide) (Nat.le_of_ble_eq_true rfl) rfl rfl (fit_a _ _) rfl ?_
  refine zr_aload hk_117 rw_117_37 rfl ?_
  refine zi_const hk_117 rw_117_38 (c := 10) rfl ?_
  refine g_newa (n := 8) (N := [A0 14000, A0 60, A0 10, A0 10, A0 5, A0 10, A0 10, A0 10, A0 10]) hk_117 rw_117_39 10 rfl (by decide) rfl rfl ?_
  refine g_put (fs' := [.ref (h.length + 0), .int 0, .ref (h.length + 1), .int 0, .int (iv (-9)), .ref (h.length + 2), .ref (h.length + 3), .int 0, .ref (h.length + 4), .ref (h.length + 5), .ref (h.length + 6), .ref (h.length + 7), .ref (h.length + 8), .null, .null]) hk_117 rw_117_40 hvl (by decide) (Nat.le_of_ble_eq_true rfl) rfl rfl (fit_a _ _) rfl ?_
  refine zr_aload hk_117 rw_117_41 rfl ?_
  refine zi_const hk_117 rw_117_42 (c := 10) rfl ?_
  refine g_newa (n := 9) (N := [A0 14000, A0 60, A0 10, A0 10, A0 5, A0 10, A0 10, A0 10, A0 10, A0 10]) hk_117 rw_117_43 10 rfl (by decide) rfl rfl ?_
  refine g_put (fs' := [.ref (h.length + 0), .int 0, .ref (h.length + 1), .int 0, .int (iv (-9)), .ref (h.length + 2), .ref (h.length + 3), .int 0, .ref (h.length + 4), .ref (h.length + 5), .ref (h.length + 6), .ref (h.length + 7), .ref (h.length + 8), .ref (h.length + 9), .null]) hk_117 rw_117_44 hvl (by decide) (Nat.le_of_ble_eq_true rfl) rfl rfl (fit_a _ _) rfl ?_
  refine zr_aload hk_117 rw_117_45 rfl ?_
  refine zi_const hk_117 rw_117_46 (c := 10) rfl ?_
  refine g_newa (n := 10) (N := [A0 14000, A0 60, A0 10, A0 10, A0 5, A0 10, A0 10, A0 10, A0 10, A0 10, A0 10]) hk_117 rw_117_47 10 rfl (by decide) rfl rfl ?_
  refine g_put (fs' := [.ref (h.length + 0), .int 0, .ref (h.length + 1), .int 0, .int (iv (-9)), .ref (h.length + 2), .ref (h.length + 3), .int 0, .ref (h.length + 4), .ref (h.length + 5), .ref (h.length + 6), .ref (h.length + 7), .ref (h.length + 8), .ref (h.length + 9), .ref (h.length + 10)]) hk_117 rw_117_48 hvl (by decide) (Nat.le_of_ble_eq_true rfl) rfl rfl (fit_a _ _) rfl ?_
  obtain ⟨B, hB0, hB⟩ : ∃ B, G h 75 9 [.ref (h.length + 0), .int 0, .ref (h.length + 1), .int 0, .int (iv (-9)), .ref (h.length + 2), .ref (h.length + 3), .int 0, .ref (h.length + 4), .ref (h.length + 5), .ref (h.length + 6), .ref (h.length + 7), .ref (h.length + 8), .ref (h.length + 9), .ref (h.length + 10)] [A0 14000, A0 60, A0 10, A0 10, A0 5, A0 10, A0 10, A0 10, A0 10, A0 10, A0 10] = B ∧ 87 ≤ B.length := ⟨_, rfl, by rw [G_len, hl]; decide⟩
  have hM : MH B (fun _ => 0) (fun _ _ => 0) z00 := by
    intro i hi
    rw [← hB0]
    by_cases i0 : i = 0
    · subst i0
      rw [show 75 + 0 = 75 from rfl, G_v hvl, hl]
      rfl
    · obtain ⟨k, rfl⟩ : ∃ k, i = k + 1 := ⟨i - 1, by omega⟩
      rw [show 75 + (k + 1) = h.length + k by rw [hl]; omega, G_M]
      have : k = 0 ∨ k = 1 ∨ k = 2 ∨ k = 3 ∨ k = 4 ∨ k = 5 ∨ k = 6 ∨ k = 7 ∨ k = 8 ∨ k = 9 ∨ k = 10 := by omega
      rcases this with rfl | rfl | rfl | rfl | rfl | rfl | rfl | rfl | rfl | rfl | rfl <;> rfl
  have hlo : ∀ i, i < 75 → B[i]? = h[i]? := fun i hi => by rw [← hB0, G_lo (by omega) (by omega)]
  have hBl : B.length = 87 := by rw [← hB0, G_len, hl]; rfl
  have hBs : szH B = szH h + 14145 := by
    rw [← hB0, szG hv]
    have : szH [A0 14000, A0 60, A0 10, A0 10, A0 5, A0 10, A0 10, A0 10, A0 10, A0 10, A0 10] = 14145 := by
      unfold szH
      simp only [List.map_cons, List.map_nil, List.sum_cons, List.sum_nil, sz_a]
      omega
    rw [this]
  rw [hB0, hM.eq hB]
  refine zr_aload hk_117 rw_117_49 rfl ?_
  refine mz_getf hk_117 hB rw_117_50 rfl ?_
  refine zi_const hk_117 rw_117_51 (c := 210) rfl ?_
  refine zi_const hk_117 rw_117_52 (c := 40) rfl ?_
  refine mz_pst hk_117 hB rw_117_53 (210) (by omega) (by omega) ?_
  refine zr_aload hk_117 rw_117_54 rfl ?_
  refine mz_getf hk_117 hB rw_117_55 rfl ?_
  refine zi_const hk_117 rw_117_56 (c := 211) rfl ?_
  refine zi_const hk_117 rw_117_57 (c := 20) rfl ?_
  refine mz_pst hk_117 hB rw_117_58 (211) (by omega) (by omega) ?_
  refine zr_aload hk_117 rw_117_59 rfl ?_
  refine mz_getf hk_117 hB rw_117_60 rfl ?_
  refine zi_const hk_117 rw_117_61 (c := 212) rfl ?_
  refine zi_const hk_117 rw_117_62 (c := 2) rfl ?_
  refine mz_pst hk_117 hB rw_117_63 (212) (by omega) (by omega) ?_
  refine zr_aload hk_117 rw_117_64 rfl ?_
  refine mz_getf hk_117 hB rw_117_65 rfl ?_
  refine zi_const hk_117 rw_117_66 (c := 213) rfl ?_
  refine zi_const hk_117 rw_117_67 (c := 5) rfl ?_
  refine mz_pst hk_117 hB rw_117_68 (213) (by omega) (by omega) ?_
  refine zr_aload hk_117 rw_117_69 rfl ?_
  refine zi_const hk_117 rw_117_70 (c := 1) rfl ?_
  refine c_begin hk_117 hB rw_117_71 (Nat.le_of_ble_eq_true rfl) (fun q hG => ?_)
  refine zr_return (a := 0) hk_117 rw_117_72 ?_
  exact ⟨rfl, B, q, hlo, hBl, mh_sz.trans ((congrArg szH (hM.eq hB)).symm.trans hBs), rfl, hG.ok li00 (by omega) (by omega)⟩

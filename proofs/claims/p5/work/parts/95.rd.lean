/-! ===== by program (wip/gen/gen9r.py): the class's load, exact ===== -/
theorem kc24_eq : codeOf 24 = kc24 := rfl
theorem hk_24 : 24 < 186 := by decide
theorem rw_24_0 : (codeOf 24)[0]? = some (0, .aload 0, 0, 0, 3, 1, []) := by rw [kc24_eq]; rfl
theorem rw_24_1 : (codeOf 24)[1]? = some (1, .getfield 12, 0, 0, 3, 3, []) := by rw [kc24_eq]; rfl
theorem rw_24_2 : (codeOf 24)[2]? = some (4, .invokevirtual 38, 25, 0, 0, 3, []) := by rw [kc24_eq]; rfl
theorem rw_24_3 : (codeOf 24)[3]? = some (7, .aload 0, 0, 0, 3, 1, []) := by rw [kc24_eq]; rfl
theorem rw_24_4 : (codeOf 24)[4]? = some (8, .getfield 12, 0, 0, 3, 3, []) := by rw [kc24_eq]; rfl
theorem rw_24_5 : (codeOf 24)[5]? = some (11, .getfield 41, 1, 5, 0, 3, []) := by rw [kc24_eq]; rfl
theorem rw_24_6 : (codeOf 24)[6]? = some (14, .iconst (-9), 2147483639, 0, 0, 2, []) := by rw [kc24_eq]; rfl
theorem rw_24_7 : (codeOf 24)[7]? = some (16, .if_icmp .eq 14, 30, 14, 0, 3, []) := by rw [kc24_eq]; rfl
theorem rw_24_8 : (codeOf 24)[8]? = some (19, .iconst (-10), 2147483638, 0, 0, 2, []) := by rw [kc24_eq]; rfl
theorem rw_24_9 : (codeOf 24)[9]? = some (21, .aload 0, 0, 0, 3, 1, []) := by rw [kc24_eq]; rfl
theorem rw_24_10 : (codeOf 24)[10]? = some (22, .getfield 12, 0, 0, 3, 3, []) := by rw [kc24_eq]; rfl
theorem rw_24_11 : (codeOf 24)[11]? = some (25, .getfield 44, 1, 6, 0, 3, []) := by rw [kc24_eq]; rfl
theorem rw_24_12 : (codeOf 24)[12]? = some (28, .isub, 0, 0, 0, 1, []) := by rw [kc24_eq]; rfl
theorem rw_24_13 : (codeOf 24)[13]? = some (29, .ireturn, 1, 0, 0, 1, []) := by rw [kc24_eq]; rfl
theorem rw_24_14 : (codeOf 24)[14]? = some (30, .aload 0, 0, 0, 3, 1, []) := by rw [kc24_eq]; rfl
theorem rw_24_15 : (codeOf 24)[15]? = some (31, .getfield 19, 0, 1, 3, 3, []) := by rw [kc24_eq]; rfl
theorem rw_24_16 : (codeOf 24)[16]? = some (34, .aload 0, 0, 0, 3, 1, []) := by rw [kc24_eq]; rfl
theorem rw_24_17 : (codeOf 24)[17]? = some (35, .getfield 26, 0, 2, 3, 3, []) := by rw [kc24_eq]; rfl
theorem rw_24_18 : (codeOf 24)[18]? = some (38, .invokevirtual 47, 30, 0, 0, 3, []) := by rw [kc24_eq]; rfl
theorem rw_24_19 : (codeOf 24)[19]? = some (41, .aload 0, 0, 0, 3, 1, []) := by rw [kc24_eq]; rfl
theorem rw_24_20 : (codeOf 24)[20]? = some (42, .getfield 26, 0, 2, 3, 3, []) := by rw [kc24_eq]; rfl
theorem rw_24_21 : (codeOf 24)[21]? = some (45, .aload 0, 0, 0, 3, 1, []) := by rw [kc24_eq]; rfl
theorem rw_24_22 : (codeOf 24)[22]? = some (46, .getfield 12, 0, 0, 3, 3, []) := by rw [kc24_eq]; rfl
theorem rw_24_23 : (codeOf 24)[23]? = some (49, .getfield 51, 1, 2, 3, 3, []) := by rw [kc24_eq]; rfl
theorem rw_24_24 : (codeOf 24)[24]? = some (52, .iconst 0, 2147483648, 0, 0, 1, []) := by rw [kc24_eq]; rfl
theorem rw_24_25 : (codeOf 24)[25]? = some (53, .iaload, 0, 0, 0, 1, []) := by rw [kc24_eq]; rfl
theorem rw_24_26 : (codeOf 24)[26]? = some (54, .invokevirtual 55, 11, 0, 0, 3, []) := by rw [kc24_eq]; rfl
theorem rw_24_27 : (codeOf 24)[27]? = some (57, .iconst 1, 2147483649, 0, 0, 1, []) := by rw [kc24_eq]; rfl
theorem rw_24_28 : (codeOf 24)[28]? = some (58, .istore 1, 1, 0, 0, 1, []) := by rw [kc24_eq]; rfl
theorem rw_24_29 : (codeOf 24)[29]? = some (59, .monitorexit, 192, 0, 0, 0, []) := by rw [kc24_eq]; rfl
theorem rw_24_30 : (codeOf 24)[30]? = some (59, .iload 1, 1, 0, 0, 1, []) := by rw [kc24_eq]; rfl
theorem rw_24_31 : (codeOf 24)[31]? = some (60, .aload 0, 0, 0, 3, 1, []) := by rw [kc24_eq]; rfl
theorem rw_24_32 : (codeOf 24)[32]? = some (61, .getfield 12, 0, 0, 3, 3, []) := by rw [kc24_eq]; rfl
theorem rw_24_33 : (codeOf 24)[33]? = some (64, .getfield 59, 1, 4, 0, 3, []) := by rw [kc24_eq]; rfl
theorem rw_24_34 : (codeOf 24)[34]? = some (67, .if_icmp .ge 41, 108, 54, 0, 3, []) := by rw [kc24_eq]; rfl
theorem rw_24_35 : (codeOf 24)[35]? = some (70, .iload 1, 1, 0, 0, 1, []) := by rw [kc24_eq]; rfl
theorem rw_24_36 : (codeOf 24)[36]? = some (71, .iconst 10, 2147483658, 0, 0, 2, []) := by rw [kc24_eq]; rfl
theorem rw_24_37 : (codeOf 24)[37]? = some (73, .if_icmp .ge 35, 108, 54, 0, 3, []) := by rw [kc24_eq]; rfl
theorem rw_24_38 : (codeOf 24)[38]? = some (76, .aload 0, 0, 0, 3, 1, []) := by rw [kc24_eq]; rfl
theorem rw_24_39 : (codeOf 24)[39]? = some (77, .getfield 26, 0, 2, 3, 3, []) := by rw [kc24_eq]; rfl
theorem rw_24_40 : (codeOf 24)[40]? = some (80, .aload 0, 0, 0, 3, 1, []) := by rw [kc24_eq]; rfl
theorem rw_24_41 : (codeOf 24)[41]? = some (81, .getfield 12, 0, 0, 3, 3, []) := by rw [kc24_eq]; rfl
theorem rw_24_42 : (codeOf 24)[42]? = some (84, .getfield 62, 1, 3, 3, 3, []) := by rw [kc24_eq]; rfl
theorem rw_24_43 : (codeOf 24)[43]? = some (87, .iload 1, 1, 0, 0, 1, []) := by rw [kc24_eq]; rfl
theorem rw_24_44 : (codeOf 24)[44]? = some (88, .iaload, 0, 0, 0, 1, []) := by rw [kc24_eq]; rfl
theorem rw_24_45 : (codeOf 24)[45]? = some (89, .aload 0, 0, 0, 3, 1, []) := by rw [kc24_eq]; rfl
theorem rw_24_46 : (codeOf 24)[46]? = some (90, .getfield 12, 0, 0, 3, 3, []) := by rw [kc24_eq]; rfl
theorem rw_24_47 : (codeOf 24)[47]? = some (93, .getfield 51, 1, 2, 3, 3, []) := by rw [kc24_eq]; rfl
theorem rw_24_48 : (codeOf 24)[48]? = some (96, .iload 1, 1, 0, 0, 1, []) := by rw [kc24_eq]; rfl
theorem rw_24_49 : (codeOf 24)[49]? = some (97, .iaload, 0, 0, 0, 1, []) := by rw [kc24_eq]; rfl
theorem rw_24_50 : (codeOf 24)[50]? = some (98, .invokevirtual 65, 39, 0, 0, 3, []) := by rw [kc24_eq]; rfl
theorem rw_24_51 : (codeOf 24)[51]? = some (101, .pop, 0, 0, 0, 1, []) := by rw [kc24_eq]; rfl
theorem rw_24_52 : (codeOf 24)[52]? = some (102, .iinc 1 1, 1, 1, 0, 3, []) := by rw [kc24_eq]; rfl
theorem rw_24_53 : (codeOf 24)[53]? = some (105, .goto (-46), 59, 29, 0, 3, []) := by rw [kc24_eq]; rfl
theorem rw_24_54 : (codeOf 24)[54]? = some (108, .aload 0, 0, 0, 3, 1, []) := by rw [kc24_eq]; rfl
theorem rw_24_55 : (codeOf 24)[55]? = some (109, .getfield 26, 0, 2, 3, 3, []) := by rw [kc24_eq]; rfl
theorem rw_24_56 : (codeOf 24)[56]? = some (112, .invokevirtual 69, 16, 0, 0, 3, []) := by rw [kc24_eq]; rfl
theorem rw_24_57 : (codeOf 24)[57]? = some (115, .aload 0, 0, 0, 3, 1, []) := by rw [kc24_eq]; rfl
theorem rw_24_58 : (codeOf 24)[58]? = some (116, .getfield 12, 0, 0, 3, 3, []) := by rw [kc24_eq]; rfl
theorem rw_24_59 : (codeOf 24)[59]? = some (119, .getfield 59, 1, 4, 0, 3, []) := by rw [kc24_eq]; rfl
theorem rw_24_60 : (codeOf 24)[60]? = some (122, .ireturn, 1, 0, 0, 1, []) := by rw [kc24_eq]; rfl
theorem kc25_eq : codeOf 25 = kc25 := rfl
theorem hk_25 : 25 < 186 := by decide
theorem rw_25_0 : (codeOf 25)[0]? = some (0, .aload 0, 0, 0, 3, 1, []) := by rw [kc25_eq]; rfl
theorem rw_25_1 : (codeOf 25)[1]? = some (1, .iconst 0, 2147483648, 0, 0, 1, []) := by rw [kc25_eq]; rfl
theorem rw_25_2 : (codeOf 25)[2]? = some (2, .putfield 31, 1, 4, 0, 3, []) := by rw [kc25_eq]; rfl
theorem rw_25_3 : (codeOf 25)[3]? = some (5, .aload 0, 0, 0, 3, 1, []) := by rw [kc25_eq]; rfl
theorem rw_25_4 : (codeOf 25)[4]? = some (6, .iconst 0, 2147483648, 0, 0, 1, []) := by rw [kc25_eq]; rfl
theorem rw_25_5 : (codeOf 25)[5]? = some (7, .putfield 34, 1, 8, 0, 3, []) := by rw [kc25_eq]; rfl
theorem rw_25_6 : (codeOf 25)[6]? = some (10, .aload 0, 0, 0, 3, 1, []) := by rw [kc25_eq]; rfl
theorem rw_25_7 : (codeOf 25)[7]? = some (11, .iconst 0, 2147483648, 0, 0, 1, []) := by rw [kc25_eq]; rfl
theorem rw_25_8 : (codeOf 25)[8]? = some (12, .putfield 37, 1, 9, 0, 3, []) := by rw [kc25_eq]; rfl
theorem rw_25_9 : (codeOf 25)[9]? = some (15, .aload 0, 0, 0, 3, 1, []) := by rw [kc25_eq]; rfl
theorem rw_25_10 : (codeOf 25)[10]? = some (16, .iconst (-9), 2147483639, 0, 0, 2, []) := by rw [kc25_eq]; rfl
theorem rw_25_11 : (codeOf 25)[11]? = some (18, .putfield 21, 1, 5, 0, 3, []) := by rw [kc25_eq]; rfl
theorem rw_25_12 : (codeOf 25)[12]? = some (21, .iconst 0, 2147483648, 0, 0, 1, []) := by rw [kc25_eq]; rfl
theorem rw_25_13 : (codeOf 25)[13]? = some (22, .istore 1, 1, 0, 0, 1, []) := by rw [kc25_eq]; rfl
theorem rw_25_14 : (codeOf 25)[14]? = some (23, .monitorexit, 200, 0, 0, 0, []) := by rw [kc25_eq]; rfl
theorem rw_25_15 : (codeOf 25)[15]? = some (23, .iload 1, 1, 0, 0, 1, []) := by rw [kc25_eq]; rfl
theorem rw_25_16 : (codeOf 25)[16]? = some (24, .aload 0, 0, 0, 3, 1, []) := by rw [kc25_eq]; rfl
theorem rw_25_17 : (codeOf 25)[17]? = some (25, .getfield 28, 1, 1, 0, 3, []) := by rw [kc25_eq]; rfl
theorem rw_25_18 : (codeOf 25)[18]? = some (28, .if_icmp .ge 38, 66, 37, 0, 3, []) := by rw [kc25_eq]; rfl
theorem rw_25_19 : (codeOf 25)[19]? = some (31, .aload 0, 0, 0, 3, 1, []) := by rw [kc25_eq]; rfl
theorem rw_25_20 : (codeOf 25)[20]? = some (32, .aload 0, 0, 0, 3, 1, []) := by rw [kc25_eq]; rfl
theorem rw_25_21 : (codeOf 25)[21]? = some (33, .aload 0, 0, 0, 3, 1, []) := by rw [kc25_eq]; rfl
theorem rw_25_22 : (codeOf 25)[22]? = some (34, .getfield 9, 1, 0, 3, 3, []) := by rw [kc25_eq]; rfl
theorem rw_25_23 : (codeOf 25)[23]? = some (37, .iload 1, 1, 0, 0, 1, []) := by rw [kc25_eq]; rfl
theorem rw_25_24 : (codeOf 25)[24]? = some (38, .iaload, 0, 0, 0, 1, []) := by rw [kc25_eq]; rfl
theorem rw_25_25 : (codeOf 25)[25]? = some (39, .invokevirtual 40, 26, 0, 0, 3, []) := by rw [kc25_eq]; rfl
theorem rw_25_26 : (codeOf 25)[26]? = some (42, .putfield 21, 1, 5, 0, 3, []) := by rw [kc25_eq]; rfl
theorem rw_25_27 : (codeOf 25)[27]? = some (45, .aload 0, 0, 0, 3, 1, []) := by rw [kc25_eq]; rfl
theorem rw_25_28 : (codeOf 25)[28]? = some (46, .getfield 21, 1, 5, 0, 3, []) := by rw [kc25_eq]; rfl
theorem rw_25_29 : (codeOf 25)[29]? = some (49, .iconst (-9), 2147483639, 0, 0, 2, []) := by rw [kc25_eq]; rfl
theorem rw_25_30 : (codeOf 25)[30]? = some (51, .if_icmp .eq 9, 60, 35, 0, 3, []) := by rw [kc25_eq]; rfl
theorem rw_25_31 : (codeOf 25)[31]? = some (54, .aload 0, 0, 0, 3, 1, []) := by rw [kc25_eq]; rfl
theorem rw_25_32 : (codeOf 25)[32]? = some (55, .iload 1, 1, 0, 0, 1, []) := by rw [kc25_eq]; rfl
theorem rw_25_33 : (codeOf 25)[33]? = some (56, .putfield 44, 1, 6, 0, 3, []) := by rw [kc25_eq]; rfl
theorem rw_25_34 : (codeOf 25)[34]? = some (59, .return_, 0, 0, 0, 1, []) := by rw [kc25_eq]; rfl
theorem rw_25_35 : (codeOf 25)[35]? = some (60, .iinc 1 1, 1, 1, 0, 3, []) := by rw [kc25_eq]; rfl
theorem rw_25_36 : (codeOf 25)[36]? = some (63, .goto (-40), 23, 14, 0, 3, []) := by rw [kc25_eq]; rfl
theorem rw_25_37 : (codeOf 25)[37]? = some (66, .aload 0, 0, 0, 3, 1, []) := by rw [kc25_eq]; rfl
theorem rw_25_38 : (codeOf 25)[38]? = some (67, .getfield 31, 1, 4, 0, 3, []) := by rw [kc25_eq]; rfl
theorem rw_25_39 : (codeOf 25)[39]? = some (70, .ifCond .eq 10, 80, 43, 0, 3, []) := by rw [kc25_eq]; rfl
theorem rw_25_40 : (codeOf 25)[40]? = some (73, .aload 0, 0, 0, 3, 1, []) := by rw [kc25_eq]; rfl
theorem rw_25_41 : (codeOf 25)[41]? = some (74, .getfield 34, 1, 8, 0, 3, []) := by rw [kc25_eq]; rfl
theorem rw_25_42 : (codeOf 25)[42]? = some (77, .ifCond .le 16, 93, 50, 0, 3, []) := by rw [kc25_eq]; rfl
theorem rw_25_43 : (codeOf 25)[43]? = some (80, .aload 0, 0, 0, 3, 1, []) := by rw [kc25_eq]; rfl
theorem rw_25_44 : (codeOf 25)[44]? = some (81, .iconst 1, 2147483649, 0, 0, 1, []) := by rw [kc25_eq]; rfl
theorem rw_25_45 : (codeOf 25)[45]? = some (82, .putfield 21, 1, 5, 0, 3, []) := by rw [kc25_eq]; rfl
theorem rw_25_46 : (codeOf 25)[46]? = some (85, .aload 0, 0, 0, 3, 1, []) := by rw [kc25_eq]; rfl
theorem rw_25_47 : (codeOf 25)[47]? = some (86, .aload 0, 0, 0, 3, 1, []) := by rw [kc25_eq]; rfl
theorem rw_25_48 : (codeOf 25)[48]? = some (87, .getfield 28, 1, 1, 0, 3, []) := by rw [kc25_eq]; rfl
theorem rw_25_49 : (codeOf 25)[49]? = some (90, .putfield 44, 1, 6, 0, 3, []) := by rw [kc25_eq]; rfl
theorem rw_25_50 : (codeOf 25)[50]? = some (93, .return_, 0, 0, 0, 1, []) := by rw [kc25_eq]; rfl
theorem kc26_eq : codeOf 26 = kc26 := rfl
theorem hk_26 : 26 < 186 := by decide
theorem rw_26_0 : (codeOf 26)[0]? = some (0, .iload 1, 1, 0, 0, 1, []) := by rw [kc26_eq]; rfl
theorem rw_26_1 : (codeOf 26)[1]? = some (1, .iconst 32, 2147483680, 0, 0, 2, []) := by rw [kc26_eq]; rfl
theorem rw_26_2 : (codeOf 26)[2]? = some (3, .if_icmp .ne 6, 9, 5, 0, 3, []) := by rw [kc26_eq]; rfl
theorem rw_26_3 : (codeOf 26)[3]? = some (6, .iconst (-9), 2147483639, 0, 0, 2, []) := by rw [kc26_eq]; rfl
theorem rw_26_4 : (codeOf 26)[4]? = some (8, .ireturn, 1, 0, 0, 1, []) := by rw [kc26_eq]; rfl
theorem rw_26_5 : (codeOf 26)[5]? = some (9, .iload 1, 1, 0, 0, 1, []) := by rw [kc26_eq]; rfl
theorem rw_26_6 : (codeOf 26)[6]? = some (10, .iconst 48, 2147483696, 0, 0, 2, []) := by rw [kc26_eq]; rfl
theorem rw_26_7 : (codeOf 26)[7]? = some (12, .if_icmp .lt 18, 30, 17, 0, 3, []) := by rw [kc26_eq]; rfl
theorem rw_26_8 : (codeOf 26)[8]? = some (15, .iload 1, 1, 0, 0, 1, []) := by rw [kc26_eq]; rfl
theorem rw_26_9 : (codeOf 26)[9]? = some (16, .iconst 57, 2147483705, 0, 0, 2, []) := by rw [kc26_eq]; rfl
theorem rw_26_10 : (codeOf 26)[10]? = some (18, .if_icmp .gt 12, 30, 17, 0, 3, []) := by rw [kc26_eq]; rfl
theorem rw_26_11 : (codeOf 26)[11]? = some (21, .aload 0, 0, 0, 3, 1, []) := by rw [kc26_eq]; rfl
theorem rw_26_12 : (codeOf 26)[12]? = some (22, .iload 1, 1, 0, 0, 1, []) := by rw [kc26_eq]; rfl
theorem rw_26_13 : (codeOf 26)[13]? = some (23, .iconst 48, 2147483696, 0, 0, 2, []) := by rw [kc26_eq]; rfl
theorem rw_26_14 : (codeOf 26)[14]? = some (25, .isub, 0, 0, 0, 1, []) := by rw [kc26_eq]; rfl
theorem rw_26_15 : (codeOf 26)[15]? = some (26, .invokevirtual 47, 27, 0, 0, 3, []) := by rw [kc26_eq]; rfl
theorem rw_26_16 : (codeOf 26)[16]? = some (29, .ireturn, 1, 0, 0, 1, []) := by rw [kc26_eq]; rfl
theorem rw_26_17 : (codeOf 26)[17]? = some (30, .iload 1, 1, 0, 0, 1, []) := by rw [kc26_eq]; rfl
theorem rw_26_18 : (codeOf 26)[18]? = some (31, .iconst 40, 2147483688, 0, 0, 2, []) := by rw [kc26_eq]; rfl
theorem rw_26_19 : (codeOf 26)[19]? = some (33, .if_icmp .ne 8, 41, 23, 0, 3, []) := by rw [kc26_eq]; rfl
theorem rw_26_20 : (codeOf 26)[20]? = some (36, .aload 0, 0, 0, 3, 1, []) := by rw [kc26_eq]; rfl
theorem rw_26_21 : (codeOf 26)[21]? = some (37, .invokevirtual 50, 28, 0, 0, 3, []) := by rw [kc26_eq]; rfl
theorem rw_26_22 : (codeOf 26)[22]? = some (40, .ireturn, 1, 0, 0, 1, []) := by rw [kc26_eq]; rfl
theorem rw_26_23 : (codeOf 26)[23]? = some (41, .iload 1, 1, 0, 0, 1, []) := by rw [kc26_eq]; rfl
theorem rw_26_24 : (codeOf 26)[24]? = some (42, .iconst 41, 2147483689, 0, 0, 2, []) := by rw [kc26_eq]; rfl
theorem rw_26_25 : (codeOf 26)[25]? = some (44, .if_icmp .ne 10, 54, 29, 0, 3, []) := by rw [kc26_eq]; rfl
theorem rw_26_26 : (codeOf 26)[26]? = some (47, .aload 0, 0, 0, 3, 1, []) := by rw [kc26_eq]; rfl
theorem rw_26_27 : (codeOf 26)[27]? = some (48, .invokevirtual 54, 29, 0, 0, 3, []) := by rw [kc26_eq]; rfl
theorem rw_26_28 : (codeOf 26)[28]? = some (51, .goto 4, 55, 30, 0, 3, []) := by rw [kc26_eq]; rfl
theorem rw_26_29 : (codeOf 26)[29]? = some (54, .iconst 1, 2147483649, 0, 0, 1, []) := by rw [kc26_eq]; rfl
theorem rw_26_30 : (codeOf 26)[30]? = some (55, .ireturn, 1, 0, 0, 1, []) := by rw [kc26_eq]; rfl
theorem kc27_eq : codeOf 27 = kc27 := rfl
theorem hk_27 : 27 < 186 := by decide
theorem rw_27_0 : (codeOf 27)[0]? = some (0, .aload 0, 0, 0, 3, 1, []) := by rw [kc27_eq]; rfl
theorem rw_27_1 : (codeOf 27)[1]? = some (1, .getfield 31, 1, 4, 0, 3, []) := by rw [kc27_eq]; rfl
theorem rw_27_2 : (codeOf 27)[2]? = some (4, .ifCond .le 12, 16, 8, 0, 3, []) := by rw [kc27_eq]; rfl
theorem rw_27_3 : (codeOf 27)[3]? = some (7, .aload 0, 0, 0, 3, 1, []) := by rw [kc27_eq]; rfl
theorem rw_27_4 : (codeOf 27)[4]? = some (8, .getfield 34, 1, 8, 0, 3, []) := by rw [kc27_eq]; rfl
theorem rw_27_5 : (codeOf 27)[5]? = some (11, .ifCond .ne 5, 16, 8, 0, 3, []) := by rw [kc27_eq]; rfl
theorem rw_27_6 : (codeOf 27)[6]? = some (14, .iconst 1, 2147483649, 0, 0, 1, []) := by rw [kc27_eq]; rfl
theorem rw_27_7 : (codeOf 27)[7]? = some (15, .ireturn, 1, 0, 0, 1, []) := by rw [kc27_eq]; rfl
theorem rw_27_8 : (codeOf 27)[8]? = some (16, .aload 0, 0, 0, 3, 1, []) := by rw [kc27_eq]; rfl
theorem rw_27_9 : (codeOf 27)[9]? = some (17, .getfield 31, 1, 4, 0, 3, []) := by rw [kc27_eq]; rfl
theorem rw_27_10 : (codeOf 27)[10]? = some (20, .iconst 10, 2147483658, 0, 0, 2, []) := by rw [kc27_eq]; rfl
theorem rw_27_11 : (codeOf 27)[11]? = some (22, .if_icmp .lt 5, 27, 14, 0, 3, []) := by rw [kc27_eq]; rfl
theorem rw_27_12 : (codeOf 27)[12]? = some (25, .iconst 3, 2147483651, 0, 0, 1, []) := by rw [kc27_eq]; rfl
theorem rw_27_13 : (codeOf 27)[13]? = some (26, .ireturn, 1, 0, 0, 1, []) := by rw [kc27_eq]; rfl
theorem rw_27_14 : (codeOf 27)[14]? = some (27, .iload 1, 1, 0, 0, 1, []) := by rw [kc27_eq]; rfl
theorem rw_27_15 : (codeOf 27)[15]? = some (28, .ifCond .ne 5, 33, 18, 0, 3, []) := by rw [kc27_eq]; rfl
theorem rw_27_16 : (codeOf 27)[16]? = some (31, .iconst 2, 2147483650, 0, 0, 1, []) := by rw [kc27_eq]; rfl
theorem rw_27_17 : (codeOf 27)[17]? = some (32, .ireturn, 1, 0, 0, 1, []) := by rw [kc27_eq]; rfl
theorem rw_27_18 : (codeOf 27)[18]? = some (33, .aload 0, 0, 0, 3, 1, []) := by rw [kc27_eq]; rfl
theorem rw_27_19 : (codeOf 27)[19]? = some (34, .getfield 15, 1, 2, 3, 3, []) := by rw [kc27_eq]; rfl
theorem rw_27_20 : (codeOf 27)[20]? = some (37, .aload 0, 0, 0, 3, 1, []) := by rw [kc27_eq]; rfl
theorem rw_27_21 : (codeOf 27)[21]? = some (38, .getfield 31, 1, 4, 0, 3, []) := by rw [kc27_eq]; rfl
theorem rw_27_22 : (codeOf 27)[22]? = some (41, .iload 1, 1, 0, 0, 1, []) := by rw [kc27_eq]; rfl
theorem rw_27_23 : (codeOf 27)[23]? = some (42, .iastore, 0, 0, 0, 1, []) := by rw [kc27_eq]; rfl
theorem rw_27_24 : (codeOf 27)[24]? = some (43, .aload 0, 0, 0, 3, 1, []) := by rw [kc27_eq]; rfl
theorem rw_27_25 : (codeOf 27)[25]? = some (44, .getfield 18, 1, 3, 3, 3, []) := by rw [kc27_eq]; rfl
theorem rw_27_26 : (codeOf 27)[26]? = some (47, .aload 0, 0, 0, 3, 1, []) := by rw [kc27_eq]; rfl
theorem rw_27_27 : (codeOf 27)[27]? = some (48, .getfield 31, 1, 4, 0, 3, []) := by rw [kc27_eq]; rfl
theorem rw_27_28 : (codeOf 27)[28]? = some (51, .aload 0, 0, 0, 3, 1, []) := by rw [kc27_eq]; rfl
theorem rw_27_29 : (codeOf 27)[29]? = some (52, .getfield 34, 1, 8, 0, 3, []) := by rw [kc27_eq]; rfl
theorem rw_27_30 : (codeOf 27)[30]? = some (55, .ifCond .le 17, 72, 39, 0, 3, []) := by rw [kc27_eq]; rfl
theorem rw_27_31 : (codeOf 27)[31]? = some (58, .aload 0, 0, 0, 3, 1, []) := by rw [kc27_eq]; rfl
theorem rw_27_32 : (codeOf 27)[32]? = some (59, .getfield 25, 1, 7, 3, 3, []) := by rw [kc27_eq]; rfl
theorem rw_27_33 : (codeOf 27)[33]? = some (62, .aload 0, 0, 0, 3, 1, []) := by rw [kc27_eq]; rfl
theorem rw_27_34 : (codeOf 27)[34]? = some (63, .getfield 34, 1, 8, 0, 3, []) := by rw [kc27_eq]; rfl
theorem rw_27_35 : (codeOf 27)[35]? = some (66, .iconst 1, 2147483649, 0, 0, 1, []) := by rw [kc27_eq]; rfl
theorem rw_27_36 : (codeOf 27)[36]? = some (67, .isub, 0, 0, 0, 1, []) := by rw [kc27_eq]; rfl
theorem rw_27_37 : (codeOf 27)[37]? = some (68, .iaload, 0, 0, 0, 1, []) := by rw [kc27_eq]; rfl
theorem rw_27_38 : (codeOf 27)[38]? = some (69, .goto 5, 74, 40, 0, 3, []) := by rw [kc27_eq]; rfl
theorem rw_27_39 : (codeOf 27)[39]? = some (72, .iconst (-9), 2147483639, 0, 0, 2, []) := by rw [kc27_eq]; rfl
theorem rw_27_40 : (codeOf 27)[40]? = some (74, .iastore, 0, 0, 0, 1, []) := by rw [kc27_eq]; rfl
theorem rw_27_41 : (codeOf 27)[41]? = some (75, .aload 0, 0, 0, 3, 1, []) := by rw [kc27_eq]; rfl
theorem rw_27_42 : (codeOf 27)[42]? = some (76, .dup, 0, 0, 0, 1, []) := by rw [kc27_eq]; rfl
theorem rw_27_43 : (codeOf 27)[43]? = some (77, .getfield 31, 1, 4, 0, 3, []) := by rw [kc27_eq]; rfl
theorem rw_27_44 : (codeOf 27)[44]? = some (80, .iconst 1, 2147483649, 0, 0, 1, []) := by rw [kc27_eq]; rfl
theorem rw_27_45 : (codeOf 27)[45]? = some (81, .iadd, 0, 0, 0, 1, []) := by rw [kc27_eq]; rfl
theorem rw_27_46 : (codeOf 27)[46]? = some (82, .putfield 31, 1, 4, 0, 3, []) := by rw [kc27_eq]; rfl
theorem rw_27_47 : (codeOf 27)[47]? = some (85, .aload 0, 0, 0, 3, 1, []) := by rw [kc27_eq]; rfl
theorem rw_27_48 : (codeOf 27)[48]? = some (86, .iconst 1, 2147483649, 0, 0, 1, []) := by rw [kc27_eq]; rfl
theorem rw_27_49 : (codeOf 27)[49]? = some (87, .putfield 37, 1, 9, 0, 3, []) := by rw [kc27_eq]; rfl
theorem rw_27_50 : (codeOf 27)[50]? = some (90, .iconst (-9), 2147483639, 0, 0, 2, []) := by rw [kc27_eq]; rfl
theorem rw_27_51 : (codeOf 27)[51]? = some (92, .ireturn, 1, 0, 0, 1, []) := by rw [kc27_eq]; rfl
theorem kc28_eq : codeOf 28 = kc28 := rfl
theorem hk_28 : 28 < 186 := by decide
theorem rw_28_0 : (codeOf 28)[0]? = some (0, .aload 0, 0, 0, 3, 1, []) := by rw [kc28_eq]; rfl
theorem rw_28_1 : (codeOf 28)[1]? = some (1, .getfield 37, 1, 9, 0, 3, []) := by rw [kc28_eq]; rfl
theorem rw_28_2 : (codeOf 28)[2]? = some (4, .iconst 1, 2147483649, 0, 0, 1, []) := by rw [kc28_eq]; rfl
theorem rw_28_3 : (codeOf 28)[3]? = some (5, .if_icmp .eq 5, 10, 6, 0, 3, []) := by rw [kc28_eq]; rfl
theorem rw_28_4 : (codeOf 28)[4]? = some (8, .iconst 1, 2147483649, 0, 0, 1, []) := by rw [kc28_eq]; rfl
theorem rw_28_5 : (codeOf 28)[5]? = some (9, .ireturn, 1, 0, 0, 1, []) := by rw [kc28_eq]; rfl
theorem rw_28_6 : (codeOf 28)[6]? = some (10, .aload 0, 0, 0, 3, 1, []) := by rw [kc28_eq]; rfl
theorem rw_28_7 : (codeOf 28)[7]? = some (11, .getfield 34, 1, 8, 0, 3, []) := by rw [kc28_eq]; rfl
theorem rw_28_8 : (codeOf 28)[8]? = some (14, .iconst 4, 2147483652, 0, 0, 1, []) := by rw [kc28_eq]; rfl
theorem rw_28_9 : (codeOf 28)[9]? = some (15, .if_icmp .lt 5, 20, 12, 0, 3, []) := by rw [kc28_eq]; rfl
theorem rw_28_10 : (codeOf 28)[10]? = some (18, .iconst 4, 2147483652, 0, 0, 1, []) := by rw [kc28_eq]; rfl
theorem rw_28_11 : (codeOf 28)[11]? = some (19, .ireturn, 1, 0, 0, 1, []) := by rw [kc28_eq]; rfl
theorem rw_28_12 : (codeOf 28)[12]? = some (20, .aload 0, 0, 0, 3, 1, []) := by rw [kc28_eq]; rfl
theorem rw_28_13 : (codeOf 28)[13]? = some (21, .getfield 25, 1, 7, 3, 3, []) := by rw [kc28_eq]; rfl
theorem rw_28_14 : (codeOf 28)[14]? = some (24, .aload 0, 0, 0, 3, 1, []) := by rw [kc28_eq]; rfl
theorem rw_28_15 : (codeOf 28)[15]? = some (25, .getfield 34, 1, 8, 0, 3, []) := by rw [kc28_eq]; rfl
theorem rw_28_16 : (codeOf 28)[16]? = some (28, .aload 0, 0, 0, 3, 1, []) := by rw [kc28_eq]; rfl
theorem rw_28_17 : (codeOf 28)[17]? = some (29, .getfield 31, 1, 4, 0, 3, []) := by rw [kc28_eq]; rfl
theorem rw_28_18 : (codeOf 28)[18]? = some (32, .iconst 1, 2147483649, 0, 0, 1, []) := by rw [kc28_eq]; rfl
theorem rw_28_19 : (codeOf 28)[19]? = some (33, .isub, 0, 0, 0, 1, []) := by rw [kc28_eq]; rfl
theorem rw_28_20 : (codeOf 28)[20]? = some (34, .iastore, 0, 0, 0, 1, []) := by rw [kc28_eq]; rfl
theorem rw_28_21 : (codeOf 28)[21]? = some (35, .aload 0, 0, 0, 3, 1, []) := by rw [kc28_eq]; rfl
theorem rw_28_22 : (codeOf 28)[22]? = some (36, .dup, 0, 0, 0, 1, []) := by rw [kc28_eq]; rfl
theorem rw_28_23 : (codeOf 28)[23]? = some (37, .getfield 34, 1, 8, 0, 3, []) := by rw [kc28_eq]; rfl
theorem rw_28_24 : (codeOf 28)[24]? = some (40, .iconst 1, 2147483649, 0, 0, 1, []) := by rw [kc28_eq]; rfl
theorem rw_28_25 : (codeOf 28)[25]? = some (41, .iadd, 0, 0, 0, 1, []) := by rw [kc28_eq]; rfl
theorem rw_28_26 : (codeOf 28)[26]? = some (42, .putfield 34, 1, 8, 0, 3, []) := by rw [kc28_eq]; rfl
theorem rw_28_27 : (codeOf 28)[27]? = some (45, .aload 0, 0, 0, 3, 1, []) := by rw [kc28_eq]; rfl
theorem rw_28_28 : (codeOf 28)[28]? = some (46, .iconst 0, 2147483648, 0, 0, 1, []) := by rw [kc28_eq]; rfl
theorem rw_28_29 : (codeOf 28)[29]? = some (47, .putfield 37, 1, 9, 0, 3, []) := by rw [kc28_eq]; rfl
theorem rw_28_30 : (codeOf 28)[30]? = some (50, .iconst (-9), 2147483639, 0, 0, 2, []) := by rw [kc28_eq]; rfl
theorem rw_28_31 : (codeOf 28)[31]? = some (52, .ireturn, 1, 0, 0, 1, []) := by rw [kc28_eq]; rfl
theorem kc29_eq : codeOf 29 = kc29 := rfl
theorem hk_29 : 29 < 186 := by decide
theorem rw_29_0 : (codeOf 29)[0]? = some (0, .aload 0, 0, 0, 3, 1, []) := by rw [kc29_eq]; rfl
theorem rw_29_1 : (codeOf 29)[1]? = some (1, .getfield 34, 1, 8, 0, 3, []) := by rw [kc29_eq]; rfl
theorem rw_29_2 : (codeOf 29)[2]? = some (4, .ifCond .eq 10, 14, 6, 0, 3, []) := by rw [kc29_eq]; rfl
theorem rw_29_3 : (codeOf 29)[3]? = some (7, .aload 0, 0, 0, 3, 1, []) := by rw [kc29_eq]; rfl
theorem rw_29_4 : (codeOf 29)[4]? = some (8, .getfield 37, 1, 9, 0, 3, []) := by rw [kc29_eq]; rfl
theorem rw_29_5 : (codeOf 29)[5]? = some (11, .ifCond .ne 5, 16, 8, 0, 3, []) := by rw [kc29_eq]; rfl
theorem rw_29_6 : (codeOf 29)[6]? = some (14, .iconst 1, 2147483649, 0, 0, 1, []) := by rw [kc29_eq]; rfl
theorem rw_29_7 : (codeOf 29)[7]? = some (15, .ireturn, 1, 0, 0, 1, []) := by rw [kc29_eq]; rfl
theorem rw_29_8 : (codeOf 29)[8]? = some (16, .aload 0, 0, 0, 3, 1, []) := by rw [kc29_eq]; rfl
theorem rw_29_9 : (codeOf 29)[9]? = some (17, .dup, 0, 0, 0, 1, []) := by rw [kc29_eq]; rfl
theorem rw_29_10 : (codeOf 29)[10]? = some (18, .getfield 34, 1, 8, 0, 3, []) := by rw [kc29_eq]; rfl
theorem rw_29_11 : (codeOf 29)[11]? = some (21, .iconst 1, 2147483649, 0, 0, 1, []) := by rw [kc29_eq]; rfl
theorem rw_29_12 : (codeOf 29)[12]? = some (22, .isub, 0, 0, 0, 1, []) := by rw [kc29_eq]; rfl
theorem rw_29_13 : (codeOf 29)[13]? = some (23, .putfield 34, 1, 8, 0, 3, []) := by rw [kc29_eq]; rfl
theorem rw_29_14 : (codeOf 29)[14]? = some (26, .aload 0, 0, 0, 3, 1, []) := by rw [kc29_eq]; rfl
theorem rw_29_15 : (codeOf 29)[15]? = some (27, .iconst 2, 2147483650, 0, 0, 1, []) := by rw [kc29_eq]; rfl
theorem rw_29_16 : (codeOf 29)[16]? = some (28, .putfield 37, 1, 9, 0, 3, []) := by rw [kc29_eq]; rfl
theorem rw_29_17 : (codeOf 29)[17]? = some (31, .iconst (-9), 2147483639, 0, 0, 2, []) := by rw [kc29_eq]; rfl
theorem rw_29_18 : (codeOf 29)[18]? = some (33, .ireturn, 1, 0, 0, 1, []) := by rw [kc29_eq]; rfl
def tfs (N m kd fp g pl : Int) : List Value := [.ref 4, .int (iv N), .ref 5, .ref 6, .int (iv m), .int (iv kd), .int (iv fp), .ref 7, .int (iv g), .int (iv pl)]
def tx (B : PH) (N m kd fp g pl : Int) (w pr ow : Nat → Int32) : PH := (((B.set 3 (.inr (.inr (1, tfs N m kd fp g pl)))).set 5 (.inl (10, w))).set 6 (.inl (10, pr))).set 7 (.inl (4, ow))
theorem set_swap {l : PH} {i j : Nat} {x y : PE} (h : i ≠ j) : (l.set i x).set j y = (l.set j y).set i x := List.set_comm x y h
section RX
variable {d k j : Nat} {lv : List (Option Value)} {st : List Value} {ph ph' : PH} {Q : Option Value → PH → Prop} {B : PH} {N m kd fp g pl u : Int} {w pr ow f : Nat → Int32}
theorem tg_0 : (tfs N m kd fp g pl)[0]? = some (.ref 4) := rfl
theorem tg_1 : (tfs N m kd fp g pl)[1]? = some (.int (iv N)) := rfl
theorem tg_2 : (tfs N m kd fp g pl)[2]? = some (.ref 5) := rfl
theorem tg_3 : (tfs N m kd fp g pl)[3]? = some (.ref 6) := rfl
theorem tg_4 : (tfs N m kd fp g pl)[4]? = some (.int (iv m)) := rfl
theorem tg_5 : (tfs N m kd fp g pl)[5]? = some (.int (iv kd)) := rfl
theorem tg_6 : (tfs N m kd fp g pl)[6]? = some (.int (iv fp)) := rfl
theorem tg_7 : (tfs N m kd fp g pl)[7]? = some (.ref 7) := rfl
theorem tg_8 : (tfs N m kd fp g pl)[8]? = some (.int (iv g)) := rfl
theorem tg_9 : (tfs N m kd fp g pl)[9]? = some (.int (iv pl)) := rfl
theorem tp_4 : (tfs N m kd fp g pl).set 4 (.int (iv u)) = tfs N u kd fp g pl := rfl
theorem tp_5 : (tfs N m kd fp g pl).set 5 (.int (iv u)) = tfs N m u fp g pl := rfl
theorem tp_6 : (tfs N m kd fp g pl).set 6 (.int (iv u)) = tfs N m kd u g pl := rfl
theorem tp_8 : (tfs N m kd fp g pl).set 8 (.int (iv u)) = tfs N m kd fp u pl := rfl
theorem tp_9 : (tfs N m kd fp g pl).set 9 (.int (iv u)) = tfs N m kd fp g u := rfl
theorem tx_3 (hB : 87 ≤ B.length) : (tx B N m kd fp g pl w pr ow)[3]? = some (.inr (.inr (1, tfs N m kd fp g pl))) := by
  unfold tx
  rw [List.getElem?_set_ne (by decide), List.getElem?_set_ne (by decide), List.getElem?_set_ne (by decide)]
  exact List.getElem?_set_self (by omega)
theorem tx_5 (hB : 87 ≤ B.length) : (tx B N m kd fp g pl w pr ow)[5]? = some (.inl (10, w)) := by
  unfold tx
  rw [List.getElem?_set_ne (by decide), List.getElem?_set_ne (by decide)]
  exact List.getElem?_set_self (by rw [List.length_set]; omega)
theorem tx_6 (hB : 87 ≤ B.length) : (tx B N m kd fp g pl w pr ow)[6]? = some (.inl (10, pr)) := by
  unfold tx
  rw [List.getElem?_set_ne (by decide)]
  exact List.getElem?_set_self (by rw [List.length_set, List.length_set]; omega)
theorem tx_7 (hB : 87 ≤ B.length) : (tx B N m kd fp g pl w pr ow)[7]? = some (.inl (4, ow)) := by
  unfold tx
  exact List.getElem?_set_self (by rw [List.length_set, List.length_set, List.length_set]; omega)
theorem tx_o {x : Nat} (_ : 87 ≤ B.length) (h3 : 3 ≠ x) (h5 : 5 ≠ x) (h6 : 6 ≠ x) (h7 : 7 ≠ x) : (tx B N m kd fp g pl w pr ow)[x]? = B[x]? := by
  unfold tx
  rw [List.getElem?_set_ne h7, List.getElem?_set_ne h6, List.getElem?_set_ne h5, List.getElem?_set_ne h3]
theorem tx_S3 {N' m' kd' fp' g' pl' : Int} : (tx B N m kd fp g pl w pr ow).set 3 (.inr (.inr (1, tfs N' m' kd' fp' g' pl'))) = tx B N' m' kd' fp' g' pl' w pr ow := by
  unfold tx
  rw [set_swap (i := 7) (j := 3) (by decide), set_swap (i := 6) (j := 3) (by decide), set_swap (i := 5) (j := 3) (by decide), List.set_set]
theorem tx_S5 (_ : 87 ≤ B.length) : (tx B N m kd fp g pl w pr ow).set 5 (.inl (10, f)) = tx B N m kd fp g pl f pr ow := by
  unfold tx
  rw [set_swap (i := 7) (j := 5) (by decide), set_swap (i := 6) (j := 5) (by decide), List.set_set]
theorem tx_S6 (_ : 87 ≤ B.length) : (tx B N m kd fp g pl w pr ow).set 6 (.inl (10, f)) = tx B N m kd fp g pl w f ow := by
  unfold tx
  rw [set_swap (i := 7) (j := 6) (by decide), List.set_set]
theorem tx_S7 (_ : 87 ≤ B.length) : (tx B N m kd fp g pl w pr ow).set 7 (.inl (4, f)) = tx B N m kd fp g pl w pr f := by
  unfold tx
  rw [List.set_set]
theorem tz_put (hk : k < 186) (hB : 87 ≤ B.length) {pc b ix : Nat} {y : Int32} {N' m' kd' fp' g' pl' : Int} {ts : List Nat} (hrow : (codeOf k)[j]? = some (pc, .putfield ix, 1, b, 0, 3, ts)) (hb : b < 10) (hs : (tfs N m kd fp g pl).set b (.int y) = tfs N' m' kd' fp' g' pl') (h : ZR d k (j + 1) lv st (tx B N' m' kd' fp' g' pl' w pr ow) Q) : ZR d k j lv (.int y :: .ref 3 :: st) (tx B N m kd fp g pl w pr ow) Q := by
  refine zr_putI hk hrow (tx_3 hB) (by decide) hb ?_
  rw [hs, tx_S3]
  exact h
theorem ZC.and {as : List Value} {P P' : Option Value → PH → Prop} (h1 : ZC d k as ph P) (h2 : ZC d k as ph P') : ZC d k as ph (fun v ph' => P v ph' ∧ P' v ph') := by
  obtain ⟨m1, v1, q1, b1, c1, r1, p1⟩ := h1
  obtain ⟨m2, v2, q2, b2, c2, r2, p2⟩ := h2
  have e1 := run_add r1 m2
  have e2 := run_add r2 m1
  rw [Nat.add_comm m2 m1, e1] at e2
  cases e2
  exact ⟨m1, _, _, _, _, r1, p1, p2⟩
end RX
def TI (m g pl : Nat) : Prop := m ≤ 10 ∧ g ≤ 4 ∧ pl ≤ 2 ∧ (pl ≠ 0 → 1 ≤ m) ∧ (0 < g → 1 ≤ m) ∧ (g = 0 → pl = 0 → m = 0)
theorem rdS_TI {e : Int} {m g pl m' g' pl' : Nat} (hT : TI m g pl) (h : rdS e m g pl = .inl (m', g', pl')) : TI m' g' pl' := by
  unfold TI at hT
  unfold rdS at h
  repeat' split at h
  all_goals (cases h <;> (refine ⟨?_, ?_, ?_, ?_, ?_, ?_⟩ <;> omega))
def TPost (B : PH) (N kd fp : Int) (R : (Nat × Nat × Nat) ⊕ Nat) (v : Option Value) (ph' : PH) : Prop := ∃ (m g pl : Nat) (w pr ow : Nat → Int32), ph' = tx B N m kd fp g pl w pr ow ∧ ((∃ q : Nat, R = .inr q ∧ q ≤ 4 ∧ v = some (.int (iv (q : Int)))) ∨ (R = .inl (m, g, pl) ∧ v = some (.int (iv (-9)))))
section RY
variable {d k j : Nat} {lv : List (Option Value)} {st : List Value} {ph ph' : PH} {Q : Option Value → PH → Prop} {B : PH} {N m g pl : Nat} {kd fp e : Int} {w pr ow f : Nat → Int32}
theorem cw_ok (d : Nat) (hB : 87 ≤ B.length) (hT : TI m g pl) (h1 : 48 ≤ e) (h2 : e ≤ 57) : ZC d 27 [.ref 3, .int (iv (e - 48))] (tx B N m kd fp g pl w pr ow) (TPost B N kd fp (rdS e m g pl)) := by
  unfold TI at hT
  refine ZC.of (lv := [some (.ref 3), some (.int (iv (e - 48)))]) hk_27 (fun i v hv => ?_) ?_
  · match i, hv with
    | 0, hv => cases hv; rfl
    | 1, hv => cases hv; rfl
    | i + 2, hv => simp at hv
  refine zr_aload hk_27 rw_27_0 rfl ?_
  refine zr_getfield hk_27 rw_27_1 (tx_3 hB) (by decide) tg_4 ?_
  refine zi_if_le hk_27 rw_27_2 (by unfold inR; omega) (fun h2 => ?_) (fun h2 => ?_)
  · refine zr_aload hk_27 rw_27_8 rfl ?_
    refine zr_getfield hk_27 rw_27_9 (tx_3 hB) (by decide) tg_4 ?_
    refine zi_const hk_27 rw_27_10 (c := 10) rfl ?_
    refine zi_icmp_lt hk_27 rw_27_11 (by unfold inR; omega) (by unfold inR; omega) (fun h11 => ?_) (fun h11 => ?_)
    · refine zr_iload hk_27 rw_27_14 rfl ?_
      refine zi_if_ne hk_27 rw_27_15 (by unfold inR; omega) (fun h15 => ?_) (fun h15 => ?_)
      · refine zr_aload hk_27 rw_27_18 rfl ?_
        refine zr_getfield hk_27 rw_27_19 (tx_3 hB) (by decide) tg_2 ?_
        refine zr_aload hk_27 rw_27_20 rfl ?_
        refine zr_getfield hk_27 rw_27_21 (tx_3 hB) (by decide) tg_4 ?_
        refine zr_iload hk_27 rw_27_22 rfl ?_
        refine mz_ast hk_27 (tx_5 hB) (by decide) rw_27_23 (m) (by omega) (by omega) (by decide) (tx_S5 hB) ?_
        refine zr_aload hk_27 rw_27_24 rfl ?_
        refine zr_getfield hk_27 rw_27_25 (tx_3 hB) (by decide) tg_3 ?_
        refine zr_aload hk_27 rw_27_26 rfl ?_
        refine zr_getfield hk_27 rw_27_27 (tx_3 hB) (by decide) tg_4 ?_
        refine zr_aload hk_27 rw_27_28 rfl ?_
        refine zr_getfield hk_27 rw_27_29 (tx_3 hB) (by decide) tg_8 ?_
        refine zi_if_le hk_27 rw_27_30 (by unfold inR; omega) (fun h30 => ?_) (fun h30 => ?_)
        · refine zi_const hk_27 rw_27_39 (c := -9) rfl ?_
          refine mz_ast hk_27 (tx_6 hB) (by decide) rw_27_40 (m) (by omega) (by omega) (by decide) (tx_S6 hB) ?_
          refine zr_aload hk_27 rw_27_41 rfl ?_
          refine zr_dup hk_27 rw_27_42 rfl ?_
          refine zr_getfield hk_27 rw_27_43 (tx_3 hB) (by decide) tg_4 ?_
          refine zi_const hk_27 rw_27_44 (c := 1) rfl ?_
          refine zi_add hk_27 rw_27_45 ?_
          refine tz_put hk_27 hB rw_27_46 (by decide) tp_4 ?_
          refine zr_aload hk_27 rw_27_47 rfl ?_
          refine zi_const hk_27 rw_27_48 (c := 1) rfl ?_
          refine tz_put hk_27 hB rw_27_49 (by decide) tp_9 ?_
          refine zi_const hk_27 rw_27_50 (c := -9) rfl ?_
          refine zr_ireturn hk_27 rw_27_51 ?_
          exact ⟨m + 1, g, 1, _, _, _, rfl, Or.inr ⟨by first | (exfalso; omega) | (unfold rdS; repeat (first | rw [if_pos (by omega)] | rw [if_neg (by omega)])), rfl⟩⟩
        · refine zr_aload hk_27 rw_27_31 rfl ?_
          refine zr_getfield hk_27 rw_27_32 (tx_3 hB) (by decide) tg_7 ?_
          refine zr_aload hk_27 rw_27_33 rfl ?_
          refine zr_getfield hk_27 rw_27_34 (tx_3 hB) (by decide) tg_8 ?_
          refine zi_const hk_27 rw_27_35 (c := 1) rfl ?_
          refine zi_sub hk_27 rw_27_36 ?_
          refine mz_ald hk_27 (tx_7 hB) rw_27_37 (g - (1)) (by omega) (by omega) (by decide) ?_
          refine zr_goto hk_27 rw_27_38 ?_
          refine mz_ast hk_27 (tx_6 hB) (by decide) rw_27_40 (m) (by omega) (by omega) (by decide) (tx_S6 hB) ?_
          refine zr_aload hk_27 rw_27_41 rfl ?_
          refine zr_dup hk_27 rw_27_42 rfl ?_
          refine zr_getfield hk_27 rw_27_43 (tx_3 hB) (by decide) tg_4 ?_
          refine zi_const hk_27 rw_27_44 (c := 1) rfl ?_
          refine zi_add hk_27 rw_27_45 ?_
          refine tz_put hk_27 hB rw_27_46 (by decide) tp_4 ?_
          refine zr_aload hk_27 rw_27_47 rfl ?_
          refine zi_const hk_27 rw_27_48 (c := 1) rfl ?_
          refine tz_put hk_27 hB rw_27_49 (by decide) tp_9 ?_
          refine zi_const hk_27 rw_27_50 (c := -9) rfl ?_
          refine zr_ireturn hk_27 rw_27_51 ?_
          exact ⟨m + 1, g, 1, _, _, _, rfl, Or.inr ⟨by first | (exfalso; omega) | (unfold rdS; repeat (first | rw [if_pos (by omega)] | rw [if_neg (by omega)])), rfl⟩⟩
      · refine zi_const hk_27 rw_27_16 (c := 2) rfl ?_
        refine zr_ireturn hk_27 rw_27_17 ?_
        exact ⟨m, g, pl, _, _, _, rfl, Or.inl ⟨2, by first | (exfalso; omega) | (unfold rdS; repeat (first | rw [if_pos (by omega)] | rw [if_neg (by omega)])), by omega, rfl⟩⟩
    · refine zi_const hk_27 rw_27_12 (c := 3) rfl ?_
      refine zr_ireturn hk_27 rw_27_13 ?_
      exact ⟨m, g, pl, _, _, _, rfl, Or.inl ⟨3, by first | (exfalso; omega) | (unfold rdS; repeat (first | rw [if_pos (by omega)] | rw [if_neg (by omega)])), by omega, rfl⟩⟩
  · refine zr_aload hk_27 rw_27_3 rfl ?_
    refine zr_getfield hk_27 rw_27_4 (tx_3 hB) (by decide) tg_8 ?_
    refine zi_if_ne hk_27 rw_27_5 (by unfold inR; omega) (fun h5 => ?_) (fun h5 => ?_)
    · refine zr_aload hk_27 rw_27_8 rfl ?_
      refine zr_getfield hk_27 rw_27_9 (tx_3 hB) (by decide) tg_4 ?_
      refine zi_const hk_27 rw_27_10 (c := 10) rfl ?_
      refine zi_icmp_lt hk_27 rw_27_11 (by unfold inR; omega) (by unfold inR; omega) (fun h11 => ?_) (fun h11 => ?_)
      · refine zr_iload hk_27 rw_27_14 rfl ?_
        refine zi_if_ne hk_27 rw_27_15 (by unfold inR; omega) (fun h15 => ?_) (fun h15 => ?_)
        · refine zr_aload hk_27 rw_27_18 rfl ?_
          refine zr_getfield hk_27 rw_27_19 (tx_3 hB) (by decide) tg_2 ?_
          refine zr_aload hk_27 rw_27_20 rfl ?_
          refine zr_getfield hk_27 rw_27_21 (tx_3 hB) (by decide) tg_4 ?_
          refine zr_iload hk_27 rw_27_22 rfl ?_
          refine mz_ast hk_27 (tx_5 hB) (by decide) rw_27_23 (m) (by omega) (by omega) (by decide) (tx_S5 hB) ?_
          refine zr_aload hk_27 rw_27_24 rfl ?_
          refine zr_getfield hk_27 rw_27_25 (tx_3 hB) (by decide) tg_3 ?_
          refine zr_aload hk_27 rw_27_26 rfl ?_
          refine zr_getfield hk_27 rw_27_27 (tx_3 hB) (by decide) tg_4 ?_
          refine zr_aload hk_27 rw_27_28 rfl ?_
          refine zr_getfield hk_27 rw_27_29 (tx_3 hB) (by decide) tg_8 ?_
          refine zi_if_le hk_27 rw_27_30 (by unfold inR; omega) (fun h30 => ?_) (fun h30 => ?_)
          · refine zi_const hk_27 rw_27_39 (c := -9) rfl ?_
            refine mz_ast hk_27 (tx_6 hB) (by decide) rw_27_40 (m) (by omega) (by omega) (by decide) (tx_S6 hB) ?_
            refine zr_aload hk_27 rw_27_41 rfl ?_
            refine zr_dup hk_27 rw_27_42 rfl ?_
            refine zr_getfield hk_27 rw_27_43 (tx_3 hB) (by decide) tg_4 ?_
            refine zi_const hk_27 rw_27_44 (c := 1) rfl ?_
            refine zi_add hk_27 rw_27_45 ?_
            refine tz_put hk_27 hB rw_27_46 (by decide) tp_4 ?_
            refine zr_aload hk_27 rw_27_47 rfl ?_
            refine zi_const hk_27 rw_27_48 (c := 1) rfl ?_
            refine tz_put hk_27 hB rw_27_49 (by decide) tp_9 ?_
            refine zi_const hk_27 rw_27_50 (c := -9) rfl ?_
            refine zr_ireturn hk_27 rw_27_51 ?_
            exact ⟨m + 1, g, 1, _, _, _, rfl, Or.inr ⟨by first | (exfalso; omega) | (unfold rdS; repeat (first | rw [if_pos (by omega)] | rw [if_neg (by omega)])), rfl⟩⟩
          · refine zr_aload hk_27 rw_27_31 rfl ?_
            refine zr_getfield hk_27 rw_27_32 (tx_3 hB) (by decide) tg_7 ?_
            refine zr_aload hk_27 rw_27_33 rfl ?_
            refine zr_getfield hk_27 rw_27_34 (tx_3 hB) (by decide) tg_8 ?_
            refine zi_const hk_27 rw_27_35 (c := 1) rfl ?_
            refine zi_sub hk_27 rw_27_36 ?_
            refine mz_ald hk_27 (tx_7 hB) rw_27_37 (g - (1)) (by omega) (by omega) (by decide) ?_
            refine zr_goto hk_27 rw_27_38 ?_
            refine mz_ast hk_27 (tx_6 hB) (by decide) rw_27_40 (m) (by omega) (by omega) (by decide) (tx_S6 hB) ?_
            refine zr_aload hk_27 rw_27_41 rfl ?_
            refine zr_dup hk_27 rw_27_42 rfl ?_
            refine zr_getfield hk_27 rw_27_43 (tx_3 hB) (by decide) tg_4 ?_
            refine zi_const hk_27 rw_27_44 (c := 1) rfl ?_
            refine zi_add hk_27 rw_27_45 ?_
            refine tz_put hk_27 hB rw_27_46 (by decide) tp_4 ?_
            refine zr_aload hk_27 rw_27_47 rfl ?_
            refine zi_const hk_27 rw_27_48 (c := 1) rfl ?_
            refine tz_put hk_27 hB rw_27_49 (by decide) tp_9 ?_
            refine zi_const hk_27 rw_27_50 (c := -9) rfl ?_
            refine zr_ireturn hk_27 rw_27_51 ?_
            exact ⟨m + 1, g, 1, _, _, _, rfl, Or.inr ⟨by first | (exfalso; omega) | (unfold rdS; repeat (first | rw [if_pos (by omega)] | rw [if_neg (by omega)])), rfl⟩⟩
        · refine zi_const hk_27 rw_27_16 (c := 2) rfl ?_
          refine zr_ireturn hk_27 rw_27_17 ?_
          exact ⟨m, g, pl, _, _, _, rfl, Or.inl ⟨2, by first | (exfalso; omega) | (unfold rdS; repeat (first | rw [if_pos (by omega)] | rw [if_neg (by omega)])), by omega, rfl⟩⟩
      · refine zi_const hk_27 rw_27_12 (c := 3) rfl ?_
        refine zr_ireturn hk_27 rw_27_13 ?_
        exact ⟨m, g, pl, _, _, _, rfl, Or.inl ⟨3, by first | (exfalso; omega) | (unfold rdS; repeat (first | rw [if_pos (by omega)] | rw [if_neg (by omega)])), by omega, rfl⟩⟩
    · refine zi_const hk_27 rw_27_6 (c := 1) rfl ?_
      refine zr_ireturn hk_27 rw_27_7 ?_
      exact ⟨m, g, pl, _, _, _, rfl, Or.inl ⟨1, by first | (exfalso; omega) | (unfold rdS; repeat (first | rw [if_pos (by omega)] | rw [if_neg (by omega)])), by omega, rfl⟩⟩
theorem co_ok (d : Nat) (hB : 87 ≤ B.length) (hT : TI m g pl) (h1 : e = 40) : ZC d 28 [.ref 3] (tx B N m kd fp g pl w pr ow) (TPost B N kd fp (rdS e m g pl)) := by
  unfold TI at hT
  refine ZC.of (lv := [some (.ref 3)]) hk_28 (fun i v hv => ?_) ?_
  · match i, hv with
    | 0, hv => cases hv; rfl
    | i + 1, hv => simp at hv
  refine zr_aload hk_28 rw_28_0 rfl ?_
  refine zr_getfield hk_28 rw_28_1 (tx_3 hB) (by decide) tg_9 ?_
  refine zi_const hk_28 rw_28_2 (c := 1) rfl ?_
  refine zi_icmp_eq hk_28 rw_28_3 (by unfold inR; omega) (by unfold inR; omega) (fun h3 => ?_) (fun h3 => ?_)
  · refine zr_aload hk_28 rw_28_6 rfl ?_
    refine zr_getfield hk_28 rw_28_7 (tx_3 hB) (by decide) tg_8 ?_
    refine zi_const hk_28 rw_28_8 (c := 4) rfl ?_
    refine zi_icmp_lt hk_28 rw_28_9 (by unfold inR; omega) (by unfold inR; omega) (fun h9 => ?_) (fun h9 => ?_)
    · refine zr_aload hk_28 rw_28_12 rfl ?_
      refine zr_getfield hk_28 rw_28_13 (tx_3 hB) (by decide) tg_7 ?_
      refine zr_aload hk_28 rw_28_14 rfl ?_
      refine zr_getfield hk_28 rw_28_15 (tx_3 hB) (by decide) tg_8 ?_
      refine zr_aload hk_28 rw_28_16 rfl ?_
      refine zr_getfield hk_28 rw_28_17 (tx_3 hB) (by decide) tg_4 ?_
      refine zi_const hk_28 rw_28_18 (c := 1) rfl ?_
      refine zi_sub hk_28 rw_28_19 ?_
      refine mz_ast hk_28 (tx_7 hB) (by decide) rw_28_20 (g) (by omega) (by omega) (by decide) (tx_S7 hB) ?_
      refine zr_aload hk_28 rw_28_21 rfl ?_
      refine zr_dup hk_28 rw_28_22 rfl ?_
      refine zr_getfield hk_28 rw_28_23 (tx_3 hB) (by decide) tg_8 ?_
      refine zi_const hk_28 rw_28_24 (c := 1) rfl ?_
      refine zi_add hk_28 rw_28_25 ?_
      refine tz_put hk_28 hB rw_28_26 (by decide) tp_8 ?_
      refine zr_aload hk_28 rw_28_27 rfl ?_
      refine zi_const hk_28 rw_28_28 (c := 0) rfl ?_
      refine tz_put hk_28 hB rw_28_29 (by decide) tp_9 ?_
      refine zi_const hk_28 rw_28_30 (c := -9) rfl ?_
      refine zr_ireturn hk_28 rw_28_31 ?_
      exact ⟨m, g + 1, 0, _, _, _, rfl, Or.inr ⟨by first | (exfalso; omega) | (unfold rdS; repeat (first | rw [if_pos (by omega)] | rw [if_neg (by omega)])), rfl⟩⟩
    · refine zi_const hk_28 rw_28_10 (c := 4) rfl ?_
      refine zr_ireturn hk_28 rw_28_11 ?_
      exact ⟨m, g, pl, _, _, _, rfl, Or.inl ⟨4, by first | (exfalso; omega) | (unfold rdS; repeat (first | rw [if_pos (by omega)] | rw [if_neg (by omega)])), by omega, rfl⟩⟩
  · refine zi_const hk_28 rw_28_4 (c := 1) rfl ?_
    refine zr_ireturn hk_28 rw_28_5 ?_
    exact ⟨m, g, pl, _, _, _, rfl, Or.inl ⟨1, by first | (exfalso; omega) | (unfold rdS; repeat (first | rw [if_pos (by omega)] | rw [if_neg (by omega)])), by omega, rfl⟩⟩
theorem cc_ok (d : Nat) (hB : 87 ≤ B.length) (hT : TI m g pl) (h1 : e = 41) : ZC d 29 [.ref 3] (tx B N m kd fp g pl w pr ow) (TPost B N kd fp (rdS e m g pl)) := by
  unfold TI at hT
  refine ZC.of (lv := [some (.ref 3)]) hk_29 (fun i v hv => ?_) ?_
  · match i, hv with
    | 0, hv => cases hv; rfl
    | i + 1, hv => simp at hv
  refine zr_aload hk_29 rw_29_0 rfl ?_
  refine zr_getfield hk_29 rw_29_1 (tx_3 hB) (by decide) tg_8 ?_
  refine zi_if_eq hk_29 rw_29_2 (by unfold inR; omega) (fun h2 => ?_) (fun h2 => ?_)
  · refine zi_const hk_29 rw_29_6 (c := 1) rfl ?_
    refine zr_ireturn hk_29 rw_29_7 ?_
    exact ⟨m, g, pl, _, _, _, rfl, Or.inl ⟨1, by first | (exfalso; omega) | (unfold rdS; repeat (first | rw [if_pos (by omega)] | rw [if_neg (by omega)])), by omega, rfl⟩⟩
  · refine zr_aload hk_29 rw_29_3 rfl ?_
    refine zr_getfield hk_29 rw_29_4 (tx_3 hB) (by decide) tg_9 ?_
    refine zi_if_ne hk_29 rw_29_5 (by unfold inR; omega) (fun h5 => ?_) (fun h5 => ?_)
    · refine zr_aload hk_29 rw_29_8 rfl ?_
      refine zr_dup hk_29 rw_29_9 rfl ?_
      refine zr_getfield hk_29 rw_29_10 (tx_3 hB) (by decide) tg_8 ?_
      refine zi_const hk_29 rw_29_11 (c := 1) rfl ?_
      refine zi_sub hk_29 rw_29_12 ?_
      refine tz_put hk_29 hB rw_29_13 (by decide) tp_8 ?_
      refine zr_aload hk_29 rw_29_14 rfl ?_
      refine zi_const hk_29 rw_29_15 (c := 2) rfl ?_
      refine tz_put hk_29 hB rw_29_16 (by decide) tp_9 ?_
      refine zi_const hk_29 rw_29_17 (c := -9) rfl ?_
      refine zr_ireturn hk_29 rw_29_18 ?_
      rw [show (g : Int) - 1 = ((g - 1 : Nat) : Int) by omega]
      exact ⟨m, g - 1, 2, _, _, _, rfl, Or.inr ⟨by first | (exfalso; omega) | (unfold rdS; repeat (first | rw [if_pos (by omega)] | rw [if_neg (by omega)])), rfl⟩⟩
    · refine zi_const hk_29 rw_29_6 (c := 1) rfl ?_
      refine zr_ireturn hk_29 rw_29_7 ?_
      exact ⟨m, g, pl, _, _, _, rfl, Or.inl ⟨1, by first | (exfalso; omega) | (unfold rdS; repeat (first | rw [if_pos (by omega)] | rw [if_neg (by omega)])), by omega, rfl⟩⟩
theorem cb_ok (d : Nat) (hB : 87 ≤ B.length) (hT : TI m g pl) (he : inR e) : ZC (d + 1) 26 [.ref 3, .int (iv e)] (tx B N m kd fp g pl w pr ow) (TPost B N kd fp (rdS e m g pl)) := by
  have hT0 := hT
  unfold TI at hT
  refine ZC.of (lv := [some (.ref 3), some (.int (iv (e)))]) hk_26 (fun i v hv => ?_) ?_
  · match i, hv with
    | 0, hv => cases hv; rfl
    | 1, hv => cases hv; rfl
    | i + 2, hv => simp at hv
  refine zr_iload hk_26 rw_26_0 rfl ?_
  refine zi_const hk_26 rw_26_1 (c := 32) rfl ?_
  refine zi_icmp_ne hk_26 rw_26_2 (by first | assumption | (unfold inR; omega)) (by first | assumption | (unfold inR; omega)) (fun h2 => ?_) (fun h2 => ?_)
  · refine zr_iload hk_26 rw_26_5 rfl ?_
    refine zi_const hk_26 rw_26_6 (c := 48) rfl ?_
    refine zi_icmp_lt hk_26 rw_26_7 (by first | assumption | (unfold inR; omega)) (by first | assumption | (unfold inR; omega)) (fun h7 => ?_) (fun h7 => ?_)
    · refine zr_iload hk_26 rw_26_17 rfl ?_
      refine zi_const hk_26 rw_26_18 (c := 40) rfl ?_
      refine zi_icmp_ne hk_26 rw_26_19 (by first | assumption | (unfold inR; omega)) (by first | assumption | (unfold inR; omega)) (fun h19 => ?_) (fun h19 => ?_)
      · refine zr_iload hk_26 rw_26_23 rfl ?_
        refine zi_const hk_26 rw_26_24 (c := 41) rfl ?_
        refine zi_icmp_ne hk_26 rw_26_25 (by first | assumption | (unfold inR; omega)) (by first | assumption | (unfold inR; omega)) (fun h25 => ?_) (fun h25 => ?_)
        · refine zi_const hk_26 rw_26_29 (c := 1) rfl ?_
          refine zr_ireturn hk_26 rw_26_30 ?_
          exact ⟨m, g, pl, _, _, _, rfl, Or.inl ⟨1, by first | (exfalso; omega) | (unfold rdS; repeat (first | rw [if_pos (by omega)] | rw [if_neg (by omega)])), by omega, rfl⟩⟩
        · refine zr_aload hk_26 rw_26_26 rfl ?_
          refine zr_virtual (L := 1) (n := 0) (as := []) (r := []) hk_26 rw_26_27 (by decide) (by decide) ⟨rfl, rfl, rfl, rfl⟩ (tx_3 hB) (by decide) rfl rfl (by decide) (Nat.le_of_ble_eq_true rfl) (cc_ok d hB hT0 (by omega)) ?_
          rintro w' ph' ⟨m', g', pl', w2, pr2, ow2, rfl, hw⟩
          rcases hw with ⟨q, hR, hq, rfl⟩ | ⟨hR, rfl⟩
          · refine zr_goto hk_26 rw_26_28 ?_
            exact zr_ireturn hk_26 rw_26_30 ⟨m', g', pl', w2, pr2, ow2, rfl, Or.inl ⟨q, hR, hq, rfl⟩⟩
          · refine zr_goto hk_26 rw_26_28 ?_
            exact zr_ireturn hk_26 rw_26_30 ⟨m', g', pl', w2, pr2, ow2, rfl, Or.inr ⟨hR, rfl⟩⟩
      · refine zr_aload hk_26 rw_26_20 rfl ?_
        refine zr_virtual (L := 1) (n := 0) (as := []) (r := []) hk_26 rw_26_21 (by decide) (by decide) ⟨rfl, rfl, rfl, rfl⟩ (tx_3 hB) (by decide) rfl rfl (by decide) (Nat.le_of_ble_eq_true rfl) (co_ok d hB hT0 (by omega)) ?_
        rintro w' ph' ⟨m', g', pl', w2, pr2, ow2, rfl, hw⟩
        rcases hw with ⟨q, hR, hq, rfl⟩ | ⟨hR, rfl⟩
        · exact zr_ireturn hk_26 rw_26_22 ⟨m', g', pl', w2, pr2, ow2, rfl, Or.inl ⟨q, hR, hq, rfl⟩⟩
        · exact zr_ireturn hk_26 rw_26_22 ⟨m', g', pl', w2, pr2, ow2, rfl, Or.inr ⟨hR, rfl⟩⟩
    · refine zr_iload hk_26 rw_26_8 rfl ?_
      refine zi_const hk_26 rw_26_9 (c := 57) rfl ?_
      refine zi_icmp_gt hk_26 rw_26_10 (by first | assumption | (unfold inR; omega)) (by first | assumption | (unfold inR; omega)) (fun h10 => ?_) (fun h10 => ?_)
      · refine zr_iload hk_26 rw_26_17 rfl ?_
        refine zi_const hk_26 rw_26_18 (c := 40) rfl ?_
        refine zi_icmp_ne hk_26 rw_26_19 (by first | assumption | (unfold inR; omega)) (by first | assumption | (unfold inR; omega)) (fun h19 => ?_) (fun h19 => ?_)
        · refine zr_iload hk_26 rw_26_23 rfl ?_
          refine zi_const hk_26 rw_26_24 (c := 41) rfl ?_
          refine zi_icmp_ne hk_26 rw_26_25 (by first | assumption | (unfold inR; omega)) (by first | assumption | (unfold inR; omega)) (fun h25 => ?_) (fun h25 => ?_)
          · refine zi_const hk_26 rw_26_29 (c := 1) rfl ?_
            refine zr_ireturn hk_26 rw_26_30 ?_
            exact ⟨m, g, pl, _, _, _, rfl, Or.inl ⟨1, by first | (exfalso; omega) | (unfold rdS; repeat (first | rw [if_pos (by omega)] | rw [if_neg (by omega)])), by omega, rfl⟩⟩
          · refine zr_aload hk_26 rw_26_26 rfl ?_
            refine zr_virtual (L := 1) (n := 0) (as := []) (r := []) hk_26 rw_26_27 (by decide) (by decide) ⟨rfl, rfl, rfl, rfl⟩ (tx_3 hB) (by decide) rfl rfl (by decide) (Nat.le_of_ble_eq_true rfl) (cc_ok d hB hT0 (by omega)) ?_
            rintro w' ph' ⟨m', g', pl', w2, pr2, ow2, rfl, hw⟩
            rcases hw with ⟨q, hR, hq, rfl⟩ | ⟨hR, rfl⟩
            · refine zr_goto hk_26 rw_26_28 ?_
              exact zr_ireturn hk_26 rw_26_30 ⟨m', g', pl', w2, pr2, ow2, rfl, Or.inl ⟨q, hR, hq, rfl⟩⟩
            · refine zr_goto hk_26 rw_26_28 ?_
              exact zr_ireturn hk_26 rw_26_30 ⟨m', g', pl', w2, pr2, ow2, rfl, Or.inr ⟨hR, rfl⟩⟩
        · refine zr_aload hk_26 rw_26_20 rfl ?_
          refine zr_virtual (L := 1) (n := 0) (as := []) (r := []) hk_26 rw_26_21 (by decide) (by decide) ⟨rfl, rfl, rfl, rfl⟩ (tx_3 hB) (by decide) rfl rfl (by decide) (Nat.le_of_ble_eq_true rfl) (co_ok d hB hT0 (by omega)) ?_
          rintro w' ph' ⟨m', g', pl', w2, pr2, ow2, rfl, hw⟩
          rcases hw with ⟨q, hR, hq, rfl⟩ | ⟨hR, rfl⟩
          · exact zr_ireturn hk_26 rw_26_22 ⟨m', g', pl', w2, pr2, ow2, rfl, Or.inl ⟨q, hR, hq, rfl⟩⟩
          · exact zr_ireturn hk_26 rw_26_22 ⟨m', g', pl', w2, pr2, ow2, rfl, Or.inr ⟨hR, rfl⟩⟩
      · refine zr_aload hk_26 rw_26_11 rfl ?_
        refine zr_iload hk_26 rw_26_12 rfl ?_
        refine zi_const hk_26 rw_26_13 (c := 48) rfl ?_
        refine zi_sub hk_26 rw_26_14 ?_
        refine zr_virtual (L := 2) (n := 1) (as := [.int (iv (e - 48))]) (r := []) hk_26 rw_26_15 (by decide) (by decide) ⟨rfl, rfl, rfl, rfl⟩ (tx_3 hB) (by decide) rfl rfl (by decide) (Nat.le_of_ble_eq_true rfl) (cw_ok d hB hT0 (by omega) (by omega)) ?_
        rintro w' ph' ⟨m', g', pl', w2, pr2, ow2, rfl, hw⟩
        rcases hw with ⟨q, hR, hq, rfl⟩ | ⟨hR, rfl⟩
        · exact zr_ireturn hk_26 rw_26_16 ⟨m', g', pl', w2, pr2, ow2, rfl, Or.inl ⟨q, hR, hq, rfl⟩⟩
        · exact zr_ireturn hk_26 rw_26_16 ⟨m', g', pl', w2, pr2, ow2, rfl, Or.inr ⟨hR, rfl⟩⟩
  · refine zi_const hk_26 rw_26_3 (c := -9) rfl ?_
    refine zr_ireturn hk_26 rw_26_4 ?_
    exact ⟨m, g, pl, _, _, _, rfl, Or.inr ⟨by first | (exfalso; omega) | (unfold rdS; repeat (first | rw [if_pos (by omega)] | rw [if_neg (by omega)])), rfl⟩⟩
def RCPost (B : PH) (N : Nat) (R : Nat ⊕ (Nat × Nat)) (ph' : PH) : Prop := ∃ (m g pl : Nat) (kd fp : Int) (w pr ow : Nat → Int32), ph' = tx B N m kd fp g pl w pr ow ∧ ((∃ q pos : Nat, R = .inr (q, pos) ∧ q ≤ 4 ∧ pos ≤ 60 ∧ kd = q ∧ fp = pos) ∨ (R = .inl m ∧ kd = -9 ∧ 1 ≤ m ∧ m ≤ 10))
theorem crd_loop (d : Nat) (hB : 87 ≤ B.length) {t : Nat → Int32} (h4 : B[4]? = some (.inl (60, t))) (hN : N ≤ 60) : ∀ (k y m g pl : Nat) (w pr ow : Nat → Int32), y + k = N → TI m g pl → ZR (d + 2) 25 14 [some (.ref 3), some (.int (iv ((y : Int))))] [] (tx B N m (-9) fp g pl w pr ow) (fun v ph' => v = none ∧ RCPost B N (rdR t k y m g pl) ph') := by
  intro k
  induction k with
  | zero =>
    intro y m g pl w pr ow hyk hT
    unfold TI at hT
    refine zr_cut hk_25 rw_25_14 ?_
    refine zr_iload hk_25 rw_25_15 rfl ?_
    refine zr_aload hk_25 rw_25_16 rfl ?_
    refine zr_getfield hk_25 rw_25_17 (tx_3 hB) (by decide) tg_1 ?_
    refine zi_icmp_ge hk_25 rw_25_18 (by unfold inR; omega) (by unfold inR; omega) (fun h18 => ?_) (fun h18 => by omega)
    refine zr_aload hk_25 rw_25_37 rfl ?_
    refine zr_getfield hk_25 rw_25_38 (tx_3 hB) (by decide) tg_4 ?_
    refine zi_if_eq hk_25 rw_25_39 (by unfold inR; omega) (fun h39 => ?_) (fun h39 => ?_)
    · refine zr_aload hk_25 rw_25_43 rfl ?_
      refine zi_const hk_25 rw_25_44 (c := 1) rfl ?_
      refine tz_put hk_25 hB rw_25_45 (by decide) tp_5 ?_
      refine zr_aload hk_25 rw_25_46 rfl ?_
      refine zr_aload hk_25 rw_25_47 rfl ?_
      refine zr_getfield hk_25 rw_25_48 (tx_3 hB) (by decide) tg_1 ?_
      refine tz_put hk_25 hB rw_25_49 (by decide) tp_6 ?_
      refine zr_return (a := 0) hk_25 rw_25_50 ?_
      rw [rdR, if_pos (by omega)]
      exact ⟨rfl, m, g, pl, _, _, w, pr, ow, rfl, Or.inl ⟨1, y, rfl, by omega, by omega, rfl, by omega⟩⟩
    · refine zr_aload hk_25 rw_25_40 rfl ?_
      refine zr_getfield hk_25 rw_25_41 (tx_3 hB) (by decide) tg_8 ?_
      refine zi_if_le hk_25 rw_25_42 (by unfold inR; omega) (fun h42 => ?_) (fun h42 => ?_)
      · refine zr_return (a := 0) hk_25 rw_25_50 ?_
        rw [rdR, if_neg (by omega)]
        exact ⟨rfl, m, g, pl, _, _, w, pr, ow, rfl, Or.inr ⟨rfl, rfl, by omega, by omega⟩⟩
      · refine zr_aload hk_25 rw_25_43 rfl ?_
        refine zi_const hk_25 rw_25_44 (c := 1) rfl ?_
        refine tz_put hk_25 hB rw_25_45 (by decide) tp_5 ?_
        refine zr_aload hk_25 rw_25_46 rfl ?_
        refine zr_aload hk_25 rw_25_47 rfl ?_
        refine zr_getfield hk_25 rw_25_48 (tx_3 hB) (by decide) tg_1 ?_
        refine tz_put hk_25 hB rw_25_49 (by decide) tp_6 ?_
        refine zr_return (a := 0) hk_25 rw_25_50 ?_
        rw [rdR, if_pos (by omega)]
        exact ⟨rfl, m, g, pl, _, _, w, pr, ow, rfl, Or.inl ⟨1, y, rfl, by omega, by omega, rfl, by omega⟩⟩
  | succ k ih =>
    intro y m g pl w pr ow hyk hT
    obtain ⟨e, he⟩ : ∃ e, (t y).toInt = e := ⟨_, rfl⟩
    have hte : t y = iv e := by rw [← he]; exact iv_of _
    have her : inR e := by rw [← he]; exact inR_of _
    refine zr_cut hk_25 rw_25_14 ?_
    refine zr_iload hk_25 rw_25_15 rfl ?_
    refine zr_aload hk_25 rw_25_16 rfl ?_
    refine zr_getfield hk_25 rw_25_17 (tx_3 hB) (by decide) tg_1 ?_
    refine zi_icmp_ge hk_25 rw_25_18 (by unfold inR; omega) (by unfold inR; omega) (fun h18 => by omega) (fun h18 => ?_)
    refine zr_aload hk_25 rw_25_19 rfl ?_
    refine zr_aload hk_25 rw_25_20 rfl ?_
    refine zr_aload hk_25 rw_25_21 rfl ?_
    refine zr_getfield hk_25 rw_25_22 (tx_3 hB) (by decide) tg_0 ?_
    refine zr_iload hk_25 rw_25_23 rfl ?_
    refine mz_aldE hk_25 ((tx_o hB (by decide) (by decide) (by decide) (by decide)).trans h4) rw_25_24 y rfl (by omega) (by decide) hte ?_
    refine zr_virtual (L := 2) (n := 1) (as := [.int (iv e)]) (r := [.ref 3]) hk_25 rw_25_25 (by decide) (by decide) ⟨rfl, rfl, rfl, rfl⟩ (tx_3 hB) (by decide) rfl rfl (Nat.le_of_ble_eq_true rfl) (Nat.le_of_ble_eq_true rfl) (cb_ok d hB hT her) ?_
    rintro w' ph' ⟨m', g', pl', w2, pr2, ow2, rfl, hw⟩
    rcases hw with ⟨q, hR, hq, rfl⟩ | ⟨hR, rfl⟩
    · refine tz_put hk_25 hB rw_25_26 (by decide) tp_5 ?_
      refine zr_aload hk_25 rw_25_27 rfl ?_
      refine zr_getfield hk_25 rw_25_28 (tx_3 hB) (by decide) tg_5 ?_
      refine zi_const hk_25 rw_25_29 (c := -9) rfl ?_
      refine zi_icmp_eq hk_25 rw_25_30 (by unfold inR; omega) (by unfold inR; omega) (fun h30 => by omega) (fun h30 => ?_)
      refine zr_aload hk_25 rw_25_31 rfl ?_
      refine zr_iload hk_25 rw_25_32 rfl ?_
      refine tz_put hk_25 hB rw_25_33 (by decide) tp_6 ?_
      refine zr_return (a := 0) hk_25 rw_25_34 ?_
      rw [rdR_out he hR]
      exact ⟨rfl, m', g', pl', _, _, w2, pr2, ow2, rfl, Or.inl ⟨q, y, rfl, hq, by omega, rfl, rfl⟩⟩
    · refine tz_put hk_25 hB rw_25_26 (by decide) tp_5 ?_
      refine zr_aload hk_25 rw_25_27 rfl ?_
      refine zr_getfield hk_25 rw_25_28 (tx_3 hB) (by decide) tg_5 ?_
      refine zi_const hk_25 rw_25_29 (c := -9) rfl ?_
      refine zi_icmp_eq hk_25 rw_25_30 (by unfold inR; omega) (by unfold inR; omega) (fun h30 => ?_) (fun h30 => by omega)
      refine zi_inc hk_25 rw_25_35 rfl rfl inc_1 (lv' := [some (.ref 3), some (.int (iv ((y : Int) + 1)))]) rfl ?_
      refine zr_goto hk_25 rw_25_36 ?_
      rw [rdR_in he hR]
      exact ih (y + 1) m' g' pl' w2 pr2 ow2 (by omega) (rdS_TI hT hR)
theorem cread_ok (d : Nat) (hB : 87 ≤ B.length) {t : Nat → Int32} {m0 g0 pl0 : Int} (h4 : B[4]? = some (.inl (60, t))) (hN : N ≤ 60) : ZC (d + 2) 25 [.ref 3] (tx B N m0 kd fp g0 pl0 w pr ow) (fun v ph' => v = none ∧ RCPost B N (rdR t N 0 0 0 0) ph') := by
  refine ZC.of (lv := [some (.ref 3)]) hk_25 (fun i v hv => ?_) ?_
  · match i, hv with
    | 0, hv => cases hv; rfl
    | i + 1, hv => simp at hv
  refine zr_aload hk_25 rw_25_0 rfl ?_
  refine zi_const hk_25 rw_25_1 (c := 0) rfl ?_
  refine tz_put hk_25 hB rw_25_2 (by decide) tp_4 ?_
  refine zr_aload hk_25 rw_25_3 rfl ?_
  refine zi_const hk_25 rw_25_4 (c := 0) rfl ?_
  refine tz_put hk_25 hB rw_25_5 (by decide) tp_8 ?_
  refine zr_aload hk_25 rw_25_6 rfl ?_
  refine zi_const hk_25 rw_25_7 (c := 0) rfl ?_
  refine tz_put hk_25 hB rw_25_8 (by decide) tp_9 ?_
  refine zr_aload hk_25 rw_25_9 rfl ?_
  refine zi_const hk_25 rw_25_10 (c := -9) rfl ?_
  refine tz_put hk_25 hB rw_25_11 (by decide) tp_5 ?_
  refine zi_const hk_25 rw_25_12 (c := 0) rfl ?_
  refine zi_istore hk_25 rw_25_13 rfl (lv' := [some (.ref 3), some (.int (iv (0)))]) rfl ?_
  exact crd_loop d hB h4 hN N 0 0 0 0 w pr ow (by omega) ⟨by omega, by omega, by omega, by omega, by omega, by omega⟩
end RY
def LdI (S0 : Nat) (p z : Nat → Int32) (fs : List Value) (w pr : Nat → Int32) (ph : PH) : Prop := WT ph ∧ GI S0 0 p z ph ∧ ph[3]? = some (.inr (.inr (1, fs))) ∧ ph[5]? = some (.inl (10, w)) ∧ ph[6]? = some (.inl (10, pr))
section RZ
variable {S0 T N m g pl : Nat} {kd fp : Int} {p z w pr : Nat → Int32} {fs : List Value} {ph ph' : PH}
theorem LdI.step (h : LdI S0 p z fs w pr ph) {mk : Nat} (W : WT ph') (I : GI S0 0 p z ph') (F : Fr mk ph ph') (b3 : Nat.testBit mk 3 = false) (b5 : Nat.testBit mk 5 = false) (b6 : Nat.testBit mk 6 = false) : LdI S0 p z fs w pr ph' := ⟨W, I, F.at h.2.2.1 b3, F.at h.2.2.2.1 b5, F.at h.2.2.2.2 b6⟩
theorem GI.c2 (h : GI S0 0 p z ph) : ∃ x, ph[2]? = some (.inr (.inr (0, [.ref 3, .ref 8, .ref 10, x]))) := by
  obtain ⟨⟨tr, f, s, hC⟩, -⟩ := h
  exact ⟨_, hC.1⟩
theorem ty_5 : tyT[5]? = some (.inl (10, [], 0, 0)) := rfl
theorem ty_6 : tyT[6]? = some (.inl (10, [], 0, 0)) := rfl
theorem ty_7 : tyT[7]? = some (.inl (4, [], 0, 0)) := rfl
theorem WT.c10 (h : WT ph) (hB : 87 ≤ ph.length) : ∃ fs, ph[10]? = some (.inr (.inr (3, fs))) := by
  obtain ⟨c, hc, fs, rfl, -⟩ := h.get (by omega) (by omega) (show psi 10 = 10 from rfl) ty_10
  exact ⟨fs, hc⟩
theorem WT.c8 (h : WT ph) (hB : 87 ≤ ph.length) : ∃ fs, ph[8]? = some (.inr (.inr (2, fs))) := by
  obtain ⟨c, hc, fs, rfl, -⟩ := h.get (by omega) (by omega) (show psi 8 = 8 from rfl) ty_8
  exact ⟨fs, hc⟩
theorem int_of2 {len a b a' b' : Nat} {v : Option Value} (h : ∃ q ∈ ([some (0, a, b), some (0, a', b')] : List (Option FT)), fitO len q v) : ∃ x : Int32, v = some (.int x) := by
  obtain ⟨q, hq, h⟩ := h
  rcases List.mem_cons.mp hq with rfl | hq
  · cases v with
    | none => exact h.elim
    | some y =>
      obtain ⟨z, rfl, -⟩ := h
      exact ⟨z, rfl⟩
  · cases List.mem_singleton.mp hq
    cases v with
    | none => exact h.elim
    | some y =>
      obtain ⟨z, rfl, -⟩ := h
      exact ⟨z, rfl⟩
theorem ct_25 : ctT[25]? = some (some ([(2, 3, 0)], [none], 232, 2)) := rfl
theorem ct_39 : ctT[39]? = some (some ([(2, 10, 0), full32, full32], [some (0, 2147483648, 2147483657), some (0, 2147483639, 2147483639)], 1836032, 3)) := rfl
theorem cld_loop (hP : PageOK T p) (hm : m ≤ 10) : ∀ (n i : Nat) (ph : PH), i + n = m → 1 ≤ i → LdI S0 p z (tfs N m kd fp g pl) w pr ph → ZR 11 24 29 [some (.ref 2), some (.int (iv (i : Int)))] [] ph (fun v ph' => v = some (.int (iv (m : Int))) ∧ LdI S0 p z (tfs N m kd fp g pl) w pr ph') := by
  intro n
  induction n with
  | zero =>
    intro i ph hin hi1 hh
    have hl := hh.2.1.len
    obtain ⟨y2, c2⟩ := hh.2.1.c2
    refine zr_cut hk_24 rw_24_29 ?_
    refine zr_iload hk_24 rw_24_30 rfl ?_
    refine zr_aload hk_24 rw_24_31 rfl ?_
    refine zr_getfield hk_24 rw_24_32 c2 (by decide) rfl ?_
    refine zr_getfield hk_24 rw_24_33 hh.2.2.1 (by decide) tg_4 ?_
    refine zi_icmp_ge hk_24 rw_24_34 (by unfold inR; omega) (by unfold inR; omega) (fun hge => ?_) (fun hlt => by omega)
    refine zr_aload (j := 54) hk_24 rw_24_54 rfl ?_
    refine zr_getfield hk_24 rw_24_55 c2 (by decide) rfl ?_
    obtain ⟨f10, c10⟩ := hh.1.c10 hl
    refine zr_virtual (L := 4) (n := 0) (as := []) (r := []) hk_24 rw_24_56 (by decide) (by decide) ⟨rfl, rfl, rfl, rfl⟩ c10 (by decide) rfl rfl (by decide) (Nat.le_of_ble_eq_true rfl) (zc_ct (ct_full hP 7) ct_16 (by show 3 < 7; omega) (by show 3 ≤ 10; omega) hh.1 hh.2.1 ⟨fit_ref (by decide) (by omega) (by decide), trivial⟩) ?_
    rintro w1 ph1 ⟨W1, I1, F1, v1⟩
    replace hh := hh.step W1 I1 F1 (by decide) (by decide) (by decide)
    have hl := hh.2.1.len
    obtain ⟨y2, c2⟩ := hh.2.1.c2
    obtain rfl := none_of v1
    refine zr_aload hk_24 rw_24_57 rfl ?_
    refine zr_getfield hk_24 rw_24_58 c2 (by decide) rfl ?_
    refine zr_getfield hk_24 rw_24_59 hh.2.2.1 (by decide) tg_4 ?_
    exact zr_ireturn hk_24 rw_24_60 ⟨rfl, hh⟩
  | succ n ih =>
    intro i ph hin hi1 hh
    have hl := hh.2.1.len
    obtain ⟨y2, c2⟩ := hh.2.1.c2
    refine zr_cut hk_24 rw_24_29 ?_
    refine zr_iload hk_24 rw_24_30 rfl ?_
    refine zr_aload hk_24 rw_24_31 rfl ?_
    refine zr_getfield hk_24 rw_24_32 c2 (by decide) rfl ?_
    refine zr_getfield hk_24 rw_24_33 hh.2.2.1 (by decide) tg_4 ?_
    refine zi_icmp_ge hk_24 rw_24_34 (by unfold inR; omega) (by unfold inR; omega) (fun hge => by omega) (fun hlt => ?_)
    refine zr_iload hk_24 rw_24_35 rfl ?_
    refine zi_const hk_24 rw_24_36 (c := 10) rfl ?_
    refine zi_icmp_ge hk_24 rw_24_37 (by unfold inR; omega) (by unfold inR; omega) (fun hge => by omega) (fun hl10 => ?_)
    refine zr_aload hk_24 rw_24_38 rfl ?_
    refine zr_getfield hk_24 rw_24_39 c2 (by decide) rfl ?_
    refine zr_aload hk_24 rw_24_40 rfl ?_
    refine zr_getfield hk_24 rw_24_41 c2 (by decide) rfl ?_
    refine zr_getfield hk_24 rw_24_42 hh.2.2.1 (by decide) tg_3 ?_
    refine zr_iload hk_24 rw_24_43 rfl ?_
    refine mz_ald hk_24 hh.2.2.2.2 rw_24_44 i rfl (by omega) (by decide) ?_
    refine zr_aload hk_24 rw_24_45 rfl ?_
    refine zr_getfield hk_24 rw_24_46 c2 (by decide) rfl ?_
    refine zr_getfield hk_24 rw_24_47 hh.2.2.1 (by decide) tg_2 ?_
    refine zr_iload hk_24 rw_24_48 rfl ?_
    refine mz_ald hk_24 hh.2.2.2.1 rw_24_49 i rfl (by omega) (by decide) ?_
    obtain ⟨f10, c10⟩ := hh.1.c10 hl
    refine zr_virtual (L := 4) (n := 2) (as := [.int (pr i), .int (w i)]) (r := []) hk_24 rw_24_50 (by decide) (by decide) ⟨rfl, rfl, rfl, rfl⟩ c10 (by decide) rfl rfl (by decide) (Nat.le_of_ble_eq_true rfl) (zc_ct (ct_full hP 7) ct_39 (by show 3 < 7; omega) (by show 3 ≤ 10; omega) hh.1 hh.2.1 ⟨fit_ref (by decide) (by omega) (by decide), fit_full _ _, fit_full _ _, trivial⟩) ?_
    rintro w1 ph1 ⟨W1, I1, F1, v1⟩
    replace hh := hh.step W1 I1 F1 (by decide) (by decide) (by decide)
    have hl := hh.2.1.len
    obtain ⟨y2, c2⟩ := hh.2.1.c2
    obtain ⟨x1, rfl⟩ := int_of2 v1
    refine zr_pop hk_24 rw_24_51 rfl ?_
    refine zi_inc hk_24 rw_24_52 rfl rfl inc_1 (lv' := [some (.ref 2), some (.int (iv ((i : Int) + 1)))]) rfl ?_
    refine zr_goto hk_24 rw_24_53 ?_
    exact ih (i + 1) ph1 (by omega) (by omega) hh
theorem zc_tx {d k : Nat} {as : List Value} {N m kd fp g pl : Int} {w pr ow : Nat → Int32} {P : Option Value → PH → Prop} (heq : ph = tx ph N m kd fp g pl w pr ow) (hz : ZC d k as (tx ph N m kd fp g pl w pr ow) P) : ZC d k as ph P := by
  rw [← heq] at hz
  exact hz
theorem fs_eq {v0 v1 v2 v3 v4 v5 v6 v7 v8 v9 : Value} (hl : fs.length = 10) (h0 : fs[0]? = some v0) (h1 : fs[1]? = some v1) (h2 : fs[2]? = some v2) (h3 : fs[3]? = some v3) (h4 : fs[4]? = some v4) (h5 : fs[5]? = some v5) (h6 : fs[6]? = some v6) (h7 : fs[7]? = some v7) (h8 : fs[8]? = some v8) (h9 : fs[9]? = some v9) : fs = [v0, v1, v2, v3, v4, v5, v6, v7, v8, v9] := by
  refine List.ext_getElem? (fun i => ?_)
  match i with
  | 0 => exact h0
  | 1 => exact h1
  | 2 => exact h2
  | 3 => exact h3
  | 4 => exact h4
  | 5 => exact h5
  | 6 => exact h6
  | 7 => exact h7
  | 8 => exact h8
  | 9 => exact h9
  | i + 10 =>
    rw [List.getElem?_eq_none (by omega)]
    rfl
theorem tx_of (hW : WT ph) (hB : 87 ≤ ph.length) (h3 : ph[3]? = some (.inr (.inr (1, fs)))) (f0 : fs[0]? = some (.ref 4)) (f1 : fs[1]? = some (.int (iv (N : Int)))) : ∃ (m kd fp g pl : Int) (w pr ow : Nat → Int32), ph = tx ph N m kd fp g pl w pr ow := by
  obtain ⟨c, hc, fs', e0, hlen, hfs⟩ := hW.get (by omega) (by omega) (show psi 3 = 3 from rfl) ty_3
  rw [h3] at hc
  cases hc
  cases e0
  obtain ⟨x2, g2, r2, rfl, -, -, q2⟩ := hfs 2 _ rfl
  obtain rfl := psi_id q2 (by omega)
  obtain ⟨x3, g3, r3, rfl, -, -, q3⟩ := hfs 3 _ rfl
  obtain rfl := psi_id q3 (by omega)
  obtain ⟨x7, g7, r7, rfl, -, -, q7⟩ := hfs 7 _ rfl
  obtain rfl := psi_id q7 (by omega)
  obtain ⟨x4, g4, r4, rfl, -⟩ := hfs 4 _ rfl
  obtain ⟨x5, g5, r5, rfl, -⟩ := hfs 5 _ rfl
  obtain ⟨x6, g6, r6, rfl, -⟩ := hfs 6 _ rfl
  obtain ⟨x8, g8, r8, rfl, -⟩ := hfs 8 _ rfl
  obtain ⟨x9, g9, r9, rfl, -⟩ := hfs 9 _ rfl
  obtain ⟨c5, k5, w5, rfl, -⟩ := hW.get (by omega) (by omega) (show psi 5 = 5 from rfl) ty_5
  obtain ⟨c6, k6, w6, rfl, -⟩ := hW.get (by omega) (by omega) (show psi 6 = 6 from rfl) ty_6
  obtain ⟨c7, k7, w7, rfl, -⟩ := hW.get (by omega) (by omega) (show psi 7 = 7 from rfl) ty_7
  have e := fs_eq hlen f0 f1 g2 g3 g4 g5 g6 g7 g8 g9
  rw [iv_of r4, iv_of r5, iv_of r6, iv_of r8, iv_of r9] at e
  refine ⟨r4.toInt, r5.toInt, r6.toInt, r8.toInt, r9.toInt, w5, w6, w7, ?_⟩
  unfold tx tfs
  rw [← e, set_same h3, set_same k5, set_same k6, set_same k7]
theorem rdR_eq {f t : Nat → Int32} (h : ∀ j, j < 60 → f j = t j) : ∀ (k y m g pl : Nat), y + k ≤ 60 → rdR f k y m g pl = rdR t k y m g pl
  | 0, _, _, _, _, _ => rfl
  | k + 1, y, m, g, pl, hy => by
    rw [rdR, rdR, h y (by omega)]
    cases hq : rdS (t y).toInt m g pl with
    | inl q => exact rdR_eq h k (y + 1) _ _ _ (by omega)
    | inr q => rfl
theorem LVx.kds {S0 T N : Nat} {c0 : PE} {ph : PH} {p z t : Nat → Int32} {a : Nat → Nat → Int32} {fs : List Value} (h : LVx false S0 c0 T ph p a z N t fs) (h5 : fs[5]? = some (.int (z 2))) : LVx true S0 c0 T ph p a z N t fs := by
  obtain ⟨h1, h2, h3, h4, h5', h6, h7, h8, h9, h10, h11, h12, h13⟩ := h
  exact ⟨h1, h2, h3, h4, h5', h6, h7, h8, h9, h10, h11, h12, fun _ => h5⟩
theorem cload_ok {kd : Bool} {c0 : PE} {t : Nat → Int32} {a : Nat → Nat → Int32} (h : LVx kd S0 c0 T ph p a z N t fs) : ZC 11 24 [.ref 2] ph (fun v ph' => ∃ fs', ph'[3]? = some (.inr (.inr (1, fs'))) ∧ ((∃ q pos : Nat, rdR t N 0 0 0 0 = .inr (q, pos) ∧ v = some (.int (iv (-10 - (pos : Int)))) ∧ fs'[5]? = some (.int (iv (q : Int)))) ∨ (∃ m : Nat, rdR t N 0 0 0 0 = .inl m ∧ v = some (.int (iv (m : Int))) ∧ fs'[5]? = some (.int (iv (-9)))))) := by
  have hP := h.page
  have hB := h.len
  obtain ⟨h1, h2, h3, h4, h5, h6, h7, h8, h9, h10, h11, h12, h13⟩ := h
  obtain ⟨m0, kd0, fp0, g0, pl0, w0, pr0, ow0, htx⟩ := tx_of h1 hB h8 h9 h10
  obtain ⟨y2, c2⟩ := h2.c2
  refine ZC.of (lv := [some (.ref 2)]) hk_24 (fun i v hv => ?_) ?_
  · match i, hv with
    | 0, hv => cases hv; rfl
    | i + 1, hv => simp at hv
  refine zr_aload hk_24 rw_24_0 rfl ?_
  refine zr_getfield hk_24 rw_24_1 c2 (by decide) rfl ?_
  refine zr_virtual (L := 2) (n := 0) (as := []) (r := []) hk_24 rw_24_2 (by decide) (by decide) ⟨rfl, rfl, rfl, rfl⟩ h8 (by decide) rfl rfl (by decide) (Nat.le_of_ble_eq_true rfl) (ZC.and (zc_tx htx (cread_ok 8 hB h11 h6)) (zc_ct (ct_full hP 7) ct_25 (by show 2 < 7; omega) (by show 2 ≤ 10; omega) h1 h2 ⟨fit_ref (by decide) (by omega) (by decide), trivial⟩)) ?_
  rintro w1 ph1 ⟨⟨rfl, m, g, pl, kd, fp, w', pr', ow', hph, hR⟩, W1, I1, F1, -⟩
  have hh : LdI S0 p z (tfs N m kd fp g pl) w' pr' ph1 := ⟨W1, I1, by rw [hph]; exact tx_3 hB, by rw [hph]; exact tx_5 hB, by rw [hph]; exact tx_6 hB⟩
  clear hph
  have hl := hh.2.1.len
  obtain ⟨y2, c2⟩ := hh.2.1.c2
  refine zr_aload hk_24 rw_24_3 rfl ?_
  refine zr_getfield hk_24 rw_24_4 c2 (by decide) rfl ?_
  refine zr_getfield hk_24 rw_24_5 hh.2.2.1 (by decide) tg_5 ?_
  refine zi_const hk_24 rw_24_6 (c := -9) rfl ?_
  rcases hR with ⟨q, pos, hR, hq, hpos, rfl, rfl⟩ | ⟨hR, rfl, hm1, hm⟩
  · refine zi_icmp_eq hk_24 rw_24_7 (by unfold inR; omega) (by unfold inR; omega) (fun h => by omega) (fun _ => ?_)
    refine zi_const hk_24 rw_24_8 (c := -10) rfl ?_
    refine zr_aload hk_24 rw_24_9 rfl ?_
    refine zr_getfield hk_24 rw_24_10 c2 (by decide) rfl ?_
    refine zr_getfield hk_24 rw_24_11 hh.2.2.1 (by decide) tg_6 ?_
    refine zi_sub hk_24 rw_24_12 ?_
    exact zr_ireturn hk_24 rw_24_13 ⟨_, hh.2.2.1, Or.inl ⟨q, pos, hR, rfl, tg_5⟩⟩
  · refine zi_icmp_eq hk_24 rw_24_7 (by unfold inR; omega) (by unfold inR; omega) (fun _ => ?_) (fun h => absurd rfl h)
    refine zr_aload (j := 14) hk_24 rw_24_14 rfl ?_
    refine zr_getfield hk_24 rw_24_15 c2 (by decide) rfl ?_
    refine zr_aload hk_24 rw_24_16 rfl ?_
    refine zr_getfield hk_24 rw_24_17 c2 (by decide) rfl ?_
    obtain ⟨f8, c8⟩ := hh.1.c8 hl
    refine zr_virtual (L := 2) (n := 1) (as := [.ref 10]) (r := []) hk_24 rw_24_18 (by decide) (by decide) ⟨rfl, rfl, rfl, rfl⟩ c8 (by decide) rfl rfl (by decide) (Nat.le_of_ble_eq_true rfl) (zc_ct (ct_full hP 7) ct_30 (by show 5 < 7; omega) (by show 5 ≤ 10; omega) hh.1 hh.2.1 ⟨fit_ref (by decide) (by omega) (by decide), fit_ref (by decide) (by omega) (by decide), trivial⟩) ?_
    rintro w1 ph1 ⟨W1, I1, F1, v1⟩
    replace hh := hh.step W1 I1 F1 (by decide) (by decide) (by decide)
    have hl := hh.2.1.len
    obtain ⟨y2, c2⟩ := hh.2.1.c2
    obtain rfl := none_of v1
    refine zr_aload hk_24 rw_24_19 rfl ?_
    refine zr_getfield hk_24 rw_24_20 c2 (by decide) rfl ?_
    refine zr_aload hk_24 rw_24_21 rfl ?_
    refine zr_getfield hk_24 rw_24_22 c2 (by decide) rfl ?_
    refine zr_getfield hk_24 rw_24_23 hh.2.2.1 (by decide) tg_2 ?_
    refine zi_const hk_24 rw_24_24 (c := 0) rfl ?_
    refine mz_ald hk_24 hh.2.2.2.1 rw_24_25 0 rfl (by decide) (by decide) ?_
    obtain ⟨f10, c10⟩ := hh.1.c10 hl
    refine zr_virtual (L := 3) (n := 1) (as := [.int (w' 0)]) (r := []) hk_24 rw_24_26 (by decide) (by decide) ⟨rfl, rfl, rfl, rfl⟩ c10 (by decide) rfl rfl (by decide) (Nat.le_of_ble_eq_true rfl) (zc_ct (ct_full hP 7) ct_11 (by show 2 < 7; omega) (by show 2 ≤ 10; omega) hh.1 hh.2.1 ⟨fit_ref (by decide) (by omega) (by decide), fit_full _ _, trivial⟩) ?_
    rintro w1 ph1 ⟨W1, I1, F1, v1⟩
    replace hh := hh.step W1 I1 F1 (by decide) (by decide) (by decide)
    have hl := hh.2.1.len
    obtain ⟨y2, c2⟩ := hh.2.1.c2
    obtain rfl := none_of v1
    refine zi_const hk_24 rw_24_27 (c := 1) rfl ?_
    refine zi_istore hk_24 rw_24_28 rfl (lv' := [some (.ref 2), some (.int (iv ((1 : Nat) : Int)))]) rfl ?_
    refine zr_mono ?_ (cld_loop hP hm (m - 1) 1 _ (by omega) (by omega) hh)
    rintro v ph' ⟨rfl, hh'⟩
    exact ⟨_, hh'.2.2.1, Or.inr ⟨m, hR, rfl, tg_5⟩⟩
end RZ

/-! ===== by program (wip/gen/m68.py): penalties, estimates, growth ===== -/
theorem kc153_eq : codeOf 153 = kc153 := rfl
theorem hk_153 : 153 < 186 := by decide
theorem rw_153_0 : (codeOf 153)[0]? = some (0, .aload 0, 0, 0, 3, 1, []) := by rw [kc153_eq]; rfl
theorem rw_153_1 : (codeOf 153)[1]? = some (1, .iload 1, 1, 0, 0, 1, []) := by rw [kc153_eq]; rfl
theorem rw_153_2 : (codeOf 153)[2]? = some (2, .iconst 6, 2147483654, 0, 0, 2, []) := by rw [kc153_eq]; rfl
theorem rw_153_3 : (codeOf 153)[3]? = some (4, .iconst 2, 2147483650, 0, 0, 1, []) := by rw [kc153_eq]; rfl
theorem rw_153_4 : (codeOf 153)[4]? = some (5, .aload 0, 0, 0, 3, 1, []) := by rw [kc153_eq]; rfl
theorem rw_153_5 : (codeOf 153)[5]? = some (6, .iload 1, 1, 0, 0, 1, []) := by rw [kc153_eq]; rfl
theorem rw_153_6 : (codeOf 153)[6]? = some (7, .iconst 5, 2147483653, 0, 0, 1, []) := by rw [kc153_eq]; rfl
theorem rw_153_7 : (codeOf 153)[7]? = some (8, .invokevirtual 62, 130, 0, 0, 3, []) := by rw [kc153_eq]; rfl
theorem rw_153_8 : (codeOf 153)[8]? = some (11, .iconst 32, 2147483680, 0, 0, 2, []) := by rw [kc153_eq]; rfl
theorem rw_153_9 : (codeOf 153)[9]? = some (13, .idiv, 0, 0, 0, 1, []) := by rw [kc153_eq]; rfl
theorem rw_153_10 : (codeOf 153)[10]? = some (14, .invokestatic 99, 138, 0, 0, 3, []) := by rw [kc153_eq]; rfl
theorem rw_153_11 : (codeOf 153)[11]? = some (17, .invokevirtual 66, 119, 0, 0, 3, []) := by rw [kc153_eq]; rfl
theorem rw_153_12 : (codeOf 153)[12]? = some (20, .aload 0, 0, 0, 3, 1, []) := by rw [kc153_eq]; rfl
theorem rw_153_13 : (codeOf 153)[13]? = some (21, .iload 1, 1, 0, 0, 1, []) := by rw [kc153_eq]; rfl
theorem rw_153_14 : (codeOf 153)[14]? = some (22, .iload 2, 2, 0, 0, 1, []) := by rw [kc153_eq]; rfl
theorem rw_153_15 : (codeOf 153)[15]? = some (23, .invokevirtual 112, 154, 0, 0, 3, []) := by rw [kc153_eq]; rfl
theorem rw_153_16 : (codeOf 153)[16]? = some (26, .aload 0, 0, 0, 3, 1, []) := by rw [kc153_eq]; rfl
theorem rw_153_17 : (codeOf 153)[17]? = some (27, .iload 1, 1, 0, 0, 1, []) := by rw [kc153_eq]; rfl
theorem rw_153_18 : (codeOf 153)[18]? = some (28, .invokevirtual 115, 155, 0, 0, 3, []) := by rw [kc153_eq]; rfl
theorem rw_153_19 : (codeOf 153)[19]? = some (31, .istore 4, 4, 0, 0, 2, []) := by rw [kc153_eq]; rfl
theorem rw_153_20 : (codeOf 153)[20]? = some (33, .iconst 0, 2147483648, 0, 0, 1, []) := by rw [kc153_eq]; rfl
theorem rw_153_21 : (codeOf 153)[21]? = some (34, .istore 5, 5, 0, 0, 2, []) := by rw [kc153_eq]; rfl
theorem rw_153_22 : (codeOf 153)[22]? = some (36, .monitorexit, 1224, 0, 0, 0, []) := by rw [kc153_eq]; rfl
theorem rw_153_23 : (codeOf 153)[23]? = some (36, .iload 5, 5, 0, 0, 2, []) := by rw [kc153_eq]; rfl
theorem rw_153_24 : (codeOf 153)[24]? = some (38, .iconst 10, 2147483658, 0, 0, 2, []) := by rw [kc153_eq]; rfl
theorem rw_153_25 : (codeOf 153)[25]? = some (40, .if_icmp .ge 27, 67, 39, 0, 3, []) := by rw [kc153_eq]; rfl
theorem rw_153_26 : (codeOf 153)[26]? = some (43, .iload 4, 4, 0, 0, 2, []) := by rw [kc153_eq]; rfl
theorem rw_153_27 : (codeOf 153)[27]? = some (45, .iload 5, 5, 0, 0, 2, []) := by rw [kc153_eq]; rfl
theorem rw_153_28 : (codeOf 153)[28]? = some (47, .ishr, 0, 0, 0, 1, []) := by rw [kc153_eq]; rfl
theorem rw_153_29 : (codeOf 153)[29]? = some (48, .iconst 1, 2147483649, 0, 0, 1, []) := by rw [kc153_eq]; rfl
theorem rw_153_30 : (codeOf 153)[30]? = some (49, .iand, 0, 0, 0, 1, []) := by rw [kc153_eq]; rfl
theorem rw_153_31 : (codeOf 153)[31]? = some (50, .iconst 1, 2147483649, 0, 0, 1, []) := by rw [kc153_eq]; rfl
theorem rw_153_32 : (codeOf 153)[32]? = some (51, .if_icmp .ne 10, 61, 37, 0, 3, []) := by rw [kc153_eq]; rfl
theorem rw_153_33 : (codeOf 153)[33]? = some (54, .aload 0, 0, 0, 3, 1, []) := by rw [kc153_eq]; rfl
theorem rw_153_34 : (codeOf 153)[34]? = some (55, .iload 5, 5, 0, 0, 2, []) := by rw [kc153_eq]; rfl
theorem rw_153_35 : (codeOf 153)[35]? = some (57, .iload 3, 3, 0, 0, 1, []) := by rw [kc153_eq]; rfl
theorem rw_153_36 : (codeOf 153)[36]? = some (58, .invokevirtual 112, 154, 0, 0, 3, []) := by rw [kc153_eq]; rfl
theorem rw_153_37 : (codeOf 153)[37]? = some (61, .iinc 5 1, 5, 1, 0, 3, []) := by rw [kc153_eq]; rfl
theorem rw_153_38 : (codeOf 153)[38]? = some (64, .goto (-28), 36, 22, 0, 3, []) := by rw [kc153_eq]; rfl
theorem rw_153_39 : (codeOf 153)[39]? = some (67, .aload 0, 0, 0, 3, 1, []) := by rw [kc153_eq]; rfl
theorem rw_153_40 : (codeOf 153)[40]? = some (68, .iload 1, 1, 0, 0, 1, []) := by rw [kc153_eq]; rfl
theorem rw_153_41 : (codeOf 153)[41]? = some (69, .iconst 13, 2147483661, 0, 0, 2, []) := by rw [kc153_eq]; rfl
theorem rw_153_42 : (codeOf 153)[42]? = some (71, .aload 0, 0, 0, 3, 1, []) := by rw [kc153_eq]; rfl
theorem rw_153_43 : (codeOf 153)[43]? = some (72, .iload 1, 1, 0, 0, 1, []) := by rw [kc153_eq]; rfl
theorem rw_153_44 : (codeOf 153)[44]? = some (73, .iconst 14, 2147483662, 0, 0, 2, []) := by rw [kc153_eq]; rfl
theorem rw_153_45 : (codeOf 153)[45]? = some (75, .invokevirtual 62, 130, 0, 0, 3, []) := by rw [kc153_eq]; rfl
theorem rw_153_46 : (codeOf 153)[46]? = some (78, .invokevirtual 66, 119, 0, 0, 3, []) := by rw [kc153_eq]; rfl
theorem rw_153_47 : (codeOf 153)[47]? = some (81, .return_, 0, 0, 0, 1, []) := by rw [kc153_eq]; rfl
theorem kc154_eq : codeOf 154 = kc154 := rfl
theorem hk_154 : 154 < 186 := by decide
theorem rw_154_0 : (codeOf 154)[0]? = some (0, .aload 0, 0, 0, 3, 1, []) := by rw [kc154_eq]; rfl
theorem rw_154_1 : (codeOf 154)[1]? = some (1, .iload 1, 1, 0, 0, 1, []) := by rw [kc154_eq]; rfl
theorem rw_154_2 : (codeOf 154)[2]? = some (2, .iconst 12, 2147483660, 0, 0, 2, []) := by rw [kc154_eq]; rfl
theorem rw_154_3 : (codeOf 154)[3]? = some (4, .iconst 12, 2147483660, 0, 0, 2, []) := by rw [kc154_eq]; rfl
theorem rw_154_4 : (codeOf 154)[4]? = some (6, .aload 0, 0, 0, 3, 1, []) := by rw [kc154_eq]; rfl
theorem rw_154_5 : (codeOf 154)[5]? = some (7, .iload 1, 1, 0, 0, 1, []) := by rw [kc154_eq]; rfl
theorem rw_154_6 : (codeOf 154)[6]? = some (8, .iconst 12, 2147483660, 0, 0, 2, []) := by rw [kc154_eq]; rfl
theorem rw_154_7 : (codeOf 154)[7]? = some (10, .invokevirtual 62, 130, 0, 0, 3, []) := by rw [kc154_eq]; rfl
theorem rw_154_8 : (codeOf 154)[8]? = some (13, .iload 2, 2, 0, 0, 1, []) := by rw [kc154_eq]; rfl
theorem rw_154_9 : (codeOf 154)[9]? = some (14, .iadd, 0, 0, 0, 1, []) := by rw [kc154_eq]; rfl
theorem rw_154_10 : (codeOf 154)[10]? = some (15, .invokestatic 96, 137, 0, 0, 3, []) := by rw [kc154_eq]; rfl
theorem rw_154_11 : (codeOf 154)[11]? = some (18, .invokevirtual 66, 119, 0, 0, 3, []) := by rw [kc154_eq]; rfl
theorem rw_154_12 : (codeOf 154)[12]? = some (21, .return_, 0, 0, 0, 1, []) := by rw [kc154_eq]; rfl
theorem kc155_eq : codeOf 155 = kc155 := rfl
theorem hk_155 : 155 < 186 := by decide
theorem rw_155_0 : (codeOf 155)[0]? = some (0, .iconst 0, 2147483648, 0, 0, 1, []) := by rw [kc155_eq]; rfl
theorem rw_155_1 : (codeOf 155)[1]? = some (1, .istore 2, 2, 0, 0, 1, []) := by rw [kc155_eq]; rfl
theorem rw_155_2 : (codeOf 155)[2]? = some (2, .aload 0, 0, 0, 3, 1, []) := by rw [kc155_eq]; rfl
theorem rw_155_3 : (codeOf 155)[3]? = some (3, .iload 1, 1, 0, 0, 1, []) := by rw [kc155_eq]; rfl
theorem rw_155_4 : (codeOf 155)[4]? = some (4, .iconst 2, 2147483650, 0, 0, 1, []) := by rw [kc155_eq]; rfl
theorem rw_155_5 : (codeOf 155)[5]? = some (5, .invokevirtual 62, 130, 0, 0, 3, []) := by rw [kc155_eq]; rfl
theorem rw_155_6 : (codeOf 155)[6]? = some (8, .istore 3, 3, 0, 0, 1, []) := by rw [kc155_eq]; rfl
theorem rw_155_7 : (codeOf 155)[7]? = some (9, .iconst 0, 2147483648, 0, 0, 1, []) := by rw [kc155_eq]; rfl
theorem rw_155_8 : (codeOf 155)[8]? = some (10, .istore 4, 4, 0, 0, 2, []) := by rw [kc155_eq]; rfl
theorem rw_155_9 : (codeOf 155)[9]? = some (12, .monitorexit, 1240, 0, 0, 0, []) := by rw [kc155_eq]; rfl
theorem rw_155_10 : (codeOf 155)[10]? = some (12, .iload 4, 4, 0, 0, 2, []) := by rw [kc155_eq]; rfl
theorem rw_155_11 : (codeOf 155)[11]? = some (14, .iconst 10, 2147483658, 0, 0, 2, []) := by rw [kc155_eq]; rfl
theorem rw_155_12 : (codeOf 155)[12]? = some (16, .if_icmp .ge 81, 97, 54, 0, 3, []) := by rw [kc155_eq]; rfl
theorem rw_155_13 : (codeOf 155)[13]? = some (19, .aload 0, 0, 0, 3, 1, []) := by rw [kc155_eq]; rfl
theorem rw_155_14 : (codeOf 155)[14]? = some (20, .iload 4, 4, 0, 0, 2, []) := by rw [kc155_eq]; rfl
theorem rw_155_15 : (codeOf 155)[15]? = some (22, .invokevirtual 92, 133, 0, 0, 3, []) := by rw [kc155_eq]; rfl
theorem rw_155_16 : (codeOf 155)[16]? = some (25, .ifCond .eq 47, 72, 40, 0, 3, []) := by rw [kc155_eq]; rfl
theorem rw_155_17 : (codeOf 155)[17]? = some (28, .iload 4, 4, 0, 0, 2, []) := by rw [kc155_eq]; rfl
theorem rw_155_18 : (codeOf 155)[18]? = some (30, .iload 1, 1, 0, 0, 1, []) := by rw [kc155_eq]; rfl
theorem rw_155_19 : (codeOf 155)[19]? = some (31, .if_icmp .eq 41, 72, 40, 0, 3, []) := by rw [kc155_eq]; rfl
theorem rw_155_20 : (codeOf 155)[20]? = some (34, .iload 4, 4, 0, 0, 2, []) := by rw [kc155_eq]; rfl
theorem rw_155_21 : (codeOf 155)[21]? = some (36, .iload 3, 3, 0, 0, 1, []) := by rw [kc155_eq]; rfl
theorem rw_155_22 : (codeOf 155)[22]? = some (37, .if_icmp .eq 31, 68, 38, 0, 3, []) := by rw [kc155_eq]; rfl
theorem rw_155_23 : (codeOf 155)[23]? = some (40, .aload 0, 0, 0, 3, 1, []) := by rw [kc155_eq]; rfl
theorem rw_155_24 : (codeOf 155)[24]? = some (41, .iload 4, 4, 0, 0, 2, []) := by rw [kc155_eq]; rfl
theorem rw_155_25 : (codeOf 155)[25]? = some (43, .iconst 2, 2147483650, 0, 0, 1, []) := by rw [kc155_eq]; rfl
theorem rw_155_26 : (codeOf 155)[26]? = some (44, .invokevirtual 62, 130, 0, 0, 3, []) := by rw [kc155_eq]; rfl
theorem rw_155_27 : (codeOf 155)[27]? = some (47, .iload 1, 1, 0, 0, 1, []) := by rw [kc155_eq]; rfl
theorem rw_155_28 : (codeOf 155)[28]? = some (48, .if_icmp .eq 20, 68, 38, 0, 3, []) := by rw [kc155_eq]; rfl
theorem rw_155_29 : (codeOf 155)[29]? = some (51, .iload 3, 3, 0, 0, 1, []) := by rw [kc155_eq]; rfl
theorem rw_155_30 : (codeOf 155)[30]? = some (52, .iconst (-9), 2147483639, 0, 0, 2, []) := by rw [kc155_eq]; rfl
theorem rw_155_31 : (codeOf 155)[31]? = some (54, .if_icmp .eq 18, 72, 40, 0, 3, []) := by rw [kc155_eq]; rfl
theorem rw_155_32 : (codeOf 155)[32]? = some (57, .aload 0, 0, 0, 3, 1, []) := by rw [kc155_eq]; rfl
theorem rw_155_33 : (codeOf 155)[33]? = some (58, .iload 4, 4, 0, 0, 2, []) := by rw [kc155_eq]; rfl
theorem rw_155_34 : (codeOf 155)[34]? = some (60, .iconst 2, 2147483650, 0, 0, 1, []) := by rw [kc155_eq]; rfl
theorem rw_155_35 : (codeOf 155)[35]? = some (61, .invokevirtual 62, 130, 0, 0, 3, []) := by rw [kc155_eq]; rfl
theorem rw_155_36 : (codeOf 155)[36]? = some (64, .iload 3, 3, 0, 0, 1, []) := by rw [kc155_eq]; rfl
theorem rw_155_37 : (codeOf 155)[37]? = some (65, .if_icmp .ne 7, 72, 40, 0, 3, []) := by rw [kc155_eq]; rfl
theorem rw_155_38 : (codeOf 155)[38]? = some (68, .iconst 1, 2147483649, 0, 0, 1, []) := by rw [kc155_eq]; rfl
theorem rw_155_39 : (codeOf 155)[39]? = some (69, .goto 4, 73, 41, 0, 3, []) := by rw [kc155_eq]; rfl
theorem rw_155_40 : (codeOf 155)[40]? = some (72, .iconst 0, 2147483648, 0, 0, 1, []) := by rw [kc155_eq]; rfl
theorem rw_155_41 : (codeOf 155)[41]? = some (73, .istore 5, 5, 0, 0, 2, []) := by rw [kc155_eq]; rfl
theorem rw_155_42 : (codeOf 155)[42]? = some (75, .iload 2, 2, 0, 0, 1, []) := by rw [kc155_eq]; rfl
theorem rw_155_43 : (codeOf 155)[43]? = some (76, .iload 5, 5, 0, 0, 2, []) := by rw [kc155_eq]; rfl
theorem rw_155_44 : (codeOf 155)[44]? = some (78, .ifCond .eq 10, 88, 49, 0, 3, []) := by rw [kc155_eq]; rfl
theorem rw_155_45 : (codeOf 155)[45]? = some (81, .iconst 1, 2147483649, 0, 0, 1, []) := by rw [kc155_eq]; rfl
theorem rw_155_46 : (codeOf 155)[46]? = some (82, .iload 4, 4, 0, 0, 2, []) := by rw [kc155_eq]; rfl
theorem rw_155_47 : (codeOf 155)[47]? = some (84, .ishl, 0, 0, 0, 1, []) := by rw [kc155_eq]; rfl
theorem rw_155_48 : (codeOf 155)[48]? = some (85, .goto 4, 89, 50, 0, 3, []) := by rw [kc155_eq]; rfl
theorem rw_155_49 : (codeOf 155)[49]? = some (88, .iconst 0, 2147483648, 0, 0, 1, []) := by rw [kc155_eq]; rfl
theorem rw_155_50 : (codeOf 155)[50]? = some (89, .ior, 0, 0, 0, 1, []) := by rw [kc155_eq]; rfl
theorem rw_155_51 : (codeOf 155)[51]? = some (90, .istore 2, 2, 0, 0, 1, []) := by rw [kc155_eq]; rfl
theorem rw_155_52 : (codeOf 155)[52]? = some (91, .iinc 4 1, 4, 1, 0, 3, []) := by rw [kc155_eq]; rfl
theorem rw_155_53 : (codeOf 155)[53]? = some (94, .goto (-82), 12, 9, 0, 3, []) := by rw [kc155_eq]; rfl
theorem rw_155_54 : (codeOf 155)[54]? = some (97, .iload 2, 2, 0, 0, 1, []) := by rw [kc155_eq]; rfl
theorem rw_155_55 : (codeOf 155)[55]? = some (98, .ireturn, 1, 0, 0, 1, []) := by rw [kc155_eq]; rfl
theorem kc156_eq : codeOf 156 = kc156 := rfl
theorem hk_156 : 156 < 186 := by decide
theorem rw_156_0 : (codeOf 156)[0]? = some (0, .aload 0, 0, 0, 3, 1, []) := by rw [kc156_eq]; rfl
theorem rw_156_1 : (codeOf 156)[1]? = some (1, .iload 1, 1, 0, 0, 1, []) := by rw [kc156_eq]; rfl
theorem rw_156_2 : (codeOf 156)[2]? = some (2, .iconst 10, 2147483658, 0, 0, 2, []) := by rw [kc156_eq]; rfl
theorem rw_156_3 : (codeOf 156)[3]? = some (4, .invokevirtual 62, 130, 0, 0, 3, []) := by rw [kc156_eq]; rfl
theorem rw_156_4 : (codeOf 156)[4]? = some (7, .ifCond .ne 27, 34, 20, 0, 3, []) := by rw [kc156_eq]; rfl
theorem rw_156_5 : (codeOf 156)[5]? = some (10, .aload 0, 0, 0, 3, 1, []) := by rw [kc156_eq]; rfl
theorem rw_156_6 : (codeOf 156)[6]? = some (11, .iload 1, 1, 0, 0, 1, []) := by rw [kc156_eq]; rfl
theorem rw_156_7 : (codeOf 156)[7]? = some (12, .iconst 8, 2147483656, 0, 0, 2, []) := by rw [kc156_eq]; rfl
theorem rw_156_8 : (codeOf 156)[8]? = some (14, .iconst 8, 2147483656, 0, 0, 2, []) := by rw [kc156_eq]; rfl
theorem rw_156_9 : (codeOf 156)[9]? = some (16, .iload 2, 2, 0, 0, 1, []) := by rw [kc156_eq]; rfl
theorem rw_156_10 : (codeOf 156)[10]? = some (17, .imul, 0, 0, 0, 1, []) := by rw [kc156_eq]; rfl
theorem rw_156_11 : (codeOf 156)[11]? = some (18, .invokevirtual 66, 119, 0, 0, 3, []) := by rw [kc156_eq]; rfl
theorem rw_156_12 : (codeOf 156)[12]? = some (21, .aload 0, 0, 0, 3, 1, []) := by rw [kc156_eq]; rfl
theorem rw_156_13 : (codeOf 156)[13]? = some (22, .iload 1, 1, 0, 0, 1, []) := by rw [kc156_eq]; rfl
theorem rw_156_14 : (codeOf 156)[14]? = some (23, .iconst 9, 2147483657, 0, 0, 2, []) := by rw [kc156_eq]; rfl
theorem rw_156_15 : (codeOf 156)[15]? = some (25, .iconst 2, 2147483650, 0, 0, 1, []) := by rw [kc156_eq]; rfl
theorem rw_156_16 : (codeOf 156)[16]? = some (26, .iload 2, 2, 0, 0, 1, []) := by rw [kc156_eq]; rfl
theorem rw_156_17 : (codeOf 156)[17]? = some (27, .imul, 0, 0, 0, 1, []) := by rw [kc156_eq]; rfl
theorem rw_156_18 : (codeOf 156)[18]? = some (28, .invokevirtual 66, 119, 0, 0, 3, []) := by rw [kc156_eq]; rfl
theorem rw_156_19 : (codeOf 156)[19]? = some (31, .goto 67, 98, 61, 0, 3, []) := by rw [kc156_eq]; rfl
theorem rw_156_20 : (codeOf 156)[20]? = some (34, .iload 2, 2, 0, 0, 1, []) := by rw [kc156_eq]; rfl
theorem rw_156_21 : (codeOf 156)[21]? = some (35, .aload 0, 0, 0, 3, 1, []) := by rw [kc156_eq]; rfl
theorem rw_156_22 : (codeOf 156)[22]? = some (36, .iload 1, 1, 0, 0, 1, []) := by rw [kc156_eq]; rfl
theorem rw_156_23 : (codeOf 156)[23]? = some (37, .iconst 8, 2147483656, 0, 0, 2, []) := by rw [kc156_eq]; rfl
theorem rw_156_24 : (codeOf 156)[24]? = some (39, .invokevirtual 62, 130, 0, 0, 3, []) := by rw [kc156_eq]; rfl
theorem rw_156_25 : (codeOf 156)[25]? = some (42, .iconst 8, 2147483656, 0, 0, 2, []) := by rw [kc156_eq]; rfl
theorem rw_156_26 : (codeOf 156)[26]? = some (44, .idiv, 0, 0, 0, 1, []) := by rw [kc156_eq]; rfl
theorem rw_156_27 : (codeOf 156)[27]? = some (45, .isub, 0, 0, 0, 1, []) := by rw [kc156_eq]; rfl
theorem rw_156_28 : (codeOf 156)[28]? = some (46, .istore 3, 3, 0, 0, 1, []) := by rw [kc156_eq]; rfl
theorem rw_156_29 : (codeOf 156)[29]? = some (47, .aload 0, 0, 0, 3, 1, []) := by rw [kc156_eq]; rfl
theorem rw_156_30 : (codeOf 156)[30]? = some (48, .iload 1, 1, 0, 0, 1, []) := by rw [kc156_eq]; rfl
theorem rw_156_31 : (codeOf 156)[31]? = some (49, .iconst 8, 2147483656, 0, 0, 2, []) := by rw [kc156_eq]; rfl
theorem rw_156_32 : (codeOf 156)[32]? = some (51, .aload 0, 0, 0, 3, 1, []) := by rw [kc156_eq]; rfl
theorem rw_156_33 : (codeOf 156)[33]? = some (52, .iload 1, 1, 0, 0, 1, []) := by rw [kc156_eq]; rfl
theorem rw_156_34 : (codeOf 156)[34]? = some (53, .iconst 8, 2147483656, 0, 0, 2, []) := by rw [kc156_eq]; rfl
theorem rw_156_35 : (codeOf 156)[35]? = some (55, .invokevirtual 62, 130, 0, 0, 3, []) := by rw [kc156_eq]; rfl
theorem rw_156_36 : (codeOf 156)[36]? = some (58, .iload 3, 3, 0, 0, 1, []) := by rw [kc156_eq]; rfl
theorem rw_156_37 : (codeOf 156)[37]? = some (59, .iadd, 0, 0, 0, 1, []) := by rw [kc156_eq]; rfl
theorem rw_156_38 : (codeOf 156)[38]? = some (60, .invokevirtual 66, 119, 0, 0, 3, []) := by rw [kc156_eq]; rfl
theorem rw_156_39 : (codeOf 156)[39]? = some (63, .aload 0, 0, 0, 3, 1, []) := by rw [kc156_eq]; rfl
theorem rw_156_40 : (codeOf 156)[40]? = some (64, .iload 1, 1, 0, 0, 1, []) := by rw [kc156_eq]; rfl
theorem rw_156_41 : (codeOf 156)[41]? = some (65, .iconst 9, 2147483657, 0, 0, 2, []) := by rw [kc156_eq]; rfl
theorem rw_156_42 : (codeOf 156)[42]? = some (67, .aload 0, 0, 0, 3, 1, []) := by rw [kc156_eq]; rfl
theorem rw_156_43 : (codeOf 156)[43]? = some (68, .iload 1, 1, 0, 0, 1, []) := by rw [kc156_eq]; rfl
theorem rw_156_44 : (codeOf 156)[44]? = some (69, .iconst 9, 2147483657, 0, 0, 2, []) := by rw [kc156_eq]; rfl
theorem rw_156_45 : (codeOf 156)[45]? = some (71, .invokevirtual 62, 130, 0, 0, 3, []) := by rw [kc156_eq]; rfl
theorem rw_156_46 : (codeOf 156)[46]? = some (74, .iload 3, 3, 0, 0, 1, []) := by rw [kc156_eq]; rfl
theorem rw_156_47 : (codeOf 156)[47]? = some (75, .ifCond .ge 8, 83, 51, 0, 3, []) := by rw [kc156_eq]; rfl
theorem rw_156_48 : (codeOf 156)[48]? = some (78, .iload 3, 3, 0, 0, 1, []) := by rw [kc156_eq]; rfl
theorem rw_156_49 : (codeOf 156)[49]? = some (79, .ineg, 0, 0, 0, 1, []) := by rw [kc156_eq]; rfl
theorem rw_156_50 : (codeOf 156)[50]? = some (80, .goto 4, 84, 52, 0, 3, []) := by rw [kc156_eq]; rfl
theorem rw_156_51 : (codeOf 156)[51]? = some (83, .iload 3, 3, 0, 0, 1, []) := by rw [kc156_eq]; rfl
theorem rw_156_52 : (codeOf 156)[52]? = some (84, .iadd, 0, 0, 0, 1, []) := by rw [kc156_eq]; rfl
theorem rw_156_53 : (codeOf 156)[53]? = some (85, .aload 0, 0, 0, 3, 1, []) := by rw [kc156_eq]; rfl
theorem rw_156_54 : (codeOf 156)[54]? = some (86, .iload 1, 1, 0, 0, 1, []) := by rw [kc156_eq]; rfl
theorem rw_156_55 : (codeOf 156)[55]? = some (87, .iconst 9, 2147483657, 0, 0, 2, []) := by rw [kc156_eq]; rfl
theorem rw_156_56 : (codeOf 156)[56]? = some (89, .invokevirtual 62, 130, 0, 0, 3, []) := by rw [kc156_eq]; rfl
theorem rw_156_57 : (codeOf 156)[57]? = some (92, .iconst 4, 2147483652, 0, 0, 1, []) := by rw [kc156_eq]; rfl
theorem rw_156_58 : (codeOf 156)[58]? = some (93, .idiv, 0, 0, 0, 1, []) := by rw [kc156_eq]; rfl
theorem rw_156_59 : (codeOf 156)[59]? = some (94, .isub, 0, 0, 0, 1, []) := by rw [kc156_eq]; rfl
theorem rw_156_60 : (codeOf 156)[60]? = some (95, .invokevirtual 66, 119, 0, 0, 3, []) := by rw [kc156_eq]; rfl
theorem rw_156_61 : (codeOf 156)[61]? = some (98, .aload 0, 0, 0, 3, 1, []) := by rw [kc156_eq]; rfl
theorem rw_156_62 : (codeOf 156)[62]? = some (99, .iload 1, 1, 0, 0, 1, []) := by rw [kc156_eq]; rfl
theorem rw_156_63 : (codeOf 156)[63]? = some (100, .iconst 7, 2147483655, 0, 0, 2, []) := by rw [kc156_eq]; rfl
theorem rw_156_64 : (codeOf 156)[64]? = some (102, .iconst 1, 2147483649, 0, 0, 1, []) := by rw [kc156_eq]; rfl
theorem rw_156_65 : (codeOf 156)[65]? = some (103, .invokevirtual 66, 119, 0, 0, 3, []) := by rw [kc156_eq]; rfl
theorem rw_156_66 : (codeOf 156)[66]? = some (106, .aload 0, 0, 0, 3, 1, []) := by rw [kc156_eq]; rfl
theorem rw_156_67 : (codeOf 156)[67]? = some (107, .iload 1, 1, 0, 0, 1, []) := by rw [kc156_eq]; rfl
theorem rw_156_68 : (codeOf 156)[68]? = some (108, .iconst 10, 2147483658, 0, 0, 2, []) := by rw [kc156_eq]; rfl
theorem rw_156_69 : (codeOf 156)[69]? = some (110, .iconst 16, 2147483664, 0, 0, 2, []) := by rw [kc156_eq]; rfl
theorem rw_156_70 : (codeOf 156)[70]? = some (112, .aload 0, 0, 0, 3, 1, []) := by rw [kc156_eq]; rfl
theorem rw_156_71 : (codeOf 156)[71]? = some (113, .iload 1, 1, 0, 0, 1, []) := by rw [kc156_eq]; rfl
theorem rw_156_72 : (codeOf 156)[72]? = some (114, .iconst 10, 2147483658, 0, 0, 2, []) := by rw [kc156_eq]; rfl
theorem rw_156_73 : (codeOf 156)[73]? = some (116, .invokevirtual 62, 130, 0, 0, 3, []) := by rw [kc156_eq]; rfl
theorem rw_156_74 : (codeOf 156)[74]? = some (119, .iconst 1, 2147483649, 0, 0, 1, []) := by rw [kc156_eq]; rfl
theorem rw_156_75 : (codeOf 156)[75]? = some (120, .iadd, 0, 0, 0, 1, []) := by rw [kc156_eq]; rfl
theorem rw_156_76 : (codeOf 156)[76]? = some (121, .invokestatic 96, 137, 0, 0, 3, []) := by rw [kc156_eq]; rfl
theorem rw_156_77 : (codeOf 156)[77]? = some (124, .invokevirtual 66, 119, 0, 0, 3, []) := by rw [kc156_eq]; rfl
theorem rw_156_78 : (codeOf 156)[78]? = some (127, .aload 0, 0, 0, 3, 1, []) := by rw [kc156_eq]; rfl
theorem rw_156_79 : (codeOf 156)[79]? = some (128, .iload 1, 1, 0, 0, 1, []) := by rw [kc156_eq]; rfl
theorem rw_156_80 : (codeOf 156)[80]? = some (129, .iconst 11, 2147483659, 0, 0, 2, []) := by rw [kc156_eq]; rfl
theorem rw_156_81 : (codeOf 156)[81]? = some (131, .iconst 0, 2147483648, 0, 0, 1, []) := by rw [kc156_eq]; rfl
theorem rw_156_82 : (codeOf 156)[82]? = some (132, .invokevirtual 66, 119, 0, 0, 3, []) := by rw [kc156_eq]; rfl
theorem rw_156_83 : (codeOf 156)[83]? = some (135, .return_, 0, 0, 0, 1, []) := by rw [kc156_eq]; rfl
theorem kc157_eq : codeOf 157 = kc157 := rfl
theorem hk_157 : 157 < 186 := by decide
theorem rw_157_0 : (codeOf 157)[0]? = some (0, .aload 0, 0, 0, 3, 1, []) := by rw [kc157_eq]; rfl
theorem rw_157_1 : (codeOf 157)[1]? = some (1, .iload 1, 1, 0, 0, 1, []) := by rw [kc157_eq]; rfl
theorem rw_157_2 : (codeOf 157)[2]? = some (2, .iconst 5, 2147483653, 0, 0, 1, []) := by rw [kc157_eq]; rfl
theorem rw_157_3 : (codeOf 157)[3]? = some (3, .invokevirtual 62, 130, 0, 0, 3, []) := by rw [kc157_eq]; rfl
theorem rw_157_4 : (codeOf 157)[4]? = some (6, .istore 2, 2, 0, 0, 1, []) := by rw [kc157_eq]; rfl
theorem rw_157_5 : (codeOf 157)[5]? = some (7, .iload 2, 2, 0, 0, 1, []) := by rw [kc157_eq]; rfl
theorem rw_157_6 : (codeOf 157)[6]? = some (8, .iconst 16, 2147483664, 0, 0, 2, []) := by rw [kc157_eq]; rfl
theorem rw_157_7 : (codeOf 157)[7]? = some (10, .idiv, 0, 0, 0, 1, []) := by rw [kc157_eq]; rfl
theorem rw_157_8 : (codeOf 157)[8]? = some (11, .aload 0, 0, 0, 3, 1, []) := by rw [kc157_eq]; rfl
theorem rw_157_9 : (codeOf 157)[9]? = some (12, .iload 1, 1, 0, 0, 1, []) := by rw [kc157_eq]; rfl
theorem rw_157_10 : (codeOf 157)[10]? = some (13, .iconst 6, 2147483654, 0, 0, 2, []) := by rw [kc157_eq]; rfl
theorem rw_157_11 : (codeOf 157)[11]? = some (15, .invokevirtual 62, 130, 0, 0, 3, []) := by rw [kc157_eq]; rfl
theorem rw_157_12 : (codeOf 157)[12]? = some (18, .if_icmp .ge 8, 26, 15, 0, 3, []) := by rw [kc157_eq]; rfl
theorem rw_157_13 : (codeOf 157)[13]? = some (21, .iconst 16, 2147483664, 0, 0, 2, []) := by rw [kc157_eq]; rfl
theorem rw_157_14 : (codeOf 157)[14]? = some (23, .goto 12, 35, 20, 0, 3, []) := by rw [kc157_eq]; rfl
theorem rw_157_15 : (codeOf 157)[15]? = some (26, .iconst 1, 2147483649, 0, 0, 1, []) := by rw [kc157_eq]; rfl
theorem rw_157_16 : (codeOf 157)[16]? = some (27, .iconst 256, 2147483904, 0, 0, 3, []) := by rw [kc157_eq]; rfl
theorem rw_157_17 : (codeOf 157)[17]? = some (30, .iload 2, 2, 0, 0, 1, []) := by rw [kc157_eq]; rfl
theorem rw_157_18 : (codeOf 157)[18]? = some (31, .idiv, 0, 0, 0, 1, []) := by rw [kc157_eq]; rfl
theorem rw_157_19 : (codeOf 157)[19]? = some (32, .invokestatic 99, 138, 0, 0, 3, []) := by rw [kc157_eq]; rfl
theorem rw_157_20 : (codeOf 157)[20]? = some (35, .istore 3, 3, 0, 0, 1, []) := by rw [kc157_eq]; rfl
theorem rw_157_21 : (codeOf 157)[21]? = some (36, .aload 0, 0, 0, 3, 1, []) := by rw [kc157_eq]; rfl
theorem rw_157_22 : (codeOf 157)[22]? = some (37, .iload 1, 1, 0, 0, 1, []) := by rw [kc157_eq]; rfl
theorem rw_157_23 : (codeOf 157)[23]? = some (38, .iconst 5, 2147483653, 0, 0, 1, []) := by rw [kc157_eq]; rfl
theorem rw_157_24 : (codeOf 157)[24]? = some (39, .iconst 1024, 2147484672, 0, 0, 3, []) := by rw [kc157_eq]; rfl
theorem rw_157_25 : (codeOf 157)[25]? = some (42, .iload 2, 2, 0, 0, 1, []) := by rw [kc157_eq]; rfl
theorem rw_157_26 : (codeOf 157)[26]? = some (43, .iload 3, 3, 0, 0, 1, []) := by rw [kc157_eq]; rfl
theorem rw_157_27 : (codeOf 157)[27]? = some (44, .iadd, 0, 0, 0, 1, []) := by rw [kc157_eq]; rfl
theorem rw_157_28 : (codeOf 157)[28]? = some (45, .invokestatic 96, 137, 0, 0, 3, []) := by rw [kc157_eq]; rfl
theorem rw_157_29 : (codeOf 157)[29]? = some (48, .invokevirtual 66, 119, 0, 0, 3, []) := by rw [kc157_eq]; rfl
theorem rw_157_30 : (codeOf 157)[30]? = some (51, .return_, 0, 0, 0, 1, []) := by rw [kc157_eq]; rfl
section ME
variable {d k j : Nat} {lv : List (Option Value)} {st : List Value} {ph : PH} {Q : Option Value → PH → Prop} {B : PH} {p : Nat → Int32} {a : Nat → Nat → Int32} {z : Nat → Int32}
theorem zr_app {ex : List (Option Value)} (h : ZR d k j lv st ph Q) : ZR d k j (lv ++ ex) st ph Q := by
  intro clv nc ns hL
  refine h clv nc ns (fun i v hv => hL i v ?_)
  rw [List.getElem?_append_left (List.getElem?_eq_some_iff.mp hv).1]
  exact hv
theorem c_putS (hk : k < 186) (hB : 87 ≤ B.length) {pc b x ix : Nat} {ts : List Nat} {c w : Int} {y : Int32} (hrow : (codeOf k)[j]? = some (pc, .invokevirtual ix, 119, b, x, 3, ts)) (cn wn : Nat) (hc : c = (cn : Int)) (hw : w = (wn : Int)) (hc9 : cn < 10) (hw21 : wn < 21) (hne : wn ≠ 0 ∧ wn ≠ 2 ∧ wn ≠ 3 ∧ wn ≠ 16) (h10 : wn = 10 → ∃ e : Int, y = iv e ∧ 0 ≤ e ∧ e ≤ 16) (h6 : wn = 6 → ∃ e : Int, y = iv e ∧ 1 ≤ e ∧ e ≤ 2147483647) (hcat : catS st ≤ 8) (h : ∀ q, Soft p q → ZR (d + 1) k (j + 1) lv st (mh B q a z) Q) : ZR (d + 1) k j lv (.int y :: .int (iv w) :: .int (iv c) :: .ref 75 :: st) (mh B p a z) Q :=
  c_put hk hB hrow (21 * cn + wn) (by clear h10 h6; omega) (by clear h10 h6; omega) hcat (h _ (Soft.upd hc9 hw21 hne h10 h6))
theorem mx2_rg (x : Int32) : ∃ e : Int, mx (iv 2) x = iv e ∧ 1 ≤ e ∧ e ≤ 2147483647 := by
  unfold mx
  have hr := inR_of x
  have h2 : (iv 2).toInt = 2 := iv_toInt (by unfold inR; omega)
  by_cases h : iv 2 ≤ x
  · rw [if_pos h]
    rw [Int32.le_iff_toInt_le, h2] at h
    unfold inR at hr
    exact ⟨x.toInt, iv_of x, by omega, by omega⟩
  · rw [if_neg h]
    exact ⟨2, rfl, by omega, by omega⟩
theorem mn16_rg {y : Int32} {e : Int} (hy : y = iv e) (h0 : 0 ≤ e) (h1 : e ≤ 16) : ∃ g : Int, mn (iv 16) (y + iv 1) = iv g ∧ 0 ≤ g ∧ g ≤ 16 := by
  unfold mn
  rw [hy, iv_add]
  by_cases h : iv (e + 1) ≤ iv 16
  · rw [if_pos h]
    rw [iv_le (by unfold inR; omega) (by unfold inR; omega)] at h
    exact ⟨e + 1, rfl, by omega, by omega⟩
  · rw [if_neg h]
    exact ⟨16, rfl, by omega, by omega⟩
theorem grow_ne {x y : Int32} {e : Int} (hy : y = iv e) (h1 : 1 ≤ e) (h2 : e ≤ 2147483647) (h : y ≤ x / iv 16) : ¬ x = 0 := by
  rintro rfl
  rw [hy, show (0 : Int32) / iv 16 = iv 0 from by decide, iv_le (by unfold inR; omega) (by unfold inR; omega)] at h
  omega
theorem iv32_ne : ¬ iv 32 = 0 := by decide
theorem iv16_ne : ¬ iv 16 = 0 := by decide
theorem iv8_ne : ¬ iv 8 = 0 := by decide
theorem iv4_ne : ¬ iv 4 = 0 := by decide
theorem punishes_ok (d : Nat) (hB : 87 ≤ B.length) {c : Nat} {y : Int32} (hc : c < 10) : ZC (d + 1) 154 [.ref 75, .int (iv (c : Int)), .int y] (mh B p a z) (fun v ph' => ∃ q, ph' = mh B q a z ∧ v = none ∧ Soft p q) := by
  have SS := Soft.rfl' p
  refine ZC.of (lv := [some (.ref 75), some (.int (iv ((c : Int)))), some (.int (y))]) hk_154 (fun i v hv => ?_) ?_
  · match i, hv with
    | 0, hv => cases hv; rfl
    | 1, hv => cases hv; rfl
    | 2, hv => cases hv; rfl
    | i + 3, hv => simp at hv
  refine zr_aload hk_154 rw_154_0 rfl ?_
  refine zr_iload hk_154 rw_154_1 rfl ?_
  refine zi_const hk_154 rw_154_2 (c := 12) rfl ?_
  refine zi_const hk_154 rw_154_3 (c := 12) rfl ?_
  refine zr_aload hk_154 rw_154_4 rfl ?_
  refine zr_iload hk_154 rw_154_5 rfl ?_
  refine zi_const hk_154 rw_154_6 (c := 12) rfl ?_
  refine c_of hk_154 hB rw_154_7 (21 * c + 12) (by omega) (by omega) (Nat.le_of_ble_eq_true rfl) ?_
  refine zr_iload hk_154 rw_154_8 rfl ?_
  refine zr_iadd hk_154 rw_154_9 ?_
  refine c_least hk_154 hB rw_154_10 (Nat.le_of_ble_eq_true rfl) ?_
  refine c_putS hk_154 hB rw_154_11 c 12 rfl rfl (by omega) (by decide) (by decide) (fun e => absurd e (by decide)) (fun e => absurd e (by decide)) (Nat.le_of_ble_eq_true rfl) (fun q S => ?_)
  have SS := SS.trans S
  refine zr_return (a := 0) hk_154 rw_154_12 ?_
  exact ⟨_, rfl, rfl, SS⟩
theorem c_punishes (hk : k < 186) (hB : 87 ≤ B.length) {pc b x ix : Nat} {ts : List Nat} {c : Nat} {y : Int32} (hrow : (codeOf k)[j]? = some (pc, .invokevirtual ix, 154, b, x, 3, ts)) (hc : c < 10) (hcat : catS st ≤ 8) (hQ : ∀ q, Soft p q → ZR (d + 2) k (j + 1) lv st (mh B q a z) Q) : ZR (d + 2) k j lv (.int y :: .int (iv (c : Int)) :: .ref 75 :: st) (mh B p a z) Q := by
  refine mz_call (L := 3) (n := 2) (as := [.int (iv (c : Int)), .int y]) (r := st) hk hB hrow (by decide) (by decide) ⟨rfl, rfl, rfl, rfl⟩ rfl rfl hcat (Nat.le_of_ble_eq_true rfl) (punishes_ok d hB hc) ?_
  rintro w ph' ⟨q, rfl, rfl, hq⟩
  exact hQ q hq
theorem ko_loop (hB : 87 ≤ B.length) {c : Nat} {P : Int32} (hc : c < 10) : ∀ (n k : Nat) (s : Int32), k + n = 10 → ZR (d + 2) 155 9 [some (.ref 75), some (.int (iv ((c : Int)))), some (.int (s)), some (.int (P)), some (.int (iv ((k : Int))))] [] (mh B p a z) (fun v ph' => ph' = mh B p a z ∧ ∃ x : Int32, v = some (.int x)) := by
  intro n
  induction n with
  | zero =>
    intro k s hkn
    refine zr_cut hk_155 rw_155_9 ?_
    refine zr_iload hk_155 rw_155_10 rfl ?_
    refine zi_const hk_155 rw_155_11 (c := 10) rfl ?_
    refine zi_icmp_ge hk_155 rw_155_12 (by unfold inR; omega) (by unfold inR; omega) (fun h12 => ?_) (fun h12 => by omega)
    refine zr_iload hk_155 rw_155_54 rfl ?_
    refine zr_ireturn hk_155 rw_155_55 ?_
    exact ⟨rfl, _, rfl⟩
  | succ n ih =>
    intro k s hkn
    refine zr_cut hk_155 rw_155_9 ?_
    refine zr_iload hk_155 rw_155_10 rfl ?_
    refine zi_const hk_155 rw_155_11 (c := 10) rfl ?_
    refine zi_icmp_ge hk_155 rw_155_12 (by unfold inR; omega) (by unfold inR; omega) (fun h12 => by omega) (fun h12 => ?_)
    refine zr_aload hk_155 rw_155_13 rfl ?_
    refine zr_iload hk_155 rw_155_14 rfl ?_
    refine c_isOpenN hk_155 hB rw_155_15 (k) (by omega) (by omega) (Nat.le_of_ble_eq_true rfl) (fun h15c => ?_) (fun h15c => ?_)
    · refine zi_if_eq hk_155 rw_155_16 (by unfold inR; omega) (fun h => absurd h (by decide)) (fun _ => ?_)
      refine zr_iload hk_155 rw_155_17 rfl ?_
      refine zr_iload hk_155 rw_155_18 rfl ?_
      refine zi_icmp_eq hk_155 rw_155_19 (by unfold inR; omega) (by unfold inR; omega) (fun h19 => ?_) (fun h19 => ?_)
      · refine zi_const hk_155 rw_155_40 (c := 0) rfl ?_
        refine zi_istore hk_155 rw_155_41 rfl (lv' := [some (.ref 75), some (.int (iv ((c : Int)))), some (.int (s)), some (.int (P)), some (.int (iv ((k : Int)))), some (.int (iv (0)))]) rfl ?_
        refine zr_iload hk_155 rw_155_42 rfl ?_
        refine zr_iload hk_155 rw_155_43 rfl ?_
        refine zi_if_eq hk_155 rw_155_44 (by unfold inR; omega) (fun h44 => ?_) (fun h44 => ?_)
        · refine zi_const hk_155 rw_155_49 (c := 0) rfl ?_
          refine zr_ior hk_155 rw_155_50 ?_
          refine zi_istore hk_155 rw_155_51 rfl (lv' := [some (.ref 75), some (.int (iv ((c : Int)))), some (.int (_)), some (.int (P)), some (.int (iv ((k : Int)))), some (.int (iv (0)))]) rfl ?_
          refine zi_inc hk_155 rw_155_52 rfl rfl inc_1 (lv' := [some (.ref 75), some (.int (iv ((c : Int)))), some (.int (_)), some (.int (P)), some (.int (iv ((k : Int) + 1))), some (.int (iv (0)))]) rfl ?_
          refine zr_goto hk_155 rw_155_53 ?_
          exact zr_app (lv := [some (.ref 75), some (.int (iv (c : Int))), some (.int _), some (.int P), some (.int (iv ((k : Int) + 1)))]) (ex := [some (.int (iv (0)))]) (ih (k + 1) _ (by omega))
        · refine zi_const hk_155 rw_155_45 (c := 1) rfl ?_
          refine zr_iload hk_155 rw_155_46 rfl ?_
          refine zr_ishl hk_155 rw_155_47 ?_
          refine zr_goto hk_155 rw_155_48 ?_
          refine zr_ior hk_155 rw_155_50 ?_
          refine zi_istore hk_155 rw_155_51 rfl (lv' := [some (.ref 75), some (.int (iv ((c : Int)))), some (.int (_)), some (.int (P)), some (.int (iv ((k : Int)))), some (.int (iv (0)))]) rfl ?_
          refine zi_inc hk_155 rw_155_52 rfl rfl inc_1 (lv' := [some (.ref 75), some (.int (iv ((c : Int)))), some (.int (_)), some (.int (P)), some (.int (iv ((k : Int) + 1))), some (.int (iv (0)))]) rfl ?_
          refine zr_goto hk_155 rw_155_53 ?_
          exact zr_app (lv := [some (.ref 75), some (.int (iv (c : Int))), some (.int _), some (.int P), some (.int (iv ((k : Int) + 1)))]) (ex := [some (.int (iv (0)))]) (ih (k + 1) _ (by omega))
      · refine zr_iload hk_155 rw_155_20 rfl ?_
        refine zr_iload hk_155 rw_155_21 rfl ?_
        refine zo_icmp_eq hk_155 rw_155_22 (fun h22 => ?_) (fun h22 => ?_)
        · refine zi_const hk_155 rw_155_38 (c := 1) rfl ?_
          refine zr_goto hk_155 rw_155_39 ?_
          refine zi_istore hk_155 rw_155_41 rfl (lv' := [some (.ref 75), some (.int (iv ((c : Int)))), some (.int (s)), some (.int (P)), some (.int (iv ((k : Int)))), some (.int (iv (1)))]) rfl ?_
          refine zr_iload hk_155 rw_155_42 rfl ?_
          refine zr_iload hk_155 rw_155_43 rfl ?_
          refine zi_if_eq hk_155 rw_155_44 (by unfold inR; omega) (fun h44 => ?_) (fun h44 => ?_)
          · refine zi_const hk_155 rw_155_49 (c := 0) rfl ?_
            refine zr_ior hk_155 rw_155_50 ?_
            refine zi_istore hk_155 rw_155_51 rfl (lv' := [some (.ref 75), some (.int (iv ((c : Int)))), some (.int (_)), some (.int (P)), some (.int (iv ((k : Int)))), some (.int (iv (1)))]) rfl ?_
            refine zi_inc hk_155 rw_155_52 rfl rfl inc_1 (lv' := [some (.ref 75), some (.int (iv ((c : Int)))), some (.int (_)), some (.int (P)), some (.int (iv ((k : Int) + 1))), some (.int (iv (1)))]) rfl ?_
            refine zr_goto hk_155 rw_155_53 ?_
            exact zr_app (lv := [some (.ref 75), some (.int (iv (c : Int))), some (.int _), some (.int P), some (.int (iv ((k : Int) + 1)))]) (ex := [some (.int (iv (1)))]) (ih (k + 1) _ (by omega))
          · refine zi_const hk_155 rw_155_45 (c := 1) rfl ?_
            refine zr_iload hk_155 rw_155_46 rfl ?_
            refine zr_ishl hk_155 rw_155_47 ?_
            refine zr_goto hk_155 rw_155_48 ?_
            refine zr_ior hk_155 rw_155_50 ?_
            refine zi_istore hk_155 rw_155_51 rfl (lv' := [some (.ref 75), some (.int (iv ((c : Int)))), some (.int (_)), some (.int (P)), some (.int (iv ((k : Int)))), some (.int (iv (1)))]) rfl ?_
            refine zi_inc hk_155 rw_155_52 rfl rfl inc_1 (lv' := [some (.ref 75), some (.int (iv ((c : Int)))), some (.int (_)), some (.int (P)), some (.int (iv ((k : Int) + 1))), some (.int (iv (1)))]) rfl ?_
            refine zr_goto hk_155 rw_155_53 ?_
            exact zr_app (lv := [some (.ref 75), some (.int (iv (c : Int))), some (.int _), some (.int P), some (.int (iv ((k : Int) + 1)))]) (ex := [some (.int (iv (1)))]) (ih (k + 1) _ (by omega))
        · refine zr_aload hk_155 rw_155_23 rfl ?_
          refine zr_iload hk_155 rw_155_24 rfl ?_
          refine zi_const hk_155 rw_155_25 (c := 2) rfl ?_
          refine c_of hk_155 hB rw_155_26 (21 * k + 2) (by omega) (by omega) (Nat.le_of_ble_eq_true rfl) ?_
          refine zr_iload hk_155 rw_155_27 rfl ?_
          refine zo_icmp_eq hk_155 rw_155_28 (fun h28 => ?_) (fun h28 => ?_)
          · refine zi_const hk_155 rw_155_38 (c := 1) rfl ?_
            refine zr_goto hk_155 rw_155_39 ?_
            refine zi_istore hk_155 rw_155_41 rfl (lv' := [some (.ref 75), some (.int (iv ((c : Int)))), some (.int (s)), some (.int (P)), some (.int (iv ((k : Int)))), some (.int (iv (1)))]) rfl ?_
            refine zr_iload hk_155 rw_155_42 rfl ?_
            refine zr_iload hk_155 rw_155_43 rfl ?_
            refine zi_if_eq hk_155 rw_155_44 (by unfold inR; omega) (fun h44 => ?_) (fun h44 => ?_)
            · refine zi_const hk_155 rw_155_49 (c := 0) rfl ?_
              refine zr_ior hk_155 rw_155_50 ?_
              refine zi_istore hk_155 rw_155_51 rfl (lv' := [some (.ref 75), some (.int (iv ((c : Int)))), some (.int (_)), some (.int (P)), some (.int (iv ((k : Int)))), some (.int (iv (1)))]) rfl ?_
              refine zi_inc hk_155 rw_155_52 rfl rfl inc_1 (lv' := [some (.ref 75), some (.int (iv ((c : Int)))), some (.int (_)), some (.int (P)), some (.int (iv ((k : Int) + 1))), some (.int (iv (1)))]) rfl ?_
              refine zr_goto hk_155 rw_155_53 ?_
              exact zr_app (lv := [some (.ref 75), some (.int (iv (c : Int))), some (.int _), some (.int P), some (.int (iv ((k : Int) + 1)))]) (ex := [some (.int (iv (1)))]) (ih (k + 1) _ (by omega))
            · refine zi_const hk_155 rw_155_45 (c := 1) rfl ?_
              refine zr_iload hk_155 rw_155_46 rfl ?_
              refine zr_ishl hk_155 rw_155_47 ?_
              refine zr_goto hk_155 rw_155_48 ?_
              refine zr_ior hk_155 rw_155_50 ?_
              refine zi_istore hk_155 rw_155_51 rfl (lv' := [some (.ref 75), some (.int (iv ((c : Int)))), some (.int (_)), some (.int (P)), some (.int (iv ((k : Int)))), some (.int (iv (1)))]) rfl ?_
              refine zi_inc hk_155 rw_155_52 rfl rfl inc_1 (lv' := [some (.ref 75), some (.int (iv ((c : Int)))), some (.int (_)), some (.int (P)), some (.int (iv ((k : Int) + 1))), some (.int (iv (1)))]) rfl ?_
              refine zr_goto hk_155 rw_155_53 ?_
              exact zr_app (lv := [some (.ref 75), some (.int (iv (c : Int))), some (.int _), some (.int P), some (.int (iv ((k : Int) + 1)))]) (ex := [some (.int (iv (1)))]) (ih (k + 1) _ (by omega))
          · refine zr_iload hk_155 rw_155_29 rfl ?_
            refine zi_const hk_155 rw_155_30 (c := -9) rfl ?_
            refine zo_icmp_eq hk_155 rw_155_31 (fun h31 => ?_) (fun h31 => ?_)
            · refine zi_const hk_155 rw_155_40 (c := 0) rfl ?_
              refine zi_istore hk_155 rw_155_41 rfl (lv' := [some (.ref 75), some (.int (iv ((c : Int)))), some (.int (s)), some (.int (P)), some (.int (iv ((k : Int)))), some (.int (iv (0)))]) rfl ?_
              refine zr_iload hk_155 rw_155_42 rfl ?_
              refine zr_iload hk_155 rw_155_43 rfl ?_
              refine zi_if_eq hk_155 rw_155_44 (by unfold inR; omega) (fun h44 => ?_) (fun h44 => ?_)
              · refine zi_const hk_155 rw_155_49 (c := 0) rfl ?_
                refine zr_ior hk_155 rw_155_50 ?_
                refine zi_istore hk_155 rw_155_51 rfl (lv' := [some (.ref 75), some (.int (iv ((c : Int)))), some (.int (_)), some (.int (P)), some (.int (iv ((k : Int)))), some (.int (iv (0)))]) rfl ?_
                refine zi_inc hk_155 rw_155_52 rfl rfl inc_1 (lv' := [some (.ref 75), some (.int (iv ((c : Int)))), some (.int (_)), some (.int (P)), some (.int (iv ((k : Int) + 1))), some (.int (iv (0)))]) rfl ?_
                refine zr_goto hk_155 rw_155_53 ?_
                exact zr_app (lv := [some (.ref 75), some (.int (iv (c : Int))), some (.int _), some (.int P), some (.int (iv ((k : Int) + 1)))]) (ex := [some (.int (iv (0)))]) (ih (k + 1) _ (by omega))
              · refine zi_const hk_155 rw_155_45 (c := 1) rfl ?_
                refine zr_iload hk_155 rw_155_46 rfl ?_
                refine zr_ishl hk_155 rw_155_47 ?_
                refine zr_goto hk_155 rw_155_48 ?_
                refine zr_ior hk_155 rw_155_50 ?_
                refine zi_istore hk_155 rw_155_51 rfl (lv' := [some (.ref 75), some (.int (iv ((c : Int)))), some (.int (_)), some (.int (P)), some (.int (iv ((k : Int)))), some (.int (iv (0)))]) rfl ?_
                refine zi_inc hk_155 rw_155_52 rfl rfl inc_1 (lv' := [some (.ref 75), some (.int (iv ((c : Int)))), some (.int (_)), some (.int (P)), some (.int (iv ((k : Int) + 1))), some (.int (iv (0)))]) rfl ?_
                refine zr_goto hk_155 rw_155_53 ?_
                exact zr_app (lv := [some (.ref 75), some (.int (iv (c : Int))), some (.int _), some (.int P), some (.int (iv ((k : Int) + 1)))]) (ex := [some (.int (iv (0)))]) (ih (k + 1) _ (by omega))
            · refine zr_aload hk_155 rw_155_32 rfl ?_
              refine zr_iload hk_155 rw_155_33 rfl ?_
              refine zi_const hk_155 rw_155_34 (c := 2) rfl ?_
              refine c_of hk_155 hB rw_155_35 (21 * k + 2) (by omega) (by omega) (Nat.le_of_ble_eq_true rfl) ?_
              refine zr_iload hk_155 rw_155_36 rfl ?_
              refine zo_icmp_ne hk_155 rw_155_37 (fun h37 => ?_) (fun h37 => ?_)
              · refine zi_const hk_155 rw_155_40 (c := 0) rfl ?_
                refine zi_istore hk_155 rw_155_41 rfl (lv' := [some (.ref 75), some (.int (iv ((c : Int)))), some (.int (s)), some (.int (P)), some (.int (iv ((k : Int)))), some (.int (iv (0)))]) rfl ?_
                refine zr_iload hk_155 rw_155_42 rfl ?_
                refine zr_iload hk_155 rw_155_43 rfl ?_
                refine zi_if_eq hk_155 rw_155_44 (by unfold inR; omega) (fun h44 => ?_) (fun h44 => ?_)
                · refine zi_const hk_155 rw_155_49 (c := 0) rfl ?_
                  refine zr_ior hk_155 rw_155_50 ?_
                  refine zi_istore hk_155 rw_155_51 rfl (lv' := [some (.ref 75), some (.int (iv ((c : Int)))), some (.int (_)), some (.int (P)), some (.int (iv ((k : Int)))), some (.int (iv (0)))]) rfl ?_
                  refine zi_inc hk_155 rw_155_52 rfl rfl inc_1 (lv' := [some (.ref 75), some (.int (iv ((c : Int)))), some (.int (_)), some (.int (P)), some (.int (iv ((k : Int) + 1))), some (.int (iv (0)))]) rfl ?_
                  refine zr_goto hk_155 rw_155_53 ?_
                  exact zr_app (lv := [some (.ref 75), some (.int (iv (c : Int))), some (.int _), some (.int P), some (.int (iv ((k : Int) + 1)))]) (ex := [some (.int (iv (0)))]) (ih (k + 1) _ (by omega))
                · refine zi_const hk_155 rw_155_45 (c := 1) rfl ?_
                  refine zr_iload hk_155 rw_155_46 rfl ?_
                  refine zr_ishl hk_155 rw_155_47 ?_
                  refine zr_goto hk_155 rw_155_48 ?_
                  refine zr_ior hk_155 rw_155_50 ?_
                  refine zi_istore hk_155 rw_155_51 rfl (lv' := [some (.ref 75), some (.int (iv ((c : Int)))), some (.int (_)), some (.int (P)), some (.int (iv ((k : Int)))), some (.int (iv (0)))]) rfl ?_
                  refine zi_inc hk_155 rw_155_52 rfl rfl inc_1 (lv' := [some (.ref 75), some (.int (iv ((c : Int)))), some (.int (_)), some (.int (P)), some (.int (iv ((k : Int) + 1))), some (.int (iv (0)))]) rfl ?_
                  refine zr_goto hk_155 rw_155_53 ?_
                  exact zr_app (lv := [some (.ref 75), some (.int (iv (c : Int))), some (.int _), some (.int P), some (.int (iv ((k : Int) + 1)))]) (ex := [some (.int (iv (0)))]) (ih (k + 1) _ (by omega))
              · refine zi_const hk_155 rw_155_38 (c := 1) rfl ?_
                refine zr_goto hk_155 rw_155_39 ?_
                refine zi_istore hk_155 rw_155_41 rfl (lv' := [some (.ref 75), some (.int (iv ((c : Int)))), some (.int (s)), some (.int (P)), some (.int (iv ((k : Int)))), some (.int (iv (1)))]) rfl ?_
                refine zr_iload hk_155 rw_155_42 rfl ?_
                refine zr_iload hk_155 rw_155_43 rfl ?_
                refine zi_if_eq hk_155 rw_155_44 (by unfold inR; omega) (fun h44 => ?_) (fun h44 => ?_)
                · refine zi_const hk_155 rw_155_49 (c := 0) rfl ?_
                  refine zr_ior hk_155 rw_155_50 ?_
                  refine zi_istore hk_155 rw_155_51 rfl (lv' := [some (.ref 75), some (.int (iv ((c : Int)))), some (.int (_)), some (.int (P)), some (.int (iv ((k : Int)))), some (.int (iv (1)))]) rfl ?_
                  refine zi_inc hk_155 rw_155_52 rfl rfl inc_1 (lv' := [some (.ref 75), some (.int (iv ((c : Int)))), some (.int (_)), some (.int (P)), some (.int (iv ((k : Int) + 1))), some (.int (iv (1)))]) rfl ?_
                  refine zr_goto hk_155 rw_155_53 ?_
                  exact zr_app (lv := [some (.ref 75), some (.int (iv (c : Int))), some (.int _), some (.int P), some (.int (iv ((k : Int) + 1)))]) (ex := [some (.int (iv (1)))]) (ih (k + 1) _ (by omega))
                · refine zi_const hk_155 rw_155_45 (c := 1) rfl ?_
                  refine zr_iload hk_155 rw_155_46 rfl ?_
                  refine zr_ishl hk_155 rw_155_47 ?_
                  refine zr_goto hk_155 rw_155_48 ?_
                  refine zr_ior hk_155 rw_155_50 ?_
                  refine zi_istore hk_155 rw_155_51 rfl (lv' := [some (.ref 75), some (.int (iv ((c : Int)))), some (.int (_)), some (.int (P)), some (.int (iv ((k : Int)))), some (.int (iv (1)))]) rfl ?_
                  refine zi_inc hk_155 rw_155_52 rfl rfl inc_1 (lv' := [some (.ref 75), some (.int (iv ((c : Int)))), some (.int (_)), some (.int (P)), some (.int (iv ((k : Int) + 1))), some (.int (iv (1)))]) rfl ?_
                  refine zr_goto hk_155 rw_155_53 ?_
                  exact zr_app (lv := [some (.ref 75), some (.int (iv (c : Int))), some (.int _), some (.int P), some (.int (iv ((k : Int) + 1)))]) (ex := [some (.int (iv (1)))]) (ih (k + 1) _ (by omega))
    · refine zi_if_eq hk_155 rw_155_16 (by unfold inR; omega) (fun _ => ?_) (fun h => absurd h (by decide))
      refine zi_const hk_155 rw_155_40 (c := 0) rfl ?_
      refine zi_istore hk_155 rw_155_41 rfl (lv' := [some (.ref 75), some (.int (iv ((c : Int)))), some (.int (s)), some (.int (P)), some (.int (iv ((k : Int)))), some (.int (iv (0)))]) rfl ?_
      refine zr_iload hk_155 rw_155_42 rfl ?_
      refine zr_iload hk_155 rw_155_43 rfl ?_
      refine zi_if_eq hk_155 rw_155_44 (by unfold inR; omega) (fun h44 => ?_) (fun h44 => ?_)
      · refine zi_const hk_155 rw_155_49 (c := 0) rfl ?_
        refine zr_ior hk_155 rw_155_50 ?_
        refine zi_istore hk_155 rw_155_51 rfl (lv' := [some (.ref 75), some (.int (iv ((c : Int)))), some (.int (_)), some (.int (P)), some (.int (iv ((k : Int)))), some (.int (iv (0)))]) rfl ?_
        refine zi_inc hk_155 rw_155_52 rfl rfl inc_1 (lv' := [some (.ref 75), some (.int (iv ((c : Int)))), some (.int (_)), some (.int (P)), some (.int (iv ((k : Int) + 1))), some (.int (iv (0)))]) rfl ?_
        refine zr_goto hk_155 rw_155_53 ?_
        exact zr_app (lv := [some (.ref 75), some (.int (iv (c : Int))), some (.int _), some (.int P), some (.int (iv ((k : Int) + 1)))]) (ex := [some (.int (iv (0)))]) (ih (k + 1) _ (by omega))
      · refine zi_const hk_155 rw_155_45 (c := 1) rfl ?_
        refine zr_iload hk_155 rw_155_46 rfl ?_
        refine zr_ishl hk_155 rw_155_47 ?_
        refine zr_goto hk_155 rw_155_48 ?_
        refine zr_ior hk_155 rw_155_50 ?_
        refine zi_istore hk_155 rw_155_51 rfl (lv' := [some (.ref 75), some (.int (iv ((c : Int)))), some (.int (_)), some (.int (P)), some (.int (iv ((k : Int)))), some (.int (iv (0)))]) rfl ?_
        refine zi_inc hk_155 rw_155_52 rfl rfl inc_1 (lv' := [some (.ref 75), some (.int (iv ((c : Int)))), some (.int (_)), some (.int (P)), some (.int (iv ((k : Int) + 1))), some (.int (iv (0)))]) rfl ?_
        refine zr_goto hk_155 rw_155_53 ?_
        exact zr_app (lv := [some (.ref 75), some (.int (iv (c : Int))), some (.int _), some (.int P), some (.int (iv ((k : Int) + 1)))]) (ex := [some (.int (iv (0)))]) (ih (k + 1) _ (by omega))
theorem kinOf_ok (d : Nat) (hB : 87 ≤ B.length) {c : Nat} (hc : c < 10) : ZC (d + 2) 155 [.ref 75, .int (iv (c : Int))] (mh B p a z) (fun v ph' => ph' = mh B p a z ∧ ∃ x : Int32, v = some (.int x)) := by
  refine ZC.of (lv := [some (.ref 75), some (.int (iv ((c : Int))))]) hk_155 (fun i v hv => ?_) ?_
  · match i, hv with
    | 0, hv => cases hv; rfl
    | 1, hv => cases hv; rfl
    | i + 2, hv => simp at hv
  refine zi_const hk_155 rw_155_0 (c := 0) rfl ?_
  refine zi_istore hk_155 rw_155_1 rfl (lv' := [some (.ref 75), some (.int (iv ((c : Int)))), some (.int (iv (0)))]) rfl ?_
  refine zr_aload hk_155 rw_155_2 rfl ?_
  refine zr_iload hk_155 rw_155_3 rfl ?_
  refine zi_const hk_155 rw_155_4 (c := 2) rfl ?_
  refine c_of hk_155 hB rw_155_5 (21 * c + 2) (by omega) (by omega) (Nat.le_of_ble_eq_true rfl) ?_
  refine zi_istore hk_155 rw_155_6 rfl (lv' := [some (.ref 75), some (.int (iv ((c : Int)))), some (.int (iv (0))), some (.int (_))]) rfl ?_
  refine zi_const hk_155 rw_155_7 (c := 0) rfl ?_
  refine zi_istore hk_155 rw_155_8 rfl (lv' := [some (.ref 75), some (.int (iv ((c : Int)))), some (.int (iv (0))), some (.int (_)), some (.int (iv (0)))]) rfl ?_
  exact ko_loop hB hc 10 0 _ (by omega)
theorem c_kinOf (hk : k < 186) (hB : 87 ≤ B.length) {pc b x ix : Nat} {ts : List Nat} {c : Nat} (hrow : (codeOf k)[j]? = some (pc, .invokevirtual ix, 155, b, x, 3, ts)) (hc : c < 10) (hcat : catS st ≤ 8) (h : ∀ x : Int32, ZR (d + 3) k (j + 1) lv (.int x :: st) (mh B p a z) Q) : ZR (d + 3) k j lv (.int (iv (c : Int)) :: .ref 75 :: st) (mh B p a z) Q := by
  refine mz_call (L := 6) (n := 1) (as := [.int (iv (c : Int))]) (r := st) hk hB hrow (by decide) (by decide) ⟨rfl, rfl, rfl, rfl⟩ rfl rfl hcat (Nat.le_of_ble_eq_true rfl) (kinOf_ok d hB hc) ?_
  rintro w ph' ⟨rfl, x, rfl⟩
  exact h x
theorem su_loop (hB : 87 ≤ B.length) {c : Nat} {o x kin : Int32} (hc : c < 10) : ∀ (n k : Nat) (r : Nat → Int32), k + n = 10 → Soft p r → ZR (d + 3) 153 22 [some (.ref 75), some (.int (iv ((c : Int)))), some (.int (o)), some (.int (x)), some (.int (kin)), some (.int (iv ((k : Int))))] [] (mh B r a z) (fun v ph' => ∃ q, ph' = mh B q a z ∧ v = none ∧ Soft p q) := by
  intro n
  induction n with
  | zero =>
    intro k r hkn SS
    refine zr_cut hk_153 rw_153_22 ?_
    refine zr_iload hk_153 rw_153_23 rfl ?_
    refine zi_const hk_153 rw_153_24 (c := 10) rfl ?_
    refine zi_icmp_ge hk_153 rw_153_25 (by unfold inR; omega) (by unfold inR; omega) (fun h25 => ?_) (fun h25 => by omega)
    refine zr_aload hk_153 rw_153_39 rfl ?_
    refine zr_iload hk_153 rw_153_40 rfl ?_
    refine zi_const hk_153 rw_153_41 (c := 13) rfl ?_
    refine zr_aload hk_153 rw_153_42 rfl ?_
    refine zr_iload hk_153 rw_153_43 rfl ?_
    refine zi_const hk_153 rw_153_44 (c := 14) rfl ?_
    refine c_of hk_153 hB rw_153_45 (21 * c + 14) (by omega) (by omega) (Nat.le_of_ble_eq_true rfl) ?_
    refine c_putS hk_153 hB rw_153_46 c 13 rfl rfl (by omega) (by decide) (by decide) (fun e => absurd e (by decide)) (fun e => absurd e (by decide)) (Nat.le_of_ble_eq_true rfl) (fun q S => ?_)
    have SS := SS.trans S
    refine zr_return (a := 0) hk_153 rw_153_47 ?_
    exact ⟨_, rfl, rfl, SS⟩
  | succ n ih =>
    intro k r hkn SS
    refine zr_cut hk_153 rw_153_22 ?_
    refine zr_iload hk_153 rw_153_23 rfl ?_
    refine zi_const hk_153 rw_153_24 (c := 10) rfl ?_
    refine zi_icmp_ge hk_153 rw_153_25 (by unfold inR; omega) (by unfold inR; omega) (fun h25 => by omega) (fun h25 => ?_)
    refine zr_iload hk_153 rw_153_26 rfl ?_
    refine zr_iload hk_153 rw_153_27 rfl ?_
    refine zr_ishr hk_153 rw_153_28 ?_
    refine zi_const hk_153 rw_153_29 (c := 1) rfl ?_
    refine zr_iand hk_153 rw_153_30 ?_
    refine zi_const hk_153 rw_153_31 (c := 1) rfl ?_
    refine zo_icmp_ne hk_153 rw_153_32 (fun h32 => ?_) (fun h32 => ?_)
    · refine zi_inc hk_153 rw_153_37 rfl rfl inc_1 (lv' := [some (.ref 75), some (.int (iv ((c : Int)))), some (.int (o)), some (.int (x)), some (.int (kin)), some (.int (iv ((k : Int) + 1)))]) rfl ?_
      refine zr_goto hk_153 rw_153_38 ?_
      exact ih (k + 1) _ (by omega) SS
    · refine zr_aload hk_153 rw_153_33 rfl ?_
      refine zr_iload hk_153 rw_153_34 rfl ?_
      refine zr_iload hk_153 rw_153_35 rfl ?_
      refine c_punishes hk_153 hB rw_153_36 (by omega) (Nat.le_of_ble_eq_true rfl) (fun q S => ?_)
      have SS := SS.trans S
      refine zi_inc hk_153 rw_153_37 rfl rfl inc_1 (lv' := [some (.ref 75), some (.int (iv ((c : Int)))), some (.int (o)), some (.int (x)), some (.int (kin)), some (.int (iv ((k : Int) + 1)))]) rfl ?_
      refine zr_goto hk_153 rw_153_38 ?_
      exact ih (k + 1) _ (by omega) SS
theorem suffers_ok (d : Nat) (hB : 87 ≤ B.length) {c : Nat} {o x : Int32} (hc : c < 10) : ZC (d + 3) 153 [.ref 75, .int (iv (c : Int)), .int o, .int x] (mh B p a z) (fun v ph' => ∃ q, ph' = mh B q a z ∧ v = none ∧ Soft p q) := by
  have SS := Soft.rfl' p
  refine ZC.of (lv := [some (.ref 75), some (.int (iv ((c : Int)))), some (.int (o)), some (.int (x))]) hk_153 (fun i v hv => ?_) ?_
  · match i, hv with
    | 0, hv => cases hv; rfl
    | 1, hv => cases hv; rfl
    | 2, hv => cases hv; rfl
    | 3, hv => cases hv; rfl
    | i + 4, hv => simp at hv
  refine zr_aload hk_153 rw_153_0 rfl ?_
  refine zr_iload hk_153 rw_153_1 rfl ?_
  refine zi_const hk_153 rw_153_2 (c := 6) rfl ?_
  refine zi_const hk_153 rw_153_3 (c := 2) rfl ?_
  refine zr_aload hk_153 rw_153_4 rfl ?_
  refine zr_iload hk_153 rw_153_5 rfl ?_
  refine zi_const hk_153 rw_153_6 (c := 5) rfl ?_
  refine c_of hk_153 hB rw_153_7 (21 * c + 5) (by omega) (by omega) (Nat.le_of_ble_eq_true rfl) ?_
  refine zi_const hk_153 rw_153_8 (c := 32) rfl ?_
  refine zr_idiv hk_153 rw_153_9 (iv32_ne) ?_
  refine c_most hk_153 hB rw_153_10 (Nat.le_of_ble_eq_true rfl) ?_
  refine c_putS hk_153 hB rw_153_11 c 6 rfl rfl (by omega) (by decide) (by decide) (fun e => absurd e (by decide)) (fun _ => mx2_rg _) (Nat.le_of_ble_eq_true rfl) (fun q S => ?_)
  have SS := SS.trans S
  refine zr_aload hk_153 rw_153_12 rfl ?_
  refine zr_iload hk_153 rw_153_13 rfl ?_
  refine zr_iload hk_153 rw_153_14 rfl ?_
  refine c_punishes hk_153 hB rw_153_15 (by omega) (Nat.le_of_ble_eq_true rfl) (fun q S => ?_)
  have SS := SS.trans S
  refine zr_aload hk_153 rw_153_16 rfl ?_
  refine zr_iload hk_153 rw_153_17 rfl ?_
  refine c_kinOf hk_153 hB rw_153_18 (by omega) (Nat.le_of_ble_eq_true rfl) (fun kin => ?_)
  refine zi_istore hk_153 rw_153_19 rfl (lv' := [some (.ref 75), some (.int (iv ((c : Int)))), some (.int (o)), some (.int (x)), some (.int (kin))]) rfl ?_
  refine zi_const hk_153 rw_153_20 (c := 0) rfl ?_
  refine zi_istore hk_153 rw_153_21 rfl (lv' := [some (.ref 75), some (.int (iv ((c : Int)))), some (.int (o)), some (.int (x)), some (.int (kin)), some (.int (iv (0)))]) rfl ?_
  exact su_loop hB hc 10 0 _ (by omega) SS
theorem c_suffers (hk : k < 186) (hB : 87 ≤ B.length) {pc b x ix : Nat} {ts : List Nat} {c : Nat} {o y : Int32} (hrow : (codeOf k)[j]? = some (pc, .invokevirtual ix, 153, b, x, 3, ts)) (hc : c < 10) (hcat : catS st ≤ 8) (hQ : ∀ q, Soft p q → ZR (d + 4) k (j + 1) lv st (mh B q a z) Q) : ZR (d + 4) k j lv (.int y :: .int o :: .int (iv (c : Int)) :: .ref 75 :: st) (mh B p a z) Q := by
  refine mz_call (L := 6) (n := 3) (as := [.int (iv (c : Int)), .int o, .int y]) (r := st) hk hB hrow (by decide) (by decide) ⟨rfl, rfl, rfl, rfl⟩ rfl rfl hcat (Nat.le_of_ble_eq_true rfl) (suffers_ok d hB hc) ?_
  rintro w ph' ⟨q, rfl, rfl, hq⟩
  exact hQ q hq
theorem measures_ok (d : Nat) (hB : 87 ≤ B.length) {c : Nat} {r : Int32} (hc : c < 10) (hr : rg p (21 * c + 10) 0 16) : ZC (d + 1) 156 [.ref 75, .int (iv (c : Int)), .int r] (mh B p a z) (fun v ph' => ∃ q, ph' = mh B q a z ∧ v = none ∧ Soft p q) := by
  have SS := Soft.rfl' p
  refine ZC.of (lv := [some (.ref 75), some (.int (iv ((c : Int)))), some (.int (r))]) hk_156 (fun i v hv => ?_) ?_
  · match i, hv with
    | 0, hv => cases hv; rfl
    | 1, hv => cases hv; rfl
    | 2, hv => cases hv; rfl
    | i + 3, hv => simp at hv
  refine zr_aload hk_156 rw_156_0 rfl ?_
  refine zr_iload hk_156 rw_156_1 rfl ?_
  refine zi_const hk_156 rw_156_2 (c := 10) rfl ?_
  refine c_of hk_156 hB rw_156_3 (21 * c + 10) (by omega) (by omega) (Nat.le_of_ble_eq_true rfl) ?_
  refine zo_if_ne hk_156 rw_156_4 (fun h4 => ?_) (fun h4 => ?_)
  · refine zr_iload hk_156 rw_156_20 rfl ?_
    refine zr_aload hk_156 rw_156_21 rfl ?_
    refine zr_iload hk_156 rw_156_22 rfl ?_
    refine zi_const hk_156 rw_156_23 (c := 8) rfl ?_
    refine c_of hk_156 hB rw_156_24 (21 * c + 8) (by omega) (by omega) (Nat.le_of_ble_eq_true rfl) ?_
    refine zi_const hk_156 rw_156_25 (c := 8) rfl ?_
    refine zr_idiv hk_156 rw_156_26 (iv8_ne) ?_
    refine zr_isub hk_156 rw_156_27 ?_
    refine zi_istore hk_156 rw_156_28 rfl (lv' := [some (.ref 75), some (.int (iv ((c : Int)))), some (.int (r)), some (.int ((r) - (_)))]) rfl ?_
    refine zr_aload hk_156 rw_156_29 rfl ?_
    refine zr_iload hk_156 rw_156_30 rfl ?_
    refine zi_const hk_156 rw_156_31 (c := 8) rfl ?_
    refine zr_aload hk_156 rw_156_32 rfl ?_
    refine zr_iload hk_156 rw_156_33 rfl ?_
    refine zi_const hk_156 rw_156_34 (c := 8) rfl ?_
    refine c_of hk_156 hB rw_156_35 (21 * c + 8) (by omega) (by omega) (Nat.le_of_ble_eq_true rfl) ?_
    refine zr_iload hk_156 rw_156_36 rfl ?_
    refine zr_iadd hk_156 rw_156_37 ?_
    refine c_putS hk_156 hB rw_156_38 c 8 rfl rfl (by omega) (by decide) (by decide) (fun e => absurd e (by decide)) (fun e => absurd e (by decide)) (Nat.le_of_ble_eq_true rfl) (fun q S => ?_)
    have SS := SS.trans S
    refine zr_aload hk_156 rw_156_39 rfl ?_
    refine zr_iload hk_156 rw_156_40 rfl ?_
    refine zi_const hk_156 rw_156_41 (c := 9) rfl ?_
    refine zr_aload hk_156 rw_156_42 rfl ?_
    refine zr_iload hk_156 rw_156_43 rfl ?_
    refine zi_const hk_156 rw_156_44 (c := 9) rfl ?_
    refine c_of hk_156 hB rw_156_45 (21 * c + 9) (by omega) (by omega) (Nat.le_of_ble_eq_true rfl) ?_
    refine zr_iload hk_156 rw_156_46 rfl ?_
    refine zo_if_ge hk_156 rw_156_47 (fun h47 => ?_) (fun h47 => ?_)
    · refine zr_iload hk_156 rw_156_51 rfl ?_
      refine zr_iadd hk_156 rw_156_52 ?_
      refine zr_aload hk_156 rw_156_53 rfl ?_
      refine zr_iload hk_156 rw_156_54 rfl ?_
      refine zi_const hk_156 rw_156_55 (c := 9) rfl ?_
      refine c_of hk_156 hB rw_156_56 (21 * c + 9) (by omega) (by omega) (Nat.le_of_ble_eq_true rfl) ?_
      refine zi_const hk_156 rw_156_57 (c := 4) rfl ?_
      refine zr_idiv hk_156 rw_156_58 (iv4_ne) ?_
      refine zr_isub hk_156 rw_156_59 ?_
      refine c_putS hk_156 hB rw_156_60 c 9 rfl rfl (by omega) (by decide) (by decide) (fun e => absurd e (by decide)) (fun e => absurd e (by decide)) (Nat.le_of_ble_eq_true rfl) (fun q S => ?_)
      have SS := SS.trans S
      refine zr_aload hk_156 rw_156_61 rfl ?_
      refine zr_iload hk_156 rw_156_62 rfl ?_
      refine zi_const hk_156 rw_156_63 (c := 7) rfl ?_
      refine zi_const hk_156 rw_156_64 (c := 1) rfl ?_
      refine c_putS hk_156 hB rw_156_65 c 7 rfl rfl (by omega) (by decide) (by decide) (fun e => absurd e (by decide)) (fun e => absurd e (by decide)) (Nat.le_of_ble_eq_true rfl) (fun q S => ?_)
      have SS := SS.trans S
      refine zr_aload hk_156 rw_156_66 rfl ?_
      refine zr_iload hk_156 rw_156_67 rfl ?_
      refine zi_const hk_156 rw_156_68 (c := 10) rfl ?_
      refine zi_const hk_156 rw_156_69 (c := 16) rfl ?_
      refine zr_aload hk_156 rw_156_70 rfl ?_
      refine zr_iload hk_156 rw_156_71 rfl ?_
      refine zi_const hk_156 rw_156_72 (c := 10) rfl ?_
      refine c_of hk_156 hB rw_156_73 (21 * c + 10) (by omega) (by omega) (Nat.le_of_ble_eq_true rfl) ?_
      refine zi_const hk_156 rw_156_74 (c := 1) rfl ?_
      refine zr_iadd hk_156 rw_156_75 ?_
      refine c_least hk_156 hB rw_156_76 (Nat.le_of_ble_eq_true rfl) ?_
      refine c_putS hk_156 hB rw_156_77 c 10 rfl rfl (by omega) (by decide) (by decide) (fun _ => by obtain ⟨e, e1, e2, e3⟩ := (SS.2 c hc).2.2.2.2.1 hr; exact mn16_rg e1 e2 e3) (fun e => absurd e (by decide)) (Nat.le_of_ble_eq_true rfl) (fun q S => ?_)
      have SS := SS.trans S
      refine zr_aload hk_156 rw_156_78 rfl ?_
      refine zr_iload hk_156 rw_156_79 rfl ?_
      refine zi_const hk_156 rw_156_80 (c := 11) rfl ?_
      refine zi_const hk_156 rw_156_81 (c := 0) rfl ?_
      refine c_putS hk_156 hB rw_156_82 c 11 rfl rfl (by omega) (by decide) (by decide) (fun e => absurd e (by decide)) (fun e => absurd e (by decide)) (Nat.le_of_ble_eq_true rfl) (fun q S => ?_)
      have SS := SS.trans S
      refine zr_return (a := 0) hk_156 rw_156_83 ?_
      exact ⟨_, rfl, rfl, SS⟩
    · refine zr_iload hk_156 rw_156_48 rfl ?_
      refine zr_ineg hk_156 rw_156_49 ?_
      refine zr_goto hk_156 rw_156_50 ?_
      refine zr_iadd hk_156 rw_156_52 ?_
      refine zr_aload hk_156 rw_156_53 rfl ?_
      refine zr_iload hk_156 rw_156_54 rfl ?_
      refine zi_const hk_156 rw_156_55 (c := 9) rfl ?_
      refine c_of hk_156 hB rw_156_56 (21 * c + 9) (by omega) (by omega) (Nat.le_of_ble_eq_true rfl) ?_
      refine zi_const hk_156 rw_156_57 (c := 4) rfl ?_
      refine zr_idiv hk_156 rw_156_58 (iv4_ne) ?_
      refine zr_isub hk_156 rw_156_59 ?_
      refine c_putS hk_156 hB rw_156_60 c 9 rfl rfl (by omega) (by decide) (by decide) (fun e => absurd e (by decide)) (fun e => absurd e (by decide)) (Nat.le_of_ble_eq_true rfl) (fun q S => ?_)
      have SS := SS.trans S
      refine zr_aload hk_156 rw_156_61 rfl ?_
      refine zr_iload hk_156 rw_156_62 rfl ?_
      refine zi_const hk_156 rw_156_63 (c := 7) rfl ?_
      refine zi_const hk_156 rw_156_64 (c := 1) rfl ?_
      refine c_putS hk_156 hB rw_156_65 c 7 rfl rfl (by omega) (by decide) (by decide) (fun e => absurd e (by decide)) (fun e => absurd e (by decide)) (Nat.le_of_ble_eq_true rfl) (fun q S => ?_)
      have SS := SS.trans S
      refine zr_aload hk_156 rw_156_66 rfl ?_
      refine zr_iload hk_156 rw_156_67 rfl ?_
      refine zi_const hk_156 rw_156_68 (c := 10) rfl ?_
      refine zi_const hk_156 rw_156_69 (c := 16) rfl ?_
      refine zr_aload hk_156 rw_156_70 rfl ?_
      refine zr_iload hk_156 rw_156_71 rfl ?_
      refine zi_const hk_156 rw_156_72 (c := 10) rfl ?_
      refine c_of hk_156 hB rw_156_73 (21 * c + 10) (by omega) (by omega) (Nat.le_of_ble_eq_true rfl) ?_
      refine zi_const hk_156 rw_156_74 (c := 1) rfl ?_
      refine zr_iadd hk_156 rw_156_75 ?_
      refine c_least hk_156 hB rw_156_76 (Nat.le_of_ble_eq_true rfl) ?_
      refine c_putS hk_156 hB rw_156_77 c 10 rfl rfl (by omega) (by decide) (by decide) (fun _ => by obtain ⟨e, e1, e2, e3⟩ := (SS.2 c hc).2.2.2.2.1 hr; exact mn16_rg e1 e2 e3) (fun e => absurd e (by decide)) (Nat.le_of_ble_eq_true rfl) (fun q S => ?_)
      have SS := SS.trans S
      refine zr_aload hk_156 rw_156_78 rfl ?_
      refine zr_iload hk_156 rw_156_79 rfl ?_
      refine zi_const hk_156 rw_156_80 (c := 11) rfl ?_
      refine zi_const hk_156 rw_156_81 (c := 0) rfl ?_
      refine c_putS hk_156 hB rw_156_82 c 11 rfl rfl (by omega) (by decide) (by decide) (fun e => absurd e (by decide)) (fun e => absurd e (by decide)) (Nat.le_of_ble_eq_true rfl) (fun q S => ?_)
      have SS := SS.trans S
      refine zr_return (a := 0) hk_156 rw_156_83 ?_
      exact ⟨_, rfl, rfl, SS⟩
  · refine zr_aload hk_156 rw_156_5 rfl ?_
    refine zr_iload hk_156 rw_156_6 rfl ?_
    refine zi_const hk_156 rw_156_7 (c := 8) rfl ?_
    refine zi_const hk_156 rw_156_8 (c := 8) rfl ?_
    refine zr_iload hk_156 rw_156_9 rfl ?_
    refine zr_imul hk_156 rw_156_10 ?_
    refine c_putS hk_156 hB rw_156_11 c 8 rfl rfl (by omega) (by decide) (by decide) (fun e => absurd e (by decide)) (fun e => absurd e (by decide)) (Nat.le_of_ble_eq_true rfl) (fun q S => ?_)
    have SS := SS.trans S
    refine zr_aload hk_156 rw_156_12 rfl ?_
    refine zr_iload hk_156 rw_156_13 rfl ?_
    refine zi_const hk_156 rw_156_14 (c := 9) rfl ?_
    refine zi_const hk_156 rw_156_15 (c := 2) rfl ?_
    refine zr_iload hk_156 rw_156_16 rfl ?_
    refine zr_imul hk_156 rw_156_17 ?_
    refine c_putS hk_156 hB rw_156_18 c 9 rfl rfl (by omega) (by decide) (by decide) (fun e => absurd e (by decide)) (fun e => absurd e (by decide)) (Nat.le_of_ble_eq_true rfl) (fun q S => ?_)
    have SS := SS.trans S
    refine zr_goto hk_156 rw_156_19 ?_
    refine zr_aload hk_156 rw_156_61 rfl ?_
    refine zr_iload hk_156 rw_156_62 rfl ?_
    refine zi_const hk_156 rw_156_63 (c := 7) rfl ?_
    refine zi_const hk_156 rw_156_64 (c := 1) rfl ?_
    refine c_putS hk_156 hB rw_156_65 c 7 rfl rfl (by omega) (by decide) (by decide) (fun e => absurd e (by decide)) (fun e => absurd e (by decide)) (Nat.le_of_ble_eq_true rfl) (fun q S => ?_)
    have SS := SS.trans S
    refine zr_aload hk_156 rw_156_66 rfl ?_
    refine zr_iload hk_156 rw_156_67 rfl ?_
    refine zi_const hk_156 rw_156_68 (c := 10) rfl ?_
    refine zi_const hk_156 rw_156_69 (c := 16) rfl ?_
    refine zr_aload hk_156 rw_156_70 rfl ?_
    refine zr_iload hk_156 rw_156_71 rfl ?_
    refine zi_const hk_156 rw_156_72 (c := 10) rfl ?_
    refine c_of hk_156 hB rw_156_73 (21 * c + 10) (by omega) (by omega) (Nat.le_of_ble_eq_true rfl) ?_
    refine zi_const hk_156 rw_156_74 (c := 1) rfl ?_
    refine zr_iadd hk_156 rw_156_75 ?_
    refine c_least hk_156 hB rw_156_76 (Nat.le_of_ble_eq_true rfl) ?_
    refine c_putS hk_156 hB rw_156_77 c 10 rfl rfl (by omega) (by decide) (by decide) (fun _ => by obtain ⟨e, e1, e2, e3⟩ := (SS.2 c hc).2.2.2.2.1 hr; exact mn16_rg e1 e2 e3) (fun e => absurd e (by decide)) (Nat.le_of_ble_eq_true rfl) (fun q S => ?_)
    have SS := SS.trans S
    refine zr_aload hk_156 rw_156_78 rfl ?_
    refine zr_iload hk_156 rw_156_79 rfl ?_
    refine zi_const hk_156 rw_156_80 (c := 11) rfl ?_
    refine zi_const hk_156 rw_156_81 (c := 0) rfl ?_
    refine c_putS hk_156 hB rw_156_82 c 11 rfl rfl (by omega) (by decide) (by decide) (fun e => absurd e (by decide)) (fun e => absurd e (by decide)) (Nat.le_of_ble_eq_true rfl) (fun q S => ?_)
    have SS := SS.trans S
    refine zr_return (a := 0) hk_156 rw_156_83 ?_
    exact ⟨_, rfl, rfl, SS⟩
theorem c_measures (hk : k < 186) (hB : 87 ≤ B.length) {pc b x ix : Nat} {ts : List Nat} {c : Nat} {r : Int32} (hrow : (codeOf k)[j]? = some (pc, .invokevirtual ix, 156, b, x, 3, ts)) (hc : c < 10) (hr : rg p (21 * c + 10) 0 16) (hcat : catS st ≤ 8) (hQ : ∀ q, Soft p q → ZR (d + 2) k (j + 1) lv st (mh B q a z) Q) : ZR (d + 2) k j lv (.int r :: .int (iv (c : Int)) :: .ref 75 :: st) (mh B p a z) Q := by
  refine mz_call (L := 4) (n := 2) (as := [.int (iv (c : Int)), .int r]) (r := st) hk hB hrow (by decide) (by decide) ⟨rfl, rfl, rfl, rfl⟩ rfl rfl hcat (Nat.le_of_ble_eq_true rfl) (measures_ok d hB hc hr) ?_
  rintro w ph' ⟨q, rfl, rfl, hq⟩
  exact hQ q hq
theorem grows_ok (d : Nat) (hB : 87 ≤ B.length) {c : Nat} (hc : c < 10) (hr : rg p (21 * c + 6) 1 2147483647) : ZC (d + 1) 157 [.ref 75, .int (iv (c : Int))] (mh B p a z) (fun v ph' => ∃ q, ph' = mh B q a z ∧ v = none ∧ Soft p q) := by
  have SS := Soft.rfl' p
  obtain ⟨e6, h61, h62, h63⟩ := hr
  refine ZC.of (lv := [some (.ref 75), some (.int (iv ((c : Int))))]) hk_157 (fun i v hv => ?_) ?_
  · match i, hv with
    | 0, hv => cases hv; rfl
    | 1, hv => cases hv; rfl
    | i + 2, hv => simp at hv
  refine zr_aload hk_157 rw_157_0 rfl ?_
  refine zr_iload hk_157 rw_157_1 rfl ?_
  refine zi_const hk_157 rw_157_2 (c := 5) rfl ?_
  refine c_of hk_157 hB rw_157_3 (21 * c + 5) (by omega) (by omega) (Nat.le_of_ble_eq_true rfl) ?_
  refine zi_istore hk_157 rw_157_4 rfl (lv' := [some (.ref 75), some (.int (iv ((c : Int)))), some (.int (_))]) rfl ?_
  refine zr_iload hk_157 rw_157_5 rfl ?_
  refine zi_const hk_157 rw_157_6 (c := 16) rfl ?_
  refine zr_idiv hk_157 rw_157_7 (iv16_ne) ?_
  refine zr_aload hk_157 rw_157_8 rfl ?_
  refine zr_iload hk_157 rw_157_9 rfl ?_
  refine zi_const hk_157 rw_157_10 (c := 6) rfl ?_
  refine c_of hk_157 hB rw_157_11 (21 * c + 6) (by omega) (by omega) (Nat.le_of_ble_eq_true rfl) ?_
  refine zo_icmp_ge hk_157 rw_157_12 (fun h12 => ?_) (fun h12 => ?_)
  · refine zi_const hk_157 rw_157_15 (c := 1) rfl ?_
    refine zi_const hk_157 rw_157_16 (c := 256) rfl ?_
    refine zr_iload hk_157 rw_157_17 rfl ?_
    refine zr_idiv hk_157 rw_157_18 (grow_ne h61 h62 h63 h12) ?_
    refine c_most hk_157 hB rw_157_19 (Nat.le_of_ble_eq_true rfl) ?_
    refine zi_istore hk_157 rw_157_20 rfl (lv' := [some (.ref 75), some (.int (iv ((c : Int)))), some (.int (_)), some (.int (_))]) rfl ?_
    refine zr_aload hk_157 rw_157_21 rfl ?_
    refine zr_iload hk_157 rw_157_22 rfl ?_
    refine zi_const hk_157 rw_157_23 (c := 5) rfl ?_
    refine zi_const hk_157 rw_157_24 (c := 1024) rfl ?_
    refine zr_iload hk_157 rw_157_25 rfl ?_
    refine zr_iload hk_157 rw_157_26 rfl ?_
    refine zr_iadd hk_157 rw_157_27 ?_
    refine c_least hk_157 hB rw_157_28 (Nat.le_of_ble_eq_true rfl) ?_
    refine c_putS hk_157 hB rw_157_29 c 5 rfl rfl (by omega) (by decide) (by decide) (fun e => absurd e (by decide)) (fun e => absurd e (by decide)) (Nat.le_of_ble_eq_true rfl) (fun q S => ?_)
    have SS := SS.trans S
    refine zr_return (a := 0) hk_157 rw_157_30 ?_
    exact ⟨_, rfl, rfl, SS⟩
  · refine zi_const hk_157 rw_157_13 (c := 16) rfl ?_
    refine zr_goto hk_157 rw_157_14 ?_
    refine zi_istore hk_157 rw_157_20 rfl (lv' := [some (.ref 75), some (.int (iv ((c : Int)))), some (.int (_)), some (.int (iv (16)))]) rfl ?_
    refine zr_aload hk_157 rw_157_21 rfl ?_
    refine zr_iload hk_157 rw_157_22 rfl ?_
    refine zi_const hk_157 rw_157_23 (c := 5) rfl ?_
    refine zi_const hk_157 rw_157_24 (c := 1024) rfl ?_
    refine zr_iload hk_157 rw_157_25 rfl ?_
    refine zr_iload hk_157 rw_157_26 rfl ?_
    refine zr_iadd hk_157 rw_157_27 ?_
    refine c_least hk_157 hB rw_157_28 (Nat.le_of_ble_eq_true rfl) ?_
    refine c_putS hk_157 hB rw_157_29 c 5 rfl rfl (by omega) (by decide) (by decide) (fun e => absurd e (by decide)) (fun e => absurd e (by decide)) (Nat.le_of_ble_eq_true rfl) (fun q S => ?_)
    have SS := SS.trans S
    refine zr_return (a := 0) hk_157 rw_157_30 ?_
    exact ⟨_, rfl, rfl, SS⟩
theorem c_grows (hk : k < 186) (hB : 87 ≤ B.length) {pc b x ix : Nat} {ts : List Nat} {c : Nat} (hrow : (codeOf k)[j]? = some (pc, .invokevirtual ix, 157, b, x, 3, ts)) (hc : c < 10) (hr : rg p (21 * c + 6) 1 2147483647) (hcat : catS st ≤ 8) (hQ : ∀ q, Soft p q → ZR (d + 2) k (j + 1) lv st (mh B q a z) Q) : ZR (d + 2) k j lv (.int (iv (c : Int)) :: .ref 75 :: st) (mh B p a z) Q := by
  refine mz_call (L := 4) (n := 1) (as := [.int (iv (c : Int))]) (r := st) hk hB hrow (by decide) (by decide) ⟨rfl, rfl, rfl, rfl⟩ rfl rfl hcat (Nat.le_of_ble_eq_true rfl) (grows_ok d hB hc hr) ?_
  rintro w ph' ⟨q, rfl, rfl, hq⟩
  exact hQ q hq
end ME

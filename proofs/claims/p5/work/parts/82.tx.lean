/-! ===== by program (wip/gen/m82.py): texts ===== -/
theorem kc120_eq : codeOf 120 = kc120 := rfl
theorem hk_120 : 120 < 186 := by decide
theorem rw_120_0 : (codeOf 120)[0]? = some (0, .iload 1, 1, 0, 0, 1, []) := by rw [kc120_eq]; rfl
theorem rw_120_1 : (codeOf 120)[1]? = some (1, .iconst 32, 2147483680, 0, 0, 2, []) := by rw [kc120_eq]; rfl
theorem rw_120_2 : (codeOf 120)[2]? = some (3, .iconst 126, 2147483774, 0, 0, 2, []) := by rw [kc120_eq]; rfl
theorem rw_120_3 : (codeOf 120)[3]? = some (5, .invokestatic 58, 121, 0, 0, 3, []) := by rw [kc120_eq]; rfl
theorem rw_120_4 : (codeOf 120)[4]? = some (8, .ifCond .ne 5, 13, 7, 0, 3, []) := by rw [kc120_eq]; rfl
theorem rw_120_5 : (codeOf 120)[5]? = some (11, .iconst (-1), 2147483647, 0, 0, 1, []) := by rw [kc120_eq]; rfl
theorem rw_120_6 : (codeOf 120)[6]? = some (12, .ireturn, 1, 0, 0, 1, []) := by rw [kc120_eq]; rfl
theorem rw_120_7 : (codeOf 120)[7]? = some (13, .aload 0, 0, 0, 3, 1, []) := by rw [kc120_eq]; rfl
theorem rw_120_8 : (codeOf 120)[8]? = some (14, .getfield 70, 9, 3, 0, 3, []) := by rw [kc120_eq]; rfl
theorem rw_120_9 : (codeOf 120)[9]? = some (17, .iconst 60, 2147483708, 0, 0, 2, []) := by rw [kc120_eq]; rfl
theorem rw_120_10 : (codeOf 120)[10]? = some (19, .if_icmp .ne 6, 25, 13, 0, 3, []) := by rw [kc120_eq]; rfl
theorem rw_120_11 : (codeOf 120)[11]? = some (22, .iconst (-3), 2147483645, 0, 0, 2, []) := by rw [kc120_eq]; rfl
theorem rw_120_12 : (codeOf 120)[12]? = some (24, .ireturn, 1, 0, 0, 1, []) := by rw [kc120_eq]; rfl
theorem rw_120_13 : (codeOf 120)[13]? = some (25, .aload 0, 0, 0, 3, 1, []) := by rw [kc120_eq]; rfl
theorem rw_120_14 : (codeOf 120)[14]? = some (26, .getfield 13, 9, 2, 3, 3, []) := by rw [kc120_eq]; rfl
theorem rw_120_15 : (codeOf 120)[15]? = some (29, .aload 0, 0, 0, 3, 1, []) := by rw [kc120_eq]; rfl
theorem rw_120_16 : (codeOf 120)[16]? = some (30, .getfield 70, 9, 3, 0, 3, []) := by rw [kc120_eq]; rfl
theorem rw_120_17 : (codeOf 120)[17]? = some (33, .iload 1, 1, 0, 0, 1, []) := by rw [kc120_eq]; rfl
theorem rw_120_18 : (codeOf 120)[18]? = some (34, .iastore, 0, 0, 0, 1, []) := by rw [kc120_eq]; rfl
theorem rw_120_19 : (codeOf 120)[19]? = some (35, .aload 0, 0, 0, 3, 1, []) := by rw [kc120_eq]; rfl
theorem rw_120_20 : (codeOf 120)[20]? = some (36, .dup, 0, 0, 0, 1, []) := by rw [kc120_eq]; rfl
theorem rw_120_21 : (codeOf 120)[21]? = some (37, .getfield 70, 9, 3, 0, 3, []) := by rw [kc120_eq]; rfl
theorem rw_120_22 : (codeOf 120)[22]? = some (40, .iconst 1, 2147483649, 0, 0, 1, []) := by rw [kc120_eq]; rfl
theorem rw_120_23 : (codeOf 120)[23]? = some (41, .iadd, 0, 0, 0, 1, []) := by rw [kc120_eq]; rfl
theorem rw_120_24 : (codeOf 120)[24]? = some (42, .putfield 70, 9, 3, 0, 3, []) := by rw [kc120_eq]; rfl
theorem rw_120_25 : (codeOf 120)[25]? = some (45, .aload 0, 0, 0, 3, 1, []) := by rw [kc120_eq]; rfl
theorem rw_120_26 : (codeOf 120)[26]? = some (46, .getfield 70, 9, 3, 0, 3, []) := by rw [kc120_eq]; rfl
theorem rw_120_27 : (codeOf 120)[27]? = some (49, .ireturn, 1, 0, 0, 1, []) := by rw [kc120_eq]; rfl
theorem kc122_eq : codeOf 122 = kc122 := rfl
theorem hk_122 : 122 < 186 := by decide
theorem rw_122_0 : (codeOf 122)[0]? = some (0, .aload 0, 0, 0, 3, 1, []) := by rw [kc122_eq]; rfl
theorem rw_122_1 : (codeOf 122)[1]? = some (1, .getfield 70, 9, 3, 0, 3, []) := by rw [kc122_eq]; rfl
theorem rw_122_2 : (codeOf 122)[2]? = some (4, .istore 1, 1, 0, 0, 1, []) := by rw [kc122_eq]; rfl
theorem rw_122_3 : (codeOf 122)[3]? = some (5, .aload 0, 0, 0, 3, 1, []) := by rw [kc122_eq]; rfl
theorem rw_122_4 : (codeOf 122)[4]? = some (6, .iconst 0, 2147483648, 0, 0, 1, []) := by rw [kc122_eq]; rfl
theorem rw_122_5 : (codeOf 122)[5]? = some (7, .putfield 70, 9, 3, 0, 3, []) := by rw [kc122_eq]; rfl
theorem rw_122_6 : (codeOf 122)[6]? = some (10, .iload 1, 1, 0, 0, 1, []) := by rw [kc122_eq]; rfl
theorem rw_122_7 : (codeOf 122)[7]? = some (11, .ireturn, 1, 0, 0, 1, []) := by rw [kc122_eq]; rfl
theorem kc123_eq : codeOf 123 = kc123 := rfl
theorem hk_123 : 123 < 186 := by decide
theorem rw_123_0 : (codeOf 123)[0]? = some (0, .aload 0, 0, 0, 3, 1, []) := by rw [kc123_eq]; rfl
theorem rw_123_1 : (codeOf 123)[1]? = some (1, .iconst (-9), 2147483639, 0, 0, 2, []) := by rw [kc123_eq]; rfl
theorem rw_123_2 : (codeOf 123)[2]? = some (3, .putfield 16, 9, 4, 0, 3, []) := by rw [kc123_eq]; rfl
theorem rw_123_3 : (codeOf 123)[3]? = some (6, .aload 0, 0, 0, 3, 1, []) := by rw [kc123_eq]; rfl
theorem rw_123_4 : (codeOf 123)[4]? = some (7, .invokevirtual 79, 124, 0, 0, 3, []) := by rw [kc123_eq]; rfl
theorem rw_123_5 : (codeOf 123)[5]? = some (10, .istore 1, 1, 0, 0, 1, []) := by rw [kc123_eq]; rfl
theorem rw_123_6 : (codeOf 123)[6]? = some (11, .iload 1, 1, 0, 0, 1, []) := by rw [kc123_eq]; rfl
theorem rw_123_7 : (codeOf 123)[7]? = some (12, .ifCond .eq 5, 17, 10, 0, 3, []) := by rw [kc123_eq]; rfl
theorem rw_123_8 : (codeOf 123)[8]? = some (15, .iload 1, 1, 0, 0, 1, []) := by rw [kc123_eq]; rfl
theorem rw_123_9 : (codeOf 123)[9]? = some (16, .ireturn, 1, 0, 0, 1, []) := by rw [kc123_eq]; rfl
theorem rw_123_10 : (codeOf 123)[10]? = some (17, .aload 0, 0, 0, 3, 1, []) := by rw [kc123_eq]; rfl
theorem rw_123_11 : (codeOf 123)[11]? = some (18, .invokevirtual 83, 126, 0, 0, 3, []) := by rw [kc123_eq]; rfl
theorem rw_123_12 : (codeOf 123)[12]? = some (21, .aload 0, 0, 0, 3, 1, []) := by rw [kc123_eq]; rfl
theorem rw_123_13 : (codeOf 123)[13]? = some (22, .aload 0, 0, 0, 3, 1, []) := by rw [kc123_eq]; rfl
theorem rw_123_14 : (codeOf 123)[14]? = some (23, .getfield 20, 9, 5, 3, 3, []) := by rw [kc123_eq]; rfl
theorem rw_123_15 : (codeOf 123)[15]? = some (26, .iconst 0, 2147483648, 0, 0, 1, []) := by rw [kc123_eq]; rfl
theorem rw_123_16 : (codeOf 123)[16]? = some (27, .iaload, 0, 0, 0, 1, []) := by rw [kc123_eq]; rfl
theorem rw_123_17 : (codeOf 123)[17]? = some (28, .invokevirtual 47, 118, 0, 0, 3, []) := by rw [kc123_eq]; rfl
theorem rw_123_18 : (codeOf 123)[18]? = some (31, .iconst 1, 2147483649, 0, 0, 1, []) := by rw [kc123_eq]; rfl
theorem rw_123_19 : (codeOf 123)[19]? = some (32, .istore 2, 2, 0, 0, 1, []) := by rw [kc123_eq]; rfl
theorem rw_123_20 : (codeOf 123)[20]? = some (33, .monitorexit, 984, 0, 0, 0, []) := by rw [kc123_eq]; rfl
theorem rw_123_21 : (codeOf 123)[21]? = some (33, .iload 2, 2, 0, 0, 1, []) := by rw [kc123_eq]; rfl
theorem rw_123_22 : (codeOf 123)[22]? = some (34, .aload 0, 0, 0, 3, 1, []) := by rw [kc123_eq]; rfl
theorem rw_123_23 : (codeOf 123)[23]? = some (35, .getfield 73, 9, 7, 0, 3, []) := by rw [kc123_eq]; rfl
theorem rw_123_24 : (codeOf 123)[24]? = some (38, .if_icmp .ge 26, 64, 38, 0, 3, []) := by rw [kc123_eq]; rfl
theorem rw_123_25 : (codeOf 123)[25]? = some (41, .aload 0, 0, 0, 3, 1, []) := by rw [kc123_eq]; rfl
theorem rw_123_26 : (codeOf 123)[26]? = some (42, .aload 0, 0, 0, 3, 1, []) := by rw [kc123_eq]; rfl
theorem rw_123_27 : (codeOf 123)[27]? = some (43, .getfield 23, 9, 6, 3, 3, []) := by rw [kc123_eq]; rfl
theorem rw_123_28 : (codeOf 123)[28]? = some (46, .iload 2, 2, 0, 0, 1, []) := by rw [kc123_eq]; rfl
theorem rw_123_29 : (codeOf 123)[29]? = some (47, .iaload, 0, 0, 0, 1, []) := by rw [kc123_eq]; rfl
theorem rw_123_30 : (codeOf 123)[30]? = some (48, .aload 0, 0, 0, 3, 1, []) := by rw [kc123_eq]; rfl
theorem rw_123_31 : (codeOf 123)[31]? = some (49, .getfield 20, 9, 5, 3, 3, []) := by rw [kc123_eq]; rfl
theorem rw_123_32 : (codeOf 123)[32]? = some (52, .iload 2, 2, 0, 0, 1, []) := by rw [kc123_eq]; rfl
theorem rw_123_33 : (codeOf 123)[33]? = some (53, .iaload, 0, 0, 0, 1, []) := by rw [kc123_eq]; rfl
theorem rw_123_34 : (codeOf 123)[34]? = some (54, .invokevirtual 86, 128, 0, 0, 3, []) := by rw [kc123_eq]; rfl
theorem rw_123_35 : (codeOf 123)[35]? = some (57, .pop, 0, 0, 0, 1, []) := by rw [kc123_eq]; rfl
theorem rw_123_36 : (codeOf 123)[36]? = some (58, .iinc 2 1, 2, 1, 0, 3, []) := by rw [kc123_eq]; rfl
theorem rw_123_37 : (codeOf 123)[37]? = some (61, .goto (-28), 33, 20, 0, 3, []) := by rw [kc123_eq]; rfl
theorem rw_123_38 : (codeOf 123)[38]? = some (64, .aload 0, 0, 0, 3, 1, []) := by rw [kc123_eq]; rfl
theorem rw_123_39 : (codeOf 123)[39]? = some (65, .getfield 73, 9, 7, 0, 3, []) := by rw [kc123_eq]; rfl
theorem rw_123_40 : (codeOf 123)[40]? = some (68, .ireturn, 1, 0, 0, 1, []) := by rw [kc123_eq]; rfl
theorem kc124_eq : codeOf 124 = kc124 := rfl
theorem hk_124 : 124 < 186 := by decide
theorem rw_124_0 : (codeOf 124)[0]? = some (0, .aload 0, 0, 0, 3, 1, []) := by rw [kc124_eq]; rfl
theorem rw_124_1 : (codeOf 124)[1]? = some (1, .iconst 0, 2147483648, 0, 0, 1, []) := by rw [kc124_eq]; rfl
theorem rw_124_2 : (codeOf 124)[2]? = some (2, .putfield 73, 9, 7, 0, 3, []) := by rw [kc124_eq]; rfl
theorem rw_124_3 : (codeOf 124)[3]? = some (5, .iconst 0, 2147483648, 0, 0, 1, []) := by rw [kc124_eq]; rfl
theorem rw_124_4 : (codeOf 124)[4]? = some (6, .istore 1, 1, 0, 0, 1, []) := by rw [kc124_eq]; rfl
theorem rw_124_5 : (codeOf 124)[5]? = some (7, .iconst 1, 2147483649, 0, 0, 1, []) := by rw [kc124_eq]; rfl
theorem rw_124_6 : (codeOf 124)[6]? = some (8, .istore 2, 2, 0, 0, 1, []) := by rw [kc124_eq]; rfl
theorem rw_124_7 : (codeOf 124)[7]? = some (9, .iconst 0, 2147483648, 0, 0, 1, []) := by rw [kc124_eq]; rfl
theorem rw_124_8 : (codeOf 124)[8]? = some (10, .istore 3, 3, 0, 0, 1, []) := by rw [kc124_eq]; rfl
theorem rw_124_9 : (codeOf 124)[9]? = some (11, .iconst 0, 2147483648, 0, 0, 1, []) := by rw [kc124_eq]; rfl
theorem rw_124_10 : (codeOf 124)[10]? = some (12, .istore 4, 4, 0, 0, 2, []) := by rw [kc124_eq]; rfl
theorem rw_124_11 : (codeOf 124)[11]? = some (14, .monitorexit, 992, 0, 0, 0, []) := by rw [kc124_eq]; rfl
theorem rw_124_12 : (codeOf 124)[12]? = some (14, .iload 4, 4, 0, 0, 2, []) := by rw [kc124_eq]; rfl
theorem rw_124_13 : (codeOf 124)[13]? = some (16, .aload 0, 0, 0, 3, 1, []) := by rw [kc124_eq]; rfl
theorem rw_124_14 : (codeOf 124)[14]? = some (17, .getfield 70, 9, 3, 0, 3, []) := by rw [kc124_eq]; rfl
theorem rw_124_15 : (codeOf 124)[15]? = some (20, .if_icmp .ge 213, 233, 129, 0, 3, []) := by rw [kc124_eq]; rfl
theorem rw_124_16 : (codeOf 124)[16]? = some (23, .aload 0, 0, 0, 3, 1, []) := by rw [kc124_eq]; rfl
theorem rw_124_17 : (codeOf 124)[17]? = some (24, .getfield 13, 9, 2, 3, 3, []) := by rw [kc124_eq]; rfl
theorem rw_124_18 : (codeOf 124)[18]? = some (27, .iload 4, 4, 0, 0, 2, []) := by rw [kc124_eq]; rfl
theorem rw_124_19 : (codeOf 124)[19]? = some (29, .iaload, 0, 0, 0, 1, []) := by rw [kc124_eq]; rfl
theorem rw_124_20 : (codeOf 124)[20]? = some (30, .istore 5, 5, 0, 0, 2, []) := by rw [kc124_eq]; rfl
theorem rw_124_21 : (codeOf 124)[21]? = some (32, .iload 5, 5, 0, 0, 2, []) := by rw [kc124_eq]; rfl
theorem rw_124_22 : (codeOf 124)[22]? = some (34, .iconst 48, 2147483696, 0, 0, 2, []) := by rw [kc124_eq]; rfl
theorem rw_124_23 : (codeOf 124)[23]? = some (36, .iconst 57, 2147483705, 0, 0, 2, []) := by rw [kc124_eq]; rfl
theorem rw_124_24 : (codeOf 124)[24]? = some (38, .invokestatic 58, 121, 0, 0, 3, []) := by rw [kc124_eq]; rfl
theorem rw_124_25 : (codeOf 124)[25]? = some (41, .istore 6, 6, 0, 0, 2, []) := by rw [kc124_eq]; rfl
theorem rw_124_26 : (codeOf 124)[26]? = some (43, .iload 5, 5, 0, 0, 2, []) := by rw [kc124_eq]; rfl
theorem rw_124_27 : (codeOf 124)[27]? = some (45, .iconst 32, 2147483680, 0, 0, 2, []) := by rw [kc124_eq]; rfl
theorem rw_124_28 : (codeOf 124)[28]? = some (47, .if_icmp .eq 180, 227, 127, 0, 3, []) := by rw [kc124_eq]; rfl
theorem rw_124_29 : (codeOf 124)[29]? = some (50, .iload 6, 6, 0, 0, 2, []) := by rw [kc124_eq]; rfl
theorem rw_124_30 : (codeOf 124)[30]? = some (52, .ifCond .eq 98, 150, 84, 0, 3, []) := by rw [kc124_eq]; rfl
theorem rw_124_31 : (codeOf 124)[31]? = some (55, .iload 2, 2, 0, 0, 1, []) := by rw [kc124_eq]; rfl
theorem rw_124_32 : (codeOf 124)[32]? = some (56, .ifCond .ne 7, 63, 35, 0, 3, []) := by rw [kc124_eq]; rfl
theorem rw_124_33 : (codeOf 124)[33]? = some (59, .iload 1, 1, 0, 0, 1, []) := by rw [kc124_eq]; rfl
theorem rw_124_34 : (codeOf 124)[34]? = some (60, .ifCond .le 90, 150, 84, 0, 3, []) := by rw [kc124_eq]; rfl
theorem rw_124_35 : (codeOf 124)[35]? = some (63, .aload 0, 0, 0, 3, 1, []) := by rw [kc124_eq]; rfl
theorem rw_124_36 : (codeOf 124)[36]? = some (64, .getfield 73, 9, 7, 0, 3, []) := by rw [kc124_eq]; rfl
theorem rw_124_37 : (codeOf 124)[37]? = some (67, .iconst 10, 2147483658, 0, 0, 2, []) := by rw [kc124_eq]; rfl
theorem rw_124_38 : (codeOf 124)[38]? = some (69, .if_icmp .ne 11, 80, 44, 0, 3, []) := by rw [kc124_eq]; rfl
theorem rw_124_39 : (codeOf 124)[39]? = some (72, .aload 0, 0, 0, 3, 1, []) := by rw [kc124_eq]; rfl
theorem rw_124_40 : (codeOf 124)[40]? = some (73, .iconst 3, 2147483651, 0, 0, 1, []) := by rw [kc124_eq]; rfl
theorem rw_124_41 : (codeOf 124)[41]? = some (74, .iload 4, 4, 0, 0, 2, []) := by rw [kc124_eq]; rfl
theorem rw_124_42 : (codeOf 124)[42]? = some (76, .invokevirtual 76, 125, 0, 0, 3, []) := by rw [kc124_eq]; rfl
theorem rw_124_43 : (codeOf 124)[43]? = some (79, .ireturn, 1, 0, 0, 1, []) := by rw [kc124_eq]; rfl
theorem rw_124_44 : (codeOf 124)[44]? = some (80, .iload 5, 5, 0, 0, 2, []) := by rw [kc124_eq]; rfl
theorem rw_124_45 : (codeOf 124)[45]? = some (82, .iconst 48, 2147483696, 0, 0, 2, []) := by rw [kc124_eq]; rfl
theorem rw_124_46 : (codeOf 124)[46]? = some (84, .if_icmp .ne 11, 95, 52, 0, 3, []) := by rw [kc124_eq]; rfl
theorem rw_124_47 : (codeOf 124)[47]? = some (87, .aload 0, 0, 0, 3, 1, []) := by rw [kc124_eq]; rfl
theorem rw_124_48 : (codeOf 124)[48]? = some (88, .iconst 2, 2147483650, 0, 0, 1, []) := by rw [kc124_eq]; rfl
theorem rw_124_49 : (codeOf 124)[49]? = some (89, .iload 4, 4, 0, 0, 2, []) := by rw [kc124_eq]; rfl
theorem rw_124_50 : (codeOf 124)[50]? = some (91, .invokevirtual 76, 125, 0, 0, 3, []) := by rw [kc124_eq]; rfl
theorem rw_124_51 : (codeOf 124)[51]? = some (94, .ireturn, 1, 0, 0, 1, []) := by rw [kc124_eq]; rfl
theorem rw_124_52 : (codeOf 124)[52]? = some (95, .aload 0, 0, 0, 3, 1, []) := by rw [kc124_eq]; rfl
theorem rw_124_53 : (codeOf 124)[53]? = some (96, .getfield 20, 9, 5, 3, 3, []) := by rw [kc124_eq]; rfl
theorem rw_124_54 : (codeOf 124)[54]? = some (99, .aload 0, 0, 0, 3, 1, []) := by rw [kc124_eq]; rfl
theorem rw_124_55 : (codeOf 124)[55]? = some (100, .getfield 73, 9, 7, 0, 3, []) := by rw [kc124_eq]; rfl
theorem rw_124_56 : (codeOf 124)[56]? = some (103, .iload 5, 5, 0, 0, 2, []) := by rw [kc124_eq]; rfl
theorem rw_124_57 : (codeOf 124)[57]? = some (105, .iconst 48, 2147483696, 0, 0, 2, []) := by rw [kc124_eq]; rfl
theorem rw_124_58 : (codeOf 124)[58]? = some (107, .isub, 0, 0, 0, 1, []) := by rw [kc124_eq]; rfl
theorem rw_124_59 : (codeOf 124)[59]? = some (108, .iastore, 0, 0, 0, 1, []) := by rw [kc124_eq]; rfl
theorem rw_124_60 : (codeOf 124)[60]? = some (109, .aload 0, 0, 0, 3, 1, []) := by rw [kc124_eq]; rfl
theorem rw_124_61 : (codeOf 124)[61]? = some (110, .getfield 23, 9, 6, 3, 3, []) := by rw [kc124_eq]; rfl
theorem rw_124_62 : (codeOf 124)[62]? = some (113, .aload 0, 0, 0, 3, 1, []) := by rw [kc124_eq]; rfl
theorem rw_124_63 : (codeOf 124)[63]? = some (114, .getfield 73, 9, 7, 0, 3, []) := by rw [kc124_eq]; rfl
theorem rw_124_64 : (codeOf 124)[64]? = some (117, .iload 1, 1, 0, 0, 1, []) := by rw [kc124_eq]; rfl
theorem rw_124_65 : (codeOf 124)[65]? = some (118, .ifCond .ne 8, 126, 68, 0, 3, []) := by rw [kc124_eq]; rfl
theorem rw_124_66 : (codeOf 124)[66]? = some (121, .iconst (-9), 2147483639, 0, 0, 2, []) := by rw [kc124_eq]; rfl
theorem rw_124_67 : (codeOf 124)[67]? = some (123, .goto 9, 132, 72, 0, 3, []) := by rw [kc124_eq]; rfl
theorem rw_124_68 : (codeOf 124)[68]? = some (126, .aload 0, 0, 0, 3, 1, []) := by rw [kc124_eq]; rfl
theorem rw_124_69 : (codeOf 124)[69]? = some (127, .getfield 26, 9, 8, 3, 3, []) := by rw [kc124_eq]; rfl
theorem rw_124_70 : (codeOf 124)[70]? = some (130, .iload 1, 1, 0, 0, 1, []) := by rw [kc124_eq]; rfl
theorem rw_124_71 : (codeOf 124)[71]? = some (131, .iaload, 0, 0, 0, 1, []) := by rw [kc124_eq]; rfl
theorem rw_124_72 : (codeOf 124)[72]? = some (132, .iastore, 0, 0, 0, 1, []) := by rw [kc124_eq]; rfl
theorem rw_124_73 : (codeOf 124)[73]? = some (133, .aload 0, 0, 0, 3, 1, []) := by rw [kc124_eq]; rfl
theorem rw_124_74 : (codeOf 124)[74]? = some (134, .dup, 0, 0, 0, 1, []) := by rw [kc124_eq]; rfl
theorem rw_124_75 : (codeOf 124)[75]? = some (135, .getfield 73, 9, 7, 0, 3, []) := by rw [kc124_eq]; rfl
theorem rw_124_76 : (codeOf 124)[76]? = some (138, .iconst 1, 2147483649, 0, 0, 1, []) := by rw [kc124_eq]; rfl
theorem rw_124_77 : (codeOf 124)[77]? = some (139, .iadd, 0, 0, 0, 1, []) := by rw [kc124_eq]; rfl
theorem rw_124_78 : (codeOf 124)[78]? = some (140, .putfield 73, 9, 7, 0, 3, []) := by rw [kc124_eq]; rfl
theorem rw_124_79 : (codeOf 124)[79]? = some (143, .iconst 0, 2147483648, 0, 0, 1, []) := by rw [kc124_eq]; rfl
theorem rw_124_80 : (codeOf 124)[80]? = some (144, .istore 2, 2, 0, 0, 1, []) := by rw [kc124_eq]; rfl
theorem rw_124_81 : (codeOf 124)[81]? = some (145, .iconst 1, 2147483649, 0, 0, 1, []) := by rw [kc124_eq]; rfl
theorem rw_124_82 : (codeOf 124)[82]? = some (146, .istore 3, 3, 0, 0, 1, []) := by rw [kc124_eq]; rfl
theorem rw_124_83 : (codeOf 124)[83]? = some (147, .goto 80, 227, 127, 0, 3, []) := by rw [kc124_eq]; rfl
theorem rw_124_84 : (codeOf 124)[84]? = some (150, .iload 5, 5, 0, 0, 2, []) := by rw [kc124_eq]; rfl
theorem rw_124_85 : (codeOf 124)[85]? = some (152, .iconst 40, 2147483688, 0, 0, 2, []) := by rw [kc124_eq]; rfl
theorem rw_124_86 : (codeOf 124)[86]? = some (154, .if_icmp .ne 42, 196, 111, 0, 3, []) := by rw [kc124_eq]; rfl
theorem rw_124_87 : (codeOf 124)[87]? = some (157, .iload 3, 3, 0, 0, 1, []) := by rw [kc124_eq]; rfl
theorem rw_124_88 : (codeOf 124)[88]? = some (158, .ifCond .eq 38, 196, 111, 0, 3, []) := by rw [kc124_eq]; rfl
theorem rw_124_89 : (codeOf 124)[89]? = some (161, .iload 1, 1, 0, 0, 1, []) := by rw [kc124_eq]; rfl
theorem rw_124_90 : (codeOf 124)[90]? = some (162, .iconst 4, 2147483652, 0, 0, 1, []) := by rw [kc124_eq]; rfl
theorem rw_124_91 : (codeOf 124)[91]? = some (163, .if_icmp .ne 11, 174, 97, 0, 3, []) := by rw [kc124_eq]; rfl
theorem rw_124_92 : (codeOf 124)[92]? = some (166, .aload 0, 0, 0, 3, 1, []) := by rw [kc124_eq]; rfl
theorem rw_124_93 : (codeOf 124)[93]? = some (167, .iconst 4, 2147483652, 0, 0, 1, []) := by rw [kc124_eq]; rfl
theorem rw_124_94 : (codeOf 124)[94]? = some (168, .iload 4, 4, 0, 0, 2, []) := by rw [kc124_eq]; rfl
theorem rw_124_95 : (codeOf 124)[95]? = some (170, .invokevirtual 76, 125, 0, 0, 3, []) := by rw [kc124_eq]; rfl
theorem rw_124_96 : (codeOf 124)[96]? = some (173, .ireturn, 1, 0, 0, 1, []) := by rw [kc124_eq]; rfl
theorem rw_124_97 : (codeOf 124)[97]? = some (174, .iinc 1 1, 1, 1, 0, 3, []) := by rw [kc124_eq]; rfl
theorem rw_124_98 : (codeOf 124)[98]? = some (177, .aload 0, 0, 0, 3, 1, []) := by rw [kc124_eq]; rfl
theorem rw_124_99 : (codeOf 124)[99]? = some (178, .getfield 26, 9, 8, 3, 3, []) := by rw [kc124_eq]; rfl
theorem rw_124_100 : (codeOf 124)[100]? = some (181, .iload 1, 1, 0, 0, 1, []) := by rw [kc124_eq]; rfl
theorem rw_124_101 : (codeOf 124)[101]? = some (182, .aload 0, 0, 0, 3, 1, []) := by rw [kc124_eq]; rfl
theorem rw_124_102 : (codeOf 124)[102]? = some (183, .getfield 73, 9, 7, 0, 3, []) := by rw [kc124_eq]; rfl
theorem rw_124_103 : (codeOf 124)[103]? = some (186, .iconst 1, 2147483649, 0, 0, 1, []) := by rw [kc124_eq]; rfl
theorem rw_124_104 : (codeOf 124)[104]? = some (187, .isub, 0, 0, 0, 1, []) := by rw [kc124_eq]; rfl
theorem rw_124_105 : (codeOf 124)[105]? = some (188, .iastore, 0, 0, 0, 1, []) := by rw [kc124_eq]; rfl
theorem rw_124_106 : (codeOf 124)[106]? = some (189, .iconst 1, 2147483649, 0, 0, 1, []) := by rw [kc124_eq]; rfl
theorem rw_124_107 : (codeOf 124)[107]? = some (190, .istore 2, 2, 0, 0, 1, []) := by rw [kc124_eq]; rfl
theorem rw_124_108 : (codeOf 124)[108]? = some (191, .iconst 0, 2147483648, 0, 0, 1, []) := by rw [kc124_eq]; rfl
theorem rw_124_109 : (codeOf 124)[109]? = some (192, .istore 3, 3, 0, 0, 1, []) := by rw [kc124_eq]; rfl
theorem rw_124_110 : (codeOf 124)[110]? = some (193, .goto 34, 227, 127, 0, 3, []) := by rw [kc124_eq]; rfl
theorem rw_124_111 : (codeOf 124)[111]? = some (196, .iload 5, 5, 0, 0, 2, []) := by rw [kc124_eq]; rfl
theorem rw_124_112 : (codeOf 124)[112]? = some (198, .iconst 41, 2147483689, 0, 0, 2, []) := by rw [kc124_eq]; rfl
theorem rw_124_113 : (codeOf 124)[113]? = some (200, .if_icmp .ne 19, 219, 122, 0, 3, []) := by rw [kc124_eq]; rfl
theorem rw_124_114 : (codeOf 124)[114]? = some (203, .iload 1, 1, 0, 0, 1, []) := by rw [kc124_eq]; rfl
theorem rw_124_115 : (codeOf 124)[115]? = some (204, .ifCond .le 15, 219, 122, 0, 3, []) := by rw [kc124_eq]; rfl
theorem rw_124_116 : (codeOf 124)[116]? = some (207, .iload 2, 2, 0, 0, 1, []) := by rw [kc124_eq]; rfl
theorem rw_124_117 : (codeOf 124)[117]? = some (208, .ifCond .ne 11, 219, 122, 0, 3, []) := by rw [kc124_eq]; rfl
theorem rw_124_118 : (codeOf 124)[118]? = some (211, .iinc 1 (-1), 1, 4294967295, 0, 3, []) := by rw [kc124_eq]; rfl
theorem rw_124_119 : (codeOf 124)[119]? = some (214, .iconst 0, 2147483648, 0, 0, 1, []) := by rw [kc124_eq]; rfl
theorem rw_124_120 : (codeOf 124)[120]? = some (215, .istore 3, 3, 0, 0, 1, []) := by rw [kc124_eq]; rfl
theorem rw_124_121 : (codeOf 124)[121]? = some (216, .goto 11, 227, 127, 0, 3, []) := by rw [kc124_eq]; rfl
theorem rw_124_122 : (codeOf 124)[122]? = some (219, .aload 0, 0, 0, 3, 1, []) := by rw [kc124_eq]; rfl
theorem rw_124_123 : (codeOf 124)[123]? = some (220, .iconst 1, 2147483649, 0, 0, 1, []) := by rw [kc124_eq]; rfl
theorem rw_124_124 : (codeOf 124)[124]? = some (221, .iload 4, 4, 0, 0, 2, []) := by rw [kc124_eq]; rfl
theorem rw_124_125 : (codeOf 124)[125]? = some (223, .invokevirtual 76, 125, 0, 0, 3, []) := by rw [kc124_eq]; rfl
theorem rw_124_126 : (codeOf 124)[126]? = some (226, .ireturn, 1, 0, 0, 1, []) := by rw [kc124_eq]; rfl
theorem rw_124_127 : (codeOf 124)[127]? = some (227, .iinc 4 1, 4, 1, 0, 3, []) := by rw [kc124_eq]; rfl
theorem rw_124_128 : (codeOf 124)[128]? = some (230, .goto (-216), 14, 11, 0, 3, []) := by rw [kc124_eq]; rfl
theorem rw_124_129 : (codeOf 124)[129]? = some (233, .iload 2, 2, 0, 0, 1, []) := by rw [kc124_eq]; rfl
theorem rw_124_130 : (codeOf 124)[130]? = some (234, .ifCond .ne 7, 241, 133, 0, 3, []) := by rw [kc124_eq]; rfl
theorem rw_124_131 : (codeOf 124)[131]? = some (237, .iload 1, 1, 0, 0, 1, []) := by rw [kc124_eq]; rfl
theorem rw_124_132 : (codeOf 124)[132]? = some (238, .ifCond .le 15, 253, 139, 0, 3, []) := by rw [kc124_eq]; rfl
theorem rw_124_133 : (codeOf 124)[133]? = some (241, .aload 0, 0, 0, 3, 1, []) := by rw [kc124_eq]; rfl
theorem rw_124_134 : (codeOf 124)[134]? = some (242, .iconst 1, 2147483649, 0, 0, 1, []) := by rw [kc124_eq]; rfl
theorem rw_124_135 : (codeOf 124)[135]? = some (243, .aload 0, 0, 0, 3, 1, []) := by rw [kc124_eq]; rfl
theorem rw_124_136 : (codeOf 124)[136]? = some (244, .getfield 70, 9, 3, 0, 3, []) := by rw [kc124_eq]; rfl
theorem rw_124_137 : (codeOf 124)[137]? = some (247, .invokevirtual 76, 125, 0, 0, 3, []) := by rw [kc124_eq]; rfl
theorem rw_124_138 : (codeOf 124)[138]? = some (250, .goto 4, 254, 140, 0, 3, []) := by rw [kc124_eq]; rfl
theorem rw_124_139 : (codeOf 124)[139]? = some (253, .iconst 0, 2147483648, 0, 0, 1, []) := by rw [kc124_eq]; rfl
theorem rw_124_140 : (codeOf 124)[140]? = some (254, .ireturn, 1, 0, 0, 1, []) := by rw [kc124_eq]; rfl
theorem kc125_eq : codeOf 125 = kc125 := rfl
theorem hk_125 : 125 < 186 := by decide
theorem rw_125_0 : (codeOf 125)[0]? = some (0, .aload 0, 0, 0, 3, 1, []) := by rw [kc125_eq]; rfl
theorem rw_125_1 : (codeOf 125)[1]? = some (1, .iload 1, 1, 0, 0, 1, []) := by rw [kc125_eq]; rfl
theorem rw_125_2 : (codeOf 125)[2]? = some (2, .putfield 16, 9, 4, 0, 3, []) := by rw [kc125_eq]; rfl
theorem rw_125_3 : (codeOf 125)[3]? = some (5, .iconst (-10), 2147483638, 0, 0, 2, []) := by rw [kc125_eq]; rfl
theorem rw_125_4 : (codeOf 125)[4]? = some (7, .iload 2, 2, 0, 0, 1, []) := by rw [kc125_eq]; rfl
theorem rw_125_5 : (codeOf 125)[5]? = some (8, .isub, 0, 0, 0, 1, []) := by rw [kc125_eq]; rfl
theorem rw_125_6 : (codeOf 125)[6]? = some (9, .ireturn, 1, 0, 0, 1, []) := by rw [kc125_eq]; rfl
theorem kc131_eq : codeOf 131 = kc131 := rfl
theorem hk_131 : 131 < 186 := by decide
theorem rw_131_0 : (codeOf 131)[0]? = some (0, .aload 0, 0, 0, 3, 1, []) := by rw [kc131_eq]; rfl
theorem rw_131_1 : (codeOf 131)[1]? = some (1, .getfield 16, 9, 4, 0, 3, []) := by rw [kc131_eq]; rfl
theorem rw_131_2 : (codeOf 131)[2]? = some (4, .ireturn, 1, 0, 0, 1, []) := by rw [kc131_eq]; rfl
section MR
variable {d k j : Nat} {lv : List (Option Value)} {st : List Value} {ph : PH} {Q : Option Value → PH → Prop} {B : PH} {p : Nat → Int32} {a : Nat → Nat → Int32} {z : Nat → Int32}
/-- a byte is read: how many connections there are, how deep it is, what came last (0 an opening, 1 a weight, 2 a closing); or the kind of a fault -/
def rdS (e : Int) (m g pl : Nat) : (Nat × Nat × Nat) ⊕ Nat :=
  if e = 32 then .inl (m, g, pl)
  else if (48 ≤ e ∧ e ≤ 57) ∧ (pl = 0 ∨ 0 < g) then (if m = 10 then .inr 3 else if e = 48 then .inr 2 else .inl (m + 1, g, 1))
  else if e = 40 ∧ pl = 1 then (if g = 4 then .inr 4 else .inl (m, g + 1, 0))
  else if e = 41 ∧ 0 < g ∧ pl ≠ 0 then .inl (m, g - 1, 2)
  else .inr 1
/-- a text is read from place y on: how many connections, or a fault's kind and place -/
def rdR (t : Nat → Int32) : Nat → Nat → Nat → Nat → Nat → Nat ⊕ (Nat × Nat)
  | 0, y, m, g, pl => if pl = 0 ∨ 0 < g then .inr (1, y) else .inl m
  | k + 1, y, m, g, pl => match rdS (t y).toInt m g pl with
    | .inl q => rdR t k (y + 1) q.1 q.2.1 q.2.2
    | .inr kd => .inr (kd, y)
theorem rdR_in {t : Nat → Int32} {e : Int} {k y m g pl m' g' pl' : Nat} (he : (t y).toInt = e) (h : rdS e m g pl = .inl (m', g', pl')) : rdR t (k + 1) y m g pl = rdR t k (y + 1) m' g' pl' := by
  rw [rdR, he, h]
theorem rdR_out {t : Nat → Int32} {e : Int} {k y m g pl kd : Nat} (he : (t y).toInt = e) (h : rdS e m g pl = .inr kd) : rdR t (k + 1) y m g pl = .inr (kd, y) := by
  rw [rdR, he, h]
def WP (b : Nat → Nat → Int32) (m : Nat) : Prop := (∀ i, i < m → ∃ w : Int, b 2 i = iv w ∧ 1 ≤ w ∧ w ≤ 9) ∧ ∀ i, 1 ≤ i → i < m → ∃ q : Nat, q < i ∧ b 3 i = iv (q : Int)
def RD (t : Nat → Int32) (b : Nat → Nat → Int32) (m g pl : Nat) : Prop := b 1 = t ∧ (m ≤ 10 ∧ g ≤ 4 ∧ pl ≤ 2 ∧ (pl ≠ 0 → 1 ≤ m) ∧ (0 < g → 1 ≤ m) ∧ (g = 0 → pl = 0 → m = 0)) ∧ WP b m ∧ ∀ i, 1 ≤ i → i ≤ g → ∃ q : Nat, q < m ∧ b 4 i = iv (q : Int)
theorem RD.add {t : Nat → Int32} {b : Nat → Nat → Int32} {m g pl : Nat} {w : Int} {y : Int32} (h : RD t b m g pl) (hm : m < 10) (hp : pl = 0 ∨ 0 < g) (h1 : 1 ≤ w) (h9 : w ≤ 9) (hy : (g = 0) ∨ (0 < g ∧ y = b 4 g)) : RD t (ua (ua b 2 (upd (b 2) m (iv w))) 3 (upd (ua b 2 (upd (b 2) m (iv w)) 3) m y)) (m + 1) g 1 := by
  obtain ⟨h0, ⟨a1, a2, a3, a4, a5, a6⟩, ⟨w1, w2⟩, h4⟩ := h
  have e1 : ∀ f f' : Nat → Int32, ua (ua b 2 f) 3 f' 1 = b 1 := fun f f' => by rw [ua_ne (by decide), ua_ne (by decide)]
  have e2 : ∀ f f' : Nat → Int32, ua (ua b 2 f) 3 f' 2 = f := fun f f' => by rw [ua_ne (by decide), ua_eq]
  have e3 : ∀ f f' : Nat → Int32, ua (ua b 2 f) 3 f' 3 = f' := fun f f' => ua_eq
  have e4 : ∀ f f' : Nat → Int32, ua (ua b 2 f) 3 f' 4 = b 4 := fun f f' => by rw [ua_ne (by decide), ua_ne (by decide)]
  have e5 : ∀ f : Nat → Int32, ua b 2 f 3 = b 3 := fun f => ua_ne (by decide)
  refine ⟨(e1 _ _).trans h0, ⟨by omega, a2, by omega, fun _ => by omega, fun _ => by omega, fun _ z => absurd z (by decide)⟩, ⟨fun i hi => ?_, fun i i1 i2 => ?_⟩, fun i i1 i2 => ?_⟩
  · rw [e2]
    by_cases e : i = m
    · subst e
      exact ⟨w, uq_eq, h1, h9⟩
    · obtain ⟨x, x1, x2⟩ := w1 i (by omega)
      exact ⟨x, (uq_ne e).trans x1, x2⟩
  · rw [e3]
    by_cases e : i = m
    · subst e
      rcases hy with hy | ⟨hy, hy2⟩
      · exfalso
        have := a6 hy
        omega
      · obtain ⟨q, q1, q2⟩ := h4 g (by omega) (Nat.le_refl _)
        exact ⟨q, q1, uq_eq.trans (hy2.trans q2)⟩
    · obtain ⟨q, q1, q2⟩ := w2 i i1 (by omega)
      exact ⟨q, q1, (uq_ne e).trans ((congrFun (e5 _) i).trans q2)⟩
  · rw [e4]
    obtain ⟨q, q1, q2⟩ := h4 i i1 i2
    exact ⟨q, by omega, q2⟩
theorem RD.opn {t : Nat → Int32} {b : Nat → Nat → Int32} {m g pl : Nat} {x : Int} (h : RD t b m g pl) (hg : g < 4) (hp : pl = 1) (hx : x = (m : Int) - 1) : RD t (ua b 4 (upd (b 4) (g + 1) (iv x))) m (g + 1) 0 := by
  obtain ⟨h0, ⟨a1, a2, a3, a4, a5, a6⟩, ⟨w1, w2⟩, h4⟩ := h
  have hm := a4 (by omega)
  refine ⟨(ua_ne (by decide)).trans h0, ⟨a1, by omega, by omega, fun z => absurd rfl z, fun _ => hm, fun z => absurd z (by omega)⟩, ⟨fun i hi => ?_, fun i i1 i2 => ?_⟩, fun i i1 i2 => ?_⟩
  · rw [ua_ne (by decide)]
    exact w1 i hi
  · rw [ua_ne (by decide)]
    exact w2 i i1 i2
  · rw [ua_eq]
    by_cases e : i = g + 1
    · rw [e]
      refine ⟨m - 1, by omega, uq_eq.trans ?_⟩
      congr 1
      omega
    · obtain ⟨q, q1, q2⟩ := h4 i i1 (by omega)
      exact ⟨q, q1, (uq_ne e).trans q2⟩
theorem RD.close {t : Nat → Int32} {b : Nat → Nat → Int32} {m g pl : Nat} (h : RD t b m g pl) (hg : 0 < g) (hp : pl ≠ 0) : RD t b m (g - 1) 2 := by
  obtain ⟨h0, ⟨a1, a2, a3, a4, a5, a6⟩, hw, h4⟩ := h
  exact ⟨h0, ⟨a1, by omega, by omega, fun _ => a4 hp, fun _ => a4 hp, fun _ z => absurd z (by decide)⟩, hw, fun i i1 i2 => h4 i i1 (by omega)⟩
def RPost (B : PH) (p z t : Nat → Int32) (R : Nat ⊕ (Nat × Nat)) (v : Option Value) (ph' : PH) : Prop := ∃ b z2, ph' = mh B p b z2 ∧ (∀ i, i ≠ 2 → i ≠ 3 → z2 i = z i) ∧ b 1 = t ∧ ((∃ kd pos : Nat, R = .inr (kd, pos) ∧ pos ≤ 60 ∧ v = some (.int (iv (-10 - (pos : Int)))) ∧ z2 2 = iv (kd : Int)) ∨ (∃ m : Nat, R = .inl m ∧ v = some (.int (iv 0)) ∧ z2 2 = z 2 ∧ z2 3 = iv (m : Int) ∧ 1 ≤ m ∧ m ≤ 10 ∧ WP b m))
theorem faults_ok (d : Nat) (hB : 87 ≤ B.length) {x y : Int} : ZC d 125 [.ref 75, .int (iv x), .int (iv y)] (mh B p a z) (fun v ph' => ph' = mh B p a (upd z 2 (iv x)) ∧ v = some (.int (iv (-10 - y)))) := by
  refine ZC.of (lv := [some (.ref 75), some (.int (iv (x))), some (.int (iv (y)))]) hk_125 (fun i v hv => ?_) ?_
  · match i, hv with
    | 0, hv => cases hv; rfl
    | 1, hv => cases hv; rfl
    | 2, hv => cases hv; rfl
    | i + 3, hv => simp at hv
  refine zr_aload hk_125 rw_125_0 rfl ?_
  refine zr_iload hk_125 rw_125_1 rfl ?_
  refine mz_putf hk_125 hB rw_125_2 (by decide) (mh_zS2 hB) ?_
  refine zi_const hk_125 rw_125_3 (c := -10) rfl ?_
  refine zr_iload hk_125 rw_125_4 rfl ?_
  refine zi_sub hk_125 rw_125_5 ?_
  refine zr_ireturn hk_125 rw_125_6 ?_
  exact ⟨rfl, rfl⟩
theorem c_faults (hk : k < 186) (hB : 87 ≤ B.length) {pc b x ix : Nat} {ts : List Nat} {u y : Int} (hrow : (codeOf k)[j]? = some (pc, .invokevirtual ix, 125, b, x, 3, ts)) (hcat : catS st ≤ 8) (h : ZR (d + 1) k (j + 1) lv (.int (iv (-10 - y)) :: st) (mh B p a (upd z 2 (iv u))) Q) : ZR (d + 1) k j lv (.int (iv y) :: .int (iv u) :: .ref 75 :: st) (mh B p a z) Q := by
  refine mz_call (L := 3) (n := 2) (as := [.int (iv u), .int (iv y)]) (r := st) hk hB hrow (by decide) (by decide) ⟨rfl, rfl, rfl, rfl⟩ rfl rfl hcat (Nat.le_of_ble_eq_true rfl) (faults_ok d hB) ?_
  rintro w ph' ⟨rfl, rfl⟩
  exact h
set_option maxHeartbeats 1000000 in
theorem rd_loop (hB : 87 ≤ B.length) {t : Nat → Int32} {N : Nat} (hN : N ≤ 60) : ∀ (k y m g pl : Nat) (due mo : Int) (b : Nat → Nat → Int32) (z1 : Nat → Int32), y + k = N → z1 1 = iv (N : Int) → (∀ i, i ≠ 2 → i ≠ 3 → z1 i = z i) → z1 2 = z 2 → z1 3 = iv (m : Int) → RD t b m g pl → ((pl = 0 ∧ due = 1 ∧ mo = 0) ∨ (pl = 1 ∧ due = 0 ∧ mo = 1) ∨ (pl = 2 ∧ due = 0 ∧ mo = 0)) → ZR (d + 1) 124 11 [some (.ref 75), some (.int (iv ((g : Int)))), some (.int (iv (due))), some (.int (iv (mo))), some (.int (iv ((y : Int))))] [] (mh B p b z1) (RPost B p z t (rdR t k y m g pl)) := by
  intro k
  induction k with
  | zero =>
    intro y m g pl due mo b z1 hyk hz1 hzz hz2 hz3 hD hdm
    have hD2 := hD.2.1
    refine zr_cut hk_124 rw_124_11 ?_
    refine zr_iload hk_124 rw_124_12 rfl ?_
    refine zr_aload hk_124 rw_124_13 rfl ?_
    refine mz_getf hk_124 hB rw_124_14 (by show some (Value.int (z1 1)) = _; rw [hz1]) ?_
    refine zi_icmp_ge hk_124 rw_124_15 (by first | assumption | (unfold inR; omega)) (by first | assumption | (unfold inR; omega)) (fun h15 => ?_) (fun h15 => by omega)
    refine zr_iload hk_124 rw_124_129 rfl ?_
    refine zi_if_ne hk_124 rw_124_130 (by first | assumption | (unfold inR; omega)) (fun h130 => ?_) (fun h130 => ?_)
    · refine zr_aload hk_124 rw_124_133 rfl ?_
      refine zi_const hk_124 rw_124_134 (c := 1) rfl ?_
      refine zr_aload hk_124 rw_124_135 rfl ?_
      refine mz_getf hk_124 hB rw_124_136 (by show some (Value.int (z1 1)) = _; rw [hz1]) ?_
      refine c_faults hk_124 hB rw_124_137 (Nat.le_of_ble_eq_true rfl) ?_
      refine zr_goto hk_124 rw_124_138 ?_
      refine zr_ireturn hk_124 rw_124_140 ?_
      rw [rdR, if_pos (by omega)]
      obtain rfl : y = N := by omega
      exact ⟨b, upd z1 2 _, rfl, fun i i2 i3 => (uq_ne i2).trans (hzz i i2 i3), hD.1, Or.inl ⟨1, y, rfl, by omega, rfl, uq_eq⟩⟩
    · refine zr_iload hk_124 rw_124_131 rfl ?_
      refine zi_if_le hk_124 rw_124_132 (by first | assumption | (unfold inR; omega)) (fun h132 => ?_) (fun h132 => ?_)
      · refine zi_const hk_124 rw_124_139 (c := 0) rfl ?_
        refine zr_ireturn hk_124 rw_124_140 ?_
        rw [rdR, if_neg (by omega)]
        exact ⟨b, z1, rfl, hzz, hD.1, Or.inr ⟨m, rfl, rfl, hz2, hz3, by omega, by omega, hD.2.2.1⟩⟩
      · refine zr_aload hk_124 rw_124_133 rfl ?_
        refine zi_const hk_124 rw_124_134 (c := 1) rfl ?_
        refine zr_aload hk_124 rw_124_135 rfl ?_
        refine mz_getf hk_124 hB rw_124_136 (by show some (Value.int (z1 1)) = _; rw [hz1]) ?_
        refine c_faults hk_124 hB rw_124_137 (Nat.le_of_ble_eq_true rfl) ?_
        refine zr_goto hk_124 rw_124_138 ?_
        refine zr_ireturn hk_124 rw_124_140 ?_
        rw [rdR, if_pos (by omega)]
        obtain rfl : y = N := by omega
        exact ⟨b, upd z1 2 _, rfl, fun i i2 i3 => (uq_ne i2).trans (hzz i i2 i3), hD.1, Or.inl ⟨1, y, rfl, by omega, rfl, uq_eq⟩⟩
  | succ k ih =>
    intro y m g pl due mo b z1 hyk hz1 hzz hz2 hz3 hD hdm
    have hD2 := hD.2.1
    obtain ⟨e, he⟩ : ∃ e, (t y).toInt = e := ⟨_, rfl⟩
    have hte : t y = iv e := by rw [← he]; exact iv_of _
    have her : inR e := by rw [← he]; exact inR_of _
    refine zr_cut hk_124 rw_124_11 ?_
    refine zr_iload hk_124 rw_124_12 rfl ?_
    refine zr_aload hk_124 rw_124_13 rfl ?_
    refine mz_getf hk_124 hB rw_124_14 (by show some (Value.int (z1 1)) = _; rw [hz1]) ?_
    refine zi_icmp_ge hk_124 rw_124_15 (by first | assumption | (unfold inR; omega)) (by first | assumption | (unfold inR; omega)) (fun h15 => by omega) (fun h15 => ?_)
    refine zr_aload hk_124 rw_124_16 rfl ?_
    refine mz_getf hk_124 hB rw_124_17 rfl ?_
    refine zr_iload hk_124 rw_124_18 rfl ?_
    refine mz_aldE hk_124 (mh_a1 hB) rw_124_19 (y) (by omega) (by omega) (by decide) ((congrFun hD.1 y).trans hte) ?_
    refine zi_istore hk_124 rw_124_20 rfl (lv' := [some (.ref 75), some (.int (iv ((g : Int)))), some (.int (iv (due))), some (.int (iv (mo))), some (.int (iv ((y : Int)))), some (.int (iv (e)))]) rfl ?_
    refine zr_iload hk_124 rw_124_21 rfl ?_
    refine zi_const hk_124 rw_124_22 (c := 48) rfl ?_
    refine zi_const hk_124 rw_124_23 (c := 57) rfl ?_
    refine c_in hk_124 hB rw_124_24 (by first | assumption | (unfold inR; omega)) (by first | assumption | (unfold inR; omega)) (by first | assumption | (unfold inR; omega)) (Nat.le_of_ble_eq_true rfl) (fun h24c => ?_) (fun h24c => ?_)
    · refine zi_istore hk_124 rw_124_25 rfl (lv' := [some (.ref 75), some (.int (iv ((g : Int)))), some (.int (iv (due))), some (.int (iv (mo))), some (.int (iv ((y : Int)))), some (.int (iv (e))), some (.int (iv (1)))]) rfl ?_
      refine zr_iload hk_124 rw_124_26 rfl ?_
      refine zi_const hk_124 rw_124_27 (c := 32) rfl ?_
      refine zi_icmp_eq hk_124 rw_124_28 (by first | assumption | (unfold inR; omega)) (by first | assumption | (unfold inR; omega)) (fun h28 => ?_) (fun h28 => ?_)
      · refine zi_inc hk_124 rw_124_127 rfl rfl inc_1 (lv' := [some (.ref 75), some (.int (iv ((g : Int)))), some (.int (iv (due))), some (.int (iv (mo))), some (.int (iv ((y : Int) + 1))), some (.int (iv (e))), some (.int (iv (1)))]) rfl ?_
        refine zr_goto hk_124 rw_124_128 ?_
        rw [rdR_in (m' := m) (g' := g) (pl' := pl) he (by first | (exfalso; omega) | (unfold rdS; repeat (first | rw [if_pos (by omega)] | rw [if_neg (by omega)])))]
        exact zr_app (lv := [some (.ref 75), some (.int (iv ((g : Int)))), some (.int (iv (due))), some (.int (iv (mo))), some (.int (iv ((y : Int) + 1)))]) (ex := [some (.int (iv (e))), some (.int (iv (1)))]) (ih (y + 1) m g pl due mo _ _ (by omega) hz1 hzz hz2 hz3 hD hdm)
      · refine zr_iload hk_124 rw_124_29 rfl ?_
        refine zi_if_eq hk_124 rw_124_30 (by first | assumption | (unfold inR; omega)) (fun h30 => by omega) (fun h30 => ?_)
        refine zr_iload hk_124 rw_124_31 rfl ?_
        refine zi_if_ne hk_124 rw_124_32 (by first | assumption | (unfold inR; omega)) (fun h32 => ?_) (fun h32 => ?_)
        · refine zr_aload hk_124 rw_124_35 rfl ?_
          refine mz_getf hk_124 hB rw_124_36 (by show some (Value.int (z1 3)) = _; rw [hz3]) ?_
          refine zi_const hk_124 rw_124_37 (c := 10) rfl ?_
          refine zi_icmp_ne hk_124 rw_124_38 (by first | assumption | (unfold inR; omega)) (by first | assumption | (unfold inR; omega)) (fun h38 => ?_) (fun h38 => ?_)
          · refine zr_iload hk_124 rw_124_44 rfl ?_
            refine zi_const hk_124 rw_124_45 (c := 48) rfl ?_
            refine zi_icmp_ne hk_124 rw_124_46 (by first | assumption | (unfold inR; omega)) (by first | assumption | (unfold inR; omega)) (fun h46 => ?_) (fun h46 => ?_)
            · refine zr_aload hk_124 rw_124_52 rfl ?_
              refine mz_getf hk_124 hB rw_124_53 rfl ?_
              refine zr_aload hk_124 rw_124_54 rfl ?_
              refine mz_getf hk_124 hB rw_124_55 (by show some (Value.int (z1 3)) = _; rw [hz3]) ?_
              refine zr_iload hk_124 rw_124_56 rfl ?_
              refine zi_const hk_124 rw_124_57 (c := 48) rfl ?_
              refine zi_sub hk_124 rw_124_58 ?_
              refine mz_ast hk_124 (mh_a2 hB) (by decide) rw_124_59 (m) (by omega) (by omega) (by decide) (mh_aS2 hB) ?_
              refine zr_aload hk_124 rw_124_60 rfl ?_
              refine mz_getf hk_124 hB rw_124_61 rfl ?_
              refine zr_aload hk_124 rw_124_62 rfl ?_
              refine mz_getf hk_124 hB rw_124_63 (by show some (Value.int (z1 3)) = _; rw [hz3]) ?_
              refine zr_iload hk_124 rw_124_64 rfl ?_
              refine zi_if_ne hk_124 rw_124_65 (by first | assumption | (unfold inR; omega)) (fun h65 => ?_) (fun h65 => ?_)
              · refine zr_aload hk_124 rw_124_68 rfl ?_
                refine mz_getf hk_124 hB rw_124_69 rfl ?_
                refine zr_iload hk_124 rw_124_70 rfl ?_
                refine mz_ald hk_124 (mh_a4 hB) rw_124_71 (g) (by omega) (by omega) (by decide) ?_
                refine mz_ast hk_124 (mh_a3 hB) (by decide) rw_124_72 (m) (by omega) (by omega) (by decide) (mh_aS3 hB) ?_
                refine zr_aload hk_124 rw_124_73 rfl ?_
                refine zr_dup hk_124 rw_124_74 rfl ?_
                refine mz_getf hk_124 hB rw_124_75 (by show some (Value.int (z1 3)) = _; rw [hz3]) ?_
                refine zi_const hk_124 rw_124_76 (c := 1) rfl ?_
                refine zi_add hk_124 rw_124_77 ?_
                refine mz_putf hk_124 hB rw_124_78 (by decide) (mh_zS3 hB) ?_
                refine zi_const hk_124 rw_124_79 (c := 0) rfl ?_
                refine zi_istore hk_124 rw_124_80 rfl (lv' := [some (.ref 75), some (.int (iv ((g : Int)))), some (.int (iv (0))), some (.int (iv (mo))), some (.int (iv ((y : Int)))), some (.int (iv (e))), some (.int (iv (1)))]) rfl ?_
                refine zi_const hk_124 rw_124_81 (c := 1) rfl ?_
                refine zi_istore hk_124 rw_124_82 rfl (lv' := [some (.ref 75), some (.int (iv ((g : Int)))), some (.int (iv (0))), some (.int (iv (1))), some (.int (iv ((y : Int)))), some (.int (iv (e))), some (.int (iv (1)))]) rfl ?_
                refine zr_goto hk_124 rw_124_83 ?_
                refine zi_inc hk_124 rw_124_127 rfl rfl inc_1 (lv' := [some (.ref 75), some (.int (iv ((g : Int)))), some (.int (iv (0))), some (.int (iv (1))), some (.int (iv ((y : Int) + 1))), some (.int (iv (e))), some (.int (iv (1)))]) rfl ?_
                refine zr_goto hk_124 rw_124_128 ?_
                rw [rdR_in (m' := m + 1) (g' := g) (pl' := 1) he (by first | (exfalso; omega) | (unfold rdS; repeat (first | rw [if_pos (by omega)] | rw [if_neg (by omega)])))]
                exact zr_app (lv := [some (.ref 75), some (.int (iv ((g : Int)))), some (.int (iv (0))), some (.int (iv (1))), some (.int (iv ((y : Int) + 1)))]) (ex := [some (.int (iv (e))), some (.int (iv (1)))]) (ih (y + 1) (m + 1) g 1 0 1 _ _ (by omega) ((uq_ne (by decide)).trans hz1) (fun i i2 i3 => (uq_ne i3).trans (hzz i i2 i3)) ((uq_ne (by decide)).trans hz2) uq_eq (hD.add (by omega) (by omega) (by omega) (by omega) (Or.inr ⟨by omega, rfl⟩)) (by omega))
              · refine zi_const hk_124 rw_124_66 (c := -9) rfl ?_
                refine zr_goto hk_124 rw_124_67 ?_
                refine mz_ast hk_124 (mh_a3 hB) (by decide) rw_124_72 (m) (by omega) (by omega) (by decide) (mh_aS3 hB) ?_
                refine zr_aload hk_124 rw_124_73 rfl ?_
                refine zr_dup hk_124 rw_124_74 rfl ?_
                refine mz_getf hk_124 hB rw_124_75 (by show some (Value.int (z1 3)) = _; rw [hz3]) ?_
                refine zi_const hk_124 rw_124_76 (c := 1) rfl ?_
                refine zi_add hk_124 rw_124_77 ?_
                refine mz_putf hk_124 hB rw_124_78 (by decide) (mh_zS3 hB) ?_
                refine zi_const hk_124 rw_124_79 (c := 0) rfl ?_
                refine zi_istore hk_124 rw_124_80 rfl (lv' := [some (.ref 75), some (.int (iv ((g : Int)))), some (.int (iv (0))), some (.int (iv (mo))), some (.int (iv ((y : Int)))), some (.int (iv (e))), some (.int (iv (1)))]) rfl ?_
                refine zi_const hk_124 rw_124_81 (c := 1) rfl ?_
                refine zi_istore hk_124 rw_124_82 rfl (lv' := [some (.ref 75), some (.int (iv ((g : Int)))), some (.int (iv (0))), some (.int (iv (1))), some (.int (iv ((y : Int)))), some (.int (iv (e))), some (.int (iv (1)))]) rfl ?_
                refine zr_goto hk_124 rw_124_83 ?_
                refine zi_inc hk_124 rw_124_127 rfl rfl inc_1 (lv' := [some (.ref 75), some (.int (iv ((g : Int)))), some (.int (iv (0))), some (.int (iv (1))), some (.int (iv ((y : Int) + 1))), some (.int (iv (e))), some (.int (iv (1)))]) rfl ?_
                refine zr_goto hk_124 rw_124_128 ?_
                rw [rdR_in (m' := m + 1) (g' := g) (pl' := 1) he (by first | (exfalso; omega) | (unfold rdS; repeat (first | rw [if_pos (by omega)] | rw [if_neg (by omega)])))]
                exact zr_app (lv := [some (.ref 75), some (.int (iv ((g : Int)))), some (.int (iv (0))), some (.int (iv (1))), some (.int (iv ((y : Int) + 1)))]) (ex := [some (.int (iv (e))), some (.int (iv (1)))]) (ih (y + 1) (m + 1) g 1 0 1 _ _ (by omega) ((uq_ne (by decide)).trans hz1) (fun i i2 i3 => (uq_ne i3).trans (hzz i i2 i3)) ((uq_ne (by decide)).trans hz2) uq_eq (hD.add (by omega) (by omega) (by omega) (by omega) (Or.inl (by omega))) (by omega))
            · refine zr_aload hk_124 rw_124_47 rfl ?_
              refine zi_const hk_124 rw_124_48 (c := 2) rfl ?_
              refine zr_iload hk_124 rw_124_49 rfl ?_
              refine c_faults hk_124 hB rw_124_50 (Nat.le_of_ble_eq_true rfl) ?_
              refine zr_ireturn hk_124 rw_124_51 ?_
              rw [rdR_out (kd := 2) he (by first | (exfalso; omega) | (unfold rdS; repeat (first | rw [if_pos (by omega)] | rw [if_neg (by omega)])))]
              exact ⟨b, upd z1 2 _, rfl, fun i i2 i3 => (uq_ne i2).trans (hzz i i2 i3), hD.1, Or.inl ⟨2, y, rfl, by omega, rfl, uq_eq⟩⟩
          · refine zr_aload hk_124 rw_124_39 rfl ?_
            refine zi_const hk_124 rw_124_40 (c := 3) rfl ?_
            refine zr_iload hk_124 rw_124_41 rfl ?_
            refine c_faults hk_124 hB rw_124_42 (Nat.le_of_ble_eq_true rfl) ?_
            refine zr_ireturn hk_124 rw_124_43 ?_
            rw [rdR_out (kd := 3) he (by first | (exfalso; omega) | (unfold rdS; repeat (first | rw [if_pos (by omega)] | rw [if_neg (by omega)])))]
            exact ⟨b, upd z1 2 _, rfl, fun i i2 i3 => (uq_ne i2).trans (hzz i i2 i3), hD.1, Or.inl ⟨3, y, rfl, by omega, rfl, uq_eq⟩⟩
        · refine zr_iload hk_124 rw_124_33 rfl ?_
          refine zi_if_le hk_124 rw_124_34 (by first | assumption | (unfold inR; omega)) (fun h34 => ?_) (fun h34 => ?_)
          · refine zr_iload hk_124 rw_124_84 rfl ?_
            refine zi_const hk_124 rw_124_85 (c := 40) rfl ?_
            refine zi_icmp_ne hk_124 rw_124_86 (by first | assumption | (unfold inR; omega)) (by first | assumption | (unfold inR; omega)) (fun h86 => ?_) (fun h86 => ?_)
            · refine zr_iload hk_124 rw_124_111 rfl ?_
              refine zi_const hk_124 rw_124_112 (c := 41) rfl ?_
              refine zi_icmp_ne hk_124 rw_124_113 (by first | assumption | (unfold inR; omega)) (by first | assumption | (unfold inR; omega)) (fun h113 => ?_) (fun h113 => ?_)
              · refine zr_aload hk_124 rw_124_122 rfl ?_
                refine zi_const hk_124 rw_124_123 (c := 1) rfl ?_
                refine zr_iload hk_124 rw_124_124 rfl ?_
                refine c_faults hk_124 hB rw_124_125 (Nat.le_of_ble_eq_true rfl) ?_
                refine zr_ireturn hk_124 rw_124_126 ?_
                rw [rdR_out (kd := 1) he (by first | (exfalso; omega) | (unfold rdS; repeat (first | rw [if_pos (by omega)] | rw [if_neg (by omega)])))]
                exact ⟨b, upd z1 2 _, rfl, fun i i2 i3 => (uq_ne i2).trans (hzz i i2 i3), hD.1, Or.inl ⟨1, y, rfl, by omega, rfl, uq_eq⟩⟩
              · refine zr_iload hk_124 rw_124_114 rfl ?_
                refine zi_if_le hk_124 rw_124_115 (by first | assumption | (unfold inR; omega)) (fun h115 => ?_) (fun h115 => ?_)
                · refine zr_aload hk_124 rw_124_122 rfl ?_
                  refine zi_const hk_124 rw_124_123 (c := 1) rfl ?_
                  refine zr_iload hk_124 rw_124_124 rfl ?_
                  refine c_faults hk_124 hB rw_124_125 (Nat.le_of_ble_eq_true rfl) ?_
                  refine zr_ireturn hk_124 rw_124_126 ?_
                  rw [rdR_out (kd := 1) he (by first | (exfalso; omega) | (unfold rdS; repeat (first | rw [if_pos (by omega)] | rw [if_neg (by omega)])))]
                  exact ⟨b, upd z1 2 _, rfl, fun i i2 i3 => (uq_ne i2).trans (hzz i i2 i3), hD.1, Or.inl ⟨1, y, rfl, by omega, rfl, uq_eq⟩⟩
                · refine zr_iload hk_124 rw_124_116 rfl ?_
                  refine zi_if_ne hk_124 rw_124_117 (by first | assumption | (unfold inR; omega)) (fun h117 => ?_) (fun h117 => ?_)
                  · refine zr_aload hk_124 rw_124_122 rfl ?_
                    refine zi_const hk_124 rw_124_123 (c := 1) rfl ?_
                    refine zr_iload hk_124 rw_124_124 rfl ?_
                    refine c_faults hk_124 hB rw_124_125 (Nat.le_of_ble_eq_true rfl) ?_
                    refine zr_ireturn hk_124 rw_124_126 ?_
                    rw [rdR_out (kd := 1) he (by first | (exfalso; omega) | (unfold rdS; repeat (first | rw [if_pos (by omega)] | rw [if_neg (by omega)])))]
                    exact ⟨b, upd z1 2 _, rfl, fun i i2 i3 => (uq_ne i2).trans (hzz i i2 i3), hD.1, Or.inl ⟨1, y, rfl, by omega, rfl, uq_eq⟩⟩
                  · refine zi_inc hk_124 rw_124_118 rfl rfl inc_m1 (lv' := [some (.ref 75), some (.int (iv ((g : Int) + (-1)))), some (.int (iv (due))), some (.int (iv (mo))), some (.int (iv ((y : Int)))), some (.int (iv (e))), some (.int (iv (1)))]) rfl ?_
                    refine zi_const hk_124 rw_124_119 (c := 0) rfl ?_
                    refine zi_istore hk_124 rw_124_120 rfl (lv' := [some (.ref 75), some (.int (iv ((g : Int) + (-1)))), some (.int (iv (due))), some (.int (iv (0))), some (.int (iv ((y : Int)))), some (.int (iv (e))), some (.int (iv (1)))]) rfl ?_
                    refine zr_goto hk_124 rw_124_121 ?_
                    refine zi_inc hk_124 rw_124_127 rfl rfl inc_1 (lv' := [some (.ref 75), some (.int (iv ((g : Int) + (-1)))), some (.int (iv (due))), some (.int (iv (0))), some (.int (iv ((y : Int) + 1))), some (.int (iv (e))), some (.int (iv (1)))]) rfl ?_
                    refine zr_goto hk_124 rw_124_128 ?_
                    rw [rdR_in (m' := m) (g' := g - 1) (pl' := 2) he (by first | (exfalso; omega) | (unfold rdS; repeat (first | rw [if_pos (by omega)] | rw [if_neg (by omega)]))), show (g : Int) + (-1) = ((g - 1 : Nat) : Int) by omega]
                    exact zr_app (lv := [some (.ref 75), some (.int (iv (((g - 1 : Nat) : Int)))), some (.int (iv (due))), some (.int (iv (0))), some (.int (iv ((y : Int) + 1)))]) (ex := [some (.int (iv (e))), some (.int (iv (1)))]) (ih (y + 1) m (g - 1) 2 due 0 _ _ (by omega) hz1 hzz hz2 hz3 (hD.close (by omega) (by omega)) (by omega))
            · refine zr_iload hk_124 rw_124_87 rfl ?_
              refine zi_if_eq hk_124 rw_124_88 (by first | assumption | (unfold inR; omega)) (fun h88 => ?_) (fun h88 => ?_)
              · refine zr_iload hk_124 rw_124_111 rfl ?_
                refine zi_const hk_124 rw_124_112 (c := 41) rfl ?_
                refine zi_icmp_ne hk_124 rw_124_113 (by first | assumption | (unfold inR; omega)) (by first | assumption | (unfold inR; omega)) (fun h113 => ?_) (fun h113 => ?_)
                · refine zr_aload hk_124 rw_124_122 rfl ?_
                  refine zi_const hk_124 rw_124_123 (c := 1) rfl ?_
                  refine zr_iload hk_124 rw_124_124 rfl ?_
                  refine c_faults hk_124 hB rw_124_125 (Nat.le_of_ble_eq_true rfl) ?_
                  refine zr_ireturn hk_124 rw_124_126 ?_
                  rw [rdR_out (kd := 1) he (by first | (exfalso; omega) | (unfold rdS; repeat (first | rw [if_pos (by omega)] | rw [if_neg (by omega)])))]
                  exact ⟨b, upd z1 2 _, rfl, fun i i2 i3 => (uq_ne i2).trans (hzz i i2 i3), hD.1, Or.inl ⟨1, y, rfl, by omega, rfl, uq_eq⟩⟩
                · refine zr_iload hk_124 rw_124_114 rfl ?_
                  refine zi_if_le hk_124 rw_124_115 (by first | assumption | (unfold inR; omega)) (fun h115 => ?_) (fun h115 => ?_)
                  · refine zr_aload hk_124 rw_124_122 rfl ?_
                    refine zi_const hk_124 rw_124_123 (c := 1) rfl ?_
                    refine zr_iload hk_124 rw_124_124 rfl ?_
                    refine c_faults hk_124 hB rw_124_125 (Nat.le_of_ble_eq_true rfl) ?_
                    refine zr_ireturn hk_124 rw_124_126 ?_
                    rw [rdR_out (kd := 1) he (by first | (exfalso; omega) | (unfold rdS; repeat (first | rw [if_pos (by omega)] | rw [if_neg (by omega)])))]
                    exact ⟨b, upd z1 2 _, rfl, fun i i2 i3 => (uq_ne i2).trans (hzz i i2 i3), hD.1, Or.inl ⟨1, y, rfl, by omega, rfl, uq_eq⟩⟩
                  · refine zr_iload hk_124 rw_124_116 rfl ?_
                    refine zi_if_ne hk_124 rw_124_117 (by first | assumption | (unfold inR; omega)) (fun h117 => ?_) (fun h117 => ?_)
                    · refine zr_aload hk_124 rw_124_122 rfl ?_
                      refine zi_const hk_124 rw_124_123 (c := 1) rfl ?_
                      refine zr_iload hk_124 rw_124_124 rfl ?_
                      refine c_faults hk_124 hB rw_124_125 (Nat.le_of_ble_eq_true rfl) ?_
                      refine zr_ireturn hk_124 rw_124_126 ?_
                      rw [rdR_out (kd := 1) he (by first | (exfalso; omega) | (unfold rdS; repeat (first | rw [if_pos (by omega)] | rw [if_neg (by omega)])))]
                      exact ⟨b, upd z1 2 _, rfl, fun i i2 i3 => (uq_ne i2).trans (hzz i i2 i3), hD.1, Or.inl ⟨1, y, rfl, by omega, rfl, uq_eq⟩⟩
                    · refine zi_inc hk_124 rw_124_118 rfl rfl inc_m1 (lv' := [some (.ref 75), some (.int (iv ((g : Int) + (-1)))), some (.int (iv (due))), some (.int (iv (mo))), some (.int (iv ((y : Int)))), some (.int (iv (e))), some (.int (iv (1)))]) rfl ?_
                      refine zi_const hk_124 rw_124_119 (c := 0) rfl ?_
                      refine zi_istore hk_124 rw_124_120 rfl (lv' := [some (.ref 75), some (.int (iv ((g : Int) + (-1)))), some (.int (iv (due))), some (.int (iv (0))), some (.int (iv ((y : Int)))), some (.int (iv (e))), some (.int (iv (1)))]) rfl ?_
                      refine zr_goto hk_124 rw_124_121 ?_
                      refine zi_inc hk_124 rw_124_127 rfl rfl inc_1 (lv' := [some (.ref 75), some (.int (iv ((g : Int) + (-1)))), some (.int (iv (due))), some (.int (iv (0))), some (.int (iv ((y : Int) + 1))), some (.int (iv (e))), some (.int (iv (1)))]) rfl ?_
                      refine zr_goto hk_124 rw_124_128 ?_
                      rw [rdR_in (m' := m) (g' := g - 1) (pl' := 2) he (by first | (exfalso; omega) | (unfold rdS; repeat (first | rw [if_pos (by omega)] | rw [if_neg (by omega)]))), show (g : Int) + (-1) = ((g - 1 : Nat) : Int) by omega]
                      exact zr_app (lv := [some (.ref 75), some (.int (iv (((g - 1 : Nat) : Int)))), some (.int (iv (due))), some (.int (iv (0))), some (.int (iv ((y : Int) + 1)))]) (ex := [some (.int (iv (e))), some (.int (iv (1)))]) (ih (y + 1) m (g - 1) 2 due 0 _ _ (by omega) hz1 hzz hz2 hz3 (hD.close (by omega) (by omega)) (by omega))
              · refine zr_iload hk_124 rw_124_89 rfl ?_
                refine zi_const hk_124 rw_124_90 (c := 4) rfl ?_
                refine zi_icmp_ne hk_124 rw_124_91 (by first | assumption | (unfold inR; omega)) (by first | assumption | (unfold inR; omega)) (fun h91 => ?_) (fun h91 => ?_)
                · refine zi_inc hk_124 rw_124_97 rfl rfl inc_1 (lv' := [some (.ref 75), some (.int (iv ((g : Int) + 1))), some (.int (iv (due))), some (.int (iv (mo))), some (.int (iv ((y : Int)))), some (.int (iv (e))), some (.int (iv (1)))]) rfl ?_
                  refine zr_aload hk_124 rw_124_98 rfl ?_
                  refine mz_getf hk_124 hB rw_124_99 rfl ?_
                  refine zr_iload hk_124 rw_124_100 rfl ?_
                  refine zr_aload hk_124 rw_124_101 rfl ?_
                  refine mz_getf hk_124 hB rw_124_102 (by show some (Value.int (z1 3)) = _; rw [hz3]) ?_
                  refine zi_const hk_124 rw_124_103 (c := 1) rfl ?_
                  refine zi_sub hk_124 rw_124_104 ?_
                  refine mz_ast hk_124 (mh_a4 hB) (by decide) rw_124_105 (g + 1) (by omega) (by omega) (by decide) (mh_aS4 hB) ?_
                  refine zi_const hk_124 rw_124_106 (c := 1) rfl ?_
                  refine zi_istore hk_124 rw_124_107 rfl (lv' := [some (.ref 75), some (.int (iv ((g : Int) + 1))), some (.int (iv (1))), some (.int (iv (mo))), some (.int (iv ((y : Int)))), some (.int (iv (e))), some (.int (iv (1)))]) rfl ?_
                  refine zi_const hk_124 rw_124_108 (c := 0) rfl ?_
                  refine zi_istore hk_124 rw_124_109 rfl (lv' := [some (.ref 75), some (.int (iv ((g : Int) + 1))), some (.int (iv (1))), some (.int (iv (0))), some (.int (iv ((y : Int)))), some (.int (iv (e))), some (.int (iv (1)))]) rfl ?_
                  refine zr_goto hk_124 rw_124_110 ?_
                  refine zi_inc hk_124 rw_124_127 rfl rfl inc_1 (lv' := [some (.ref 75), some (.int (iv ((g : Int) + 1))), some (.int (iv (1))), some (.int (iv (0))), some (.int (iv ((y : Int) + 1))), some (.int (iv (e))), some (.int (iv (1)))]) rfl ?_
                  refine zr_goto hk_124 rw_124_128 ?_
                  rw [rdR_in (m' := m) (g' := g + 1) (pl' := 0) he (by first | (exfalso; omega) | (unfold rdS; repeat (first | rw [if_pos (by omega)] | rw [if_neg (by omega)])))]
                  exact zr_app (lv := [some (.ref 75), some (.int (iv ((g : Int) + 1))), some (.int (iv (1))), some (.int (iv (0))), some (.int (iv ((y : Int) + 1)))]) (ex := [some (.int (iv (e))), some (.int (iv (1)))]) (ih (y + 1) m (g + 1) 0 1 0 _ _ (by omega) hz1 hzz hz2 hz3 (hD.opn (by omega) (by omega) rfl) (by omega))
                · refine zr_aload hk_124 rw_124_92 rfl ?_
                  refine zi_const hk_124 rw_124_93 (c := 4) rfl ?_
                  refine zr_iload hk_124 rw_124_94 rfl ?_
                  refine c_faults hk_124 hB rw_124_95 (Nat.le_of_ble_eq_true rfl) ?_
                  refine zr_ireturn hk_124 rw_124_96 ?_
                  rw [rdR_out (kd := 4) he (by first | (exfalso; omega) | (unfold rdS; repeat (first | rw [if_pos (by omega)] | rw [if_neg (by omega)])))]
                  exact ⟨b, upd z1 2 _, rfl, fun i i2 i3 => (uq_ne i2).trans (hzz i i2 i3), hD.1, Or.inl ⟨4, y, rfl, by omega, rfl, uq_eq⟩⟩
          · refine zr_aload hk_124 rw_124_35 rfl ?_
            refine mz_getf hk_124 hB rw_124_36 (by show some (Value.int (z1 3)) = _; rw [hz3]) ?_
            refine zi_const hk_124 rw_124_37 (c := 10) rfl ?_
            refine zi_icmp_ne hk_124 rw_124_38 (by first | assumption | (unfold inR; omega)) (by first | assumption | (unfold inR; omega)) (fun h38 => ?_) (fun h38 => ?_)
            · refine zr_iload hk_124 rw_124_44 rfl ?_
              refine zi_const hk_124 rw_124_45 (c := 48) rfl ?_
              refine zi_icmp_ne hk_124 rw_124_46 (by first | assumption | (unfold inR; omega)) (by first | assumption | (unfold inR; omega)) (fun h46 => ?_) (fun h46 => ?_)
              · refine zr_aload hk_124 rw_124_52 rfl ?_
                refine mz_getf hk_124 hB rw_124_53 rfl ?_
                refine zr_aload hk_124 rw_124_54 rfl ?_
                refine mz_getf hk_124 hB rw_124_55 (by show some (Value.int (z1 3)) = _; rw [hz3]) ?_
                refine zr_iload hk_124 rw_124_56 rfl ?_
                refine zi_const hk_124 rw_124_57 (c := 48) rfl ?_
                refine zi_sub hk_124 rw_124_58 ?_
                refine mz_ast hk_124 (mh_a2 hB) (by decide) rw_124_59 (m) (by omega) (by omega) (by decide) (mh_aS2 hB) ?_
                refine zr_aload hk_124 rw_124_60 rfl ?_
                refine mz_getf hk_124 hB rw_124_61 rfl ?_
                refine zr_aload hk_124 rw_124_62 rfl ?_
                refine mz_getf hk_124 hB rw_124_63 (by show some (Value.int (z1 3)) = _; rw [hz3]) ?_
                refine zr_iload hk_124 rw_124_64 rfl ?_
                refine zi_if_ne hk_124 rw_124_65 (by first | assumption | (unfold inR; omega)) (fun h65 => ?_) (fun h65 => ?_)
                · refine zr_aload hk_124 rw_124_68 rfl ?_
                  refine mz_getf hk_124 hB rw_124_69 rfl ?_
                  refine zr_iload hk_124 rw_124_70 rfl ?_
                  refine mz_ald hk_124 (mh_a4 hB) rw_124_71 (g) (by omega) (by omega) (by decide) ?_
                  refine mz_ast hk_124 (mh_a3 hB) (by decide) rw_124_72 (m) (by omega) (by omega) (by decide) (mh_aS3 hB) ?_
                  refine zr_aload hk_124 rw_124_73 rfl ?_
                  refine zr_dup hk_124 rw_124_74 rfl ?_
                  refine mz_getf hk_124 hB rw_124_75 (by show some (Value.int (z1 3)) = _; rw [hz3]) ?_
                  refine zi_const hk_124 rw_124_76 (c := 1) rfl ?_
                  refine zi_add hk_124 rw_124_77 ?_
                  refine mz_putf hk_124 hB rw_124_78 (by decide) (mh_zS3 hB) ?_
                  refine zi_const hk_124 rw_124_79 (c := 0) rfl ?_
                  refine zi_istore hk_124 rw_124_80 rfl (lv' := [some (.ref 75), some (.int (iv ((g : Int)))), some (.int (iv (0))), some (.int (iv (mo))), some (.int (iv ((y : Int)))), some (.int (iv (e))), some (.int (iv (1)))]) rfl ?_
                  refine zi_const hk_124 rw_124_81 (c := 1) rfl ?_
                  refine zi_istore hk_124 rw_124_82 rfl (lv' := [some (.ref 75), some (.int (iv ((g : Int)))), some (.int (iv (0))), some (.int (iv (1))), some (.int (iv ((y : Int)))), some (.int (iv (e))), some (.int (iv (1)))]) rfl ?_
                  refine zr_goto hk_124 rw_124_83 ?_
                  refine zi_inc hk_124 rw_124_127 rfl rfl inc_1 (lv' := [some (.ref 75), some (.int (iv ((g : Int)))), some (.int (iv (0))), some (.int (iv (1))), some (.int (iv ((y : Int) + 1))), some (.int (iv (e))), some (.int (iv (1)))]) rfl ?_
                  refine zr_goto hk_124 rw_124_128 ?_
                  rw [rdR_in (m' := m + 1) (g' := g) (pl' := 1) he (by first | (exfalso; omega) | (unfold rdS; repeat (first | rw [if_pos (by omega)] | rw [if_neg (by omega)])))]
                  exact zr_app (lv := [some (.ref 75), some (.int (iv ((g : Int)))), some (.int (iv (0))), some (.int (iv (1))), some (.int (iv ((y : Int) + 1)))]) (ex := [some (.int (iv (e))), some (.int (iv (1)))]) (ih (y + 1) (m + 1) g 1 0 1 _ _ (by omega) ((uq_ne (by decide)).trans hz1) (fun i i2 i3 => (uq_ne i3).trans (hzz i i2 i3)) ((uq_ne (by decide)).trans hz2) uq_eq (hD.add (by omega) (by omega) (by omega) (by omega) (Or.inr ⟨by omega, rfl⟩)) (by omega))
                · refine zi_const hk_124 rw_124_66 (c := -9) rfl ?_
                  refine zr_goto hk_124 rw_124_67 ?_
                  refine mz_ast hk_124 (mh_a3 hB) (by decide) rw_124_72 (m) (by omega) (by omega) (by decide) (mh_aS3 hB) ?_
                  refine zr_aload hk_124 rw_124_73 rfl ?_
                  refine zr_dup hk_124 rw_124_74 rfl ?_
                  refine mz_getf hk_124 hB rw_124_75 (by show some (Value.int (z1 3)) = _; rw [hz3]) ?_
                  refine zi_const hk_124 rw_124_76 (c := 1) rfl ?_
                  refine zi_add hk_124 rw_124_77 ?_
                  refine mz_putf hk_124 hB rw_124_78 (by decide) (mh_zS3 hB) ?_
                  refine zi_const hk_124 rw_124_79 (c := 0) rfl ?_
                  refine zi_istore hk_124 rw_124_80 rfl (lv' := [some (.ref 75), some (.int (iv ((g : Int)))), some (.int (iv (0))), some (.int (iv (mo))), some (.int (iv ((y : Int)))), some (.int (iv (e))), some (.int (iv (1)))]) rfl ?_
                  refine zi_const hk_124 rw_124_81 (c := 1) rfl ?_
                  refine zi_istore hk_124 rw_124_82 rfl (lv' := [some (.ref 75), some (.int (iv ((g : Int)))), some (.int (iv (0))), some (.int (iv (1))), some (.int (iv ((y : Int)))), some (.int (iv (e))), some (.int (iv (1)))]) rfl ?_
                  refine zr_goto hk_124 rw_124_83 ?_
                  refine zi_inc hk_124 rw_124_127 rfl rfl inc_1 (lv' := [some (.ref 75), some (.int (iv ((g : Int)))), some (.int (iv (0))), some (.int (iv (1))), some (.int (iv ((y : Int) + 1))), some (.int (iv (e))), some (.int (iv (1)))]) rfl ?_
                  refine zr_goto hk_124 rw_124_128 ?_
                  rw [rdR_in (m' := m + 1) (g' := g) (pl' := 1) he (by first | (exfalso; omega) | (unfold rdS; repeat (first | rw [if_pos (by omega)] | rw [if_neg (by omega)])))]
                  exact zr_app (lv := [some (.ref 75), some (.int (iv ((g : Int)))), some (.int (iv (0))), some (.int (iv (1))), some (.int (iv ((y : Int) + 1)))]) (ex := [some (.int (iv (e))), some (.int (iv (1)))]) (ih (y + 1) (m + 1) g 1 0 1 _ _ (by omega) ((uq_ne (by decide)).trans hz1) (fun i i2 i3 => (uq_ne i3).trans (hzz i i2 i3)) ((uq_ne (by decide)).trans hz2) uq_eq (hD.add (by omega) (by omega) (by omega) (by omega) (Or.inl (by omega))) (by omega))
              · refine zr_aload hk_124 rw_124_47 rfl ?_
                refine zi_const hk_124 rw_124_48 (c := 2) rfl ?_
                refine zr_iload hk_124 rw_124_49 rfl ?_
                refine c_faults hk_124 hB rw_124_50 (Nat.le_of_ble_eq_true rfl) ?_
                refine zr_ireturn hk_124 rw_124_51 ?_
                rw [rdR_out (kd := 2) he (by first | (exfalso; omega) | (unfold rdS; repeat (first | rw [if_pos (by omega)] | rw [if_neg (by omega)])))]
                exact ⟨b, upd z1 2 _, rfl, fun i i2 i3 => (uq_ne i2).trans (hzz i i2 i3), hD.1, Or.inl ⟨2, y, rfl, by omega, rfl, uq_eq⟩⟩
            · refine zr_aload hk_124 rw_124_39 rfl ?_
              refine zi_const hk_124 rw_124_40 (c := 3) rfl ?_
              refine zr_iload hk_124 rw_124_41 rfl ?_
              refine c_faults hk_124 hB rw_124_42 (Nat.le_of_ble_eq_true rfl) ?_
              refine zr_ireturn hk_124 rw_124_43 ?_
              rw [rdR_out (kd := 3) he (by first | (exfalso; omega) | (unfold rdS; repeat (first | rw [if_pos (by omega)] | rw [if_neg (by omega)])))]
              exact ⟨b, upd z1 2 _, rfl, fun i i2 i3 => (uq_ne i2).trans (hzz i i2 i3), hD.1, Or.inl ⟨3, y, rfl, by omega, rfl, uq_eq⟩⟩
    · refine zi_istore hk_124 rw_124_25 rfl (lv' := [some (.ref 75), some (.int (iv ((g : Int)))), some (.int (iv (due))), some (.int (iv (mo))), some (.int (iv ((y : Int)))), some (.int (iv (e))), some (.int (iv (0)))]) rfl ?_
      refine zr_iload hk_124 rw_124_26 rfl ?_
      refine zi_const hk_124 rw_124_27 (c := 32) rfl ?_
      refine zi_icmp_eq hk_124 rw_124_28 (by first | assumption | (unfold inR; omega)) (by first | assumption | (unfold inR; omega)) (fun h28 => ?_) (fun h28 => ?_)
      · refine zi_inc hk_124 rw_124_127 rfl rfl inc_1 (lv' := [some (.ref 75), some (.int (iv ((g : Int)))), some (.int (iv (due))), some (.int (iv (mo))), some (.int (iv ((y : Int) + 1))), some (.int (iv (e))), some (.int (iv (0)))]) rfl ?_
        refine zr_goto hk_124 rw_124_128 ?_
        rw [rdR_in (m' := m) (g' := g) (pl' := pl) he (by first | (exfalso; omega) | (unfold rdS; repeat (first | rw [if_pos (by omega)] | rw [if_neg (by omega)])))]
        exact zr_app (lv := [some (.ref 75), some (.int (iv ((g : Int)))), some (.int (iv (due))), some (.int (iv (mo))), some (.int (iv ((y : Int) + 1)))]) (ex := [some (.int (iv (e))), some (.int (iv (0)))]) (ih (y + 1) m g pl due mo _ _ (by omega) hz1 hzz hz2 hz3 hD hdm)
      · refine zr_iload hk_124 rw_124_29 rfl ?_
        refine zi_if_eq hk_124 rw_124_30 (by first | assumption | (unfold inR; omega)) (fun h30 => ?_) (fun h30 => by omega)
        refine zr_iload hk_124 rw_124_84 rfl ?_
        refine zi_const hk_124 rw_124_85 (c := 40) rfl ?_
        refine zi_icmp_ne hk_124 rw_124_86 (by first | assumption | (unfold inR; omega)) (by first | assumption | (unfold inR; omega)) (fun h86 => ?_) (fun h86 => ?_)
        · refine zr_iload hk_124 rw_124_111 rfl ?_
          refine zi_const hk_124 rw_124_112 (c := 41) rfl ?_
          refine zi_icmp_ne hk_124 rw_124_113 (by first | assumption | (unfold inR; omega)) (by first | assumption | (unfold inR; omega)) (fun h113 => ?_) (fun h113 => ?_)
          · refine zr_aload hk_124 rw_124_122 rfl ?_
            refine zi_const hk_124 rw_124_123 (c := 1) rfl ?_
            refine zr_iload hk_124 rw_124_124 rfl ?_
            refine c_faults hk_124 hB rw_124_125 (Nat.le_of_ble_eq_true rfl) ?_
            refine zr_ireturn hk_124 rw_124_126 ?_
            rw [rdR_out (kd := 1) he (by first | (exfalso; omega) | (unfold rdS; repeat (first | rw [if_pos (by omega)] | rw [if_neg (by omega)])))]
            exact ⟨b, upd z1 2 _, rfl, fun i i2 i3 => (uq_ne i2).trans (hzz i i2 i3), hD.1, Or.inl ⟨1, y, rfl, by omega, rfl, uq_eq⟩⟩
          · refine zr_iload hk_124 rw_124_114 rfl ?_
            refine zi_if_le hk_124 rw_124_115 (by first | assumption | (unfold inR; omega)) (fun h115 => ?_) (fun h115 => ?_)
            · refine zr_aload hk_124 rw_124_122 rfl ?_
              refine zi_const hk_124 rw_124_123 (c := 1) rfl ?_
              refine zr_iload hk_124 rw_124_124 rfl ?_
              refine c_faults hk_124 hB rw_124_125 (Nat.le_of_ble_eq_true rfl) ?_
              refine zr_ireturn hk_124 rw_124_126 ?_
              rw [rdR_out (kd := 1) he (by first | (exfalso; omega) | (unfold rdS; repeat (first | rw [if_pos (by omega)] | rw [if_neg (by omega)])))]
              exact ⟨b, upd z1 2 _, rfl, fun i i2 i3 => (uq_ne i2).trans (hzz i i2 i3), hD.1, Or.inl ⟨1, y, rfl, by omega, rfl, uq_eq⟩⟩
            · refine zr_iload hk_124 rw_124_116 rfl ?_
              refine zi_if_ne hk_124 rw_124_117 (by first | assumption | (unfold inR; omega)) (fun h117 => ?_) (fun h117 => ?_)
              · refine zr_aload hk_124 rw_124_122 rfl ?_
                refine zi_const hk_124 rw_124_123 (c := 1) rfl ?_
                refine zr_iload hk_124 rw_124_124 rfl ?_
                refine c_faults hk_124 hB rw_124_125 (Nat.le_of_ble_eq_true rfl) ?_
                refine zr_ireturn hk_124 rw_124_126 ?_
                rw [rdR_out (kd := 1) he (by first | (exfalso; omega) | (unfold rdS; repeat (first | rw [if_pos (by omega)] | rw [if_neg (by omega)])))]
                exact ⟨b, upd z1 2 _, rfl, fun i i2 i3 => (uq_ne i2).trans (hzz i i2 i3), hD.1, Or.inl ⟨1, y, rfl, by omega, rfl, uq_eq⟩⟩
              · refine zi_inc hk_124 rw_124_118 rfl rfl inc_m1 (lv' := [some (.ref 75), some (.int (iv ((g : Int) + (-1)))), some (.int (iv (due))), some (.int (iv (mo))), some (.int (iv ((y : Int)))), some (.int (iv (e))), some (.int (iv (0)))]) rfl ?_
                refine zi_const hk_124 rw_124_119 (c := 0) rfl ?_
                refine zi_istore hk_124 rw_124_120 rfl (lv' := [some (.ref 75), some (.int (iv ((g : Int) + (-1)))), some (.int (iv (due))), some (.int (iv (0))), some (.int (iv ((y : Int)))), some (.int (iv (e))), some (.int (iv (0)))]) rfl ?_
                refine zr_goto hk_124 rw_124_121 ?_
                refine zi_inc hk_124 rw_124_127 rfl rfl inc_1 (lv' := [some (.ref 75), some (.int (iv ((g : Int) + (-1)))), some (.int (iv (due))), some (.int (iv (0))), some (.int (iv ((y : Int) + 1))), some (.int (iv (e))), some (.int (iv (0)))]) rfl ?_
                refine zr_goto hk_124 rw_124_128 ?_
                rw [rdR_in (m' := m) (g' := g - 1) (pl' := 2) he (by first | (exfalso; omega) | (unfold rdS; repeat (first | rw [if_pos (by omega)] | rw [if_neg (by omega)]))), show (g : Int) + (-1) = ((g - 1 : Nat) : Int) by omega]
                exact zr_app (lv := [some (.ref 75), some (.int (iv (((g - 1 : Nat) : Int)))), some (.int (iv (due))), some (.int (iv (0))), some (.int (iv ((y : Int) + 1)))]) (ex := [some (.int (iv (e))), some (.int (iv (0)))]) (ih (y + 1) m (g - 1) 2 due 0 _ _ (by omega) hz1 hzz hz2 hz3 (hD.close (by omega) (by omega)) (by omega))
        · refine zr_iload hk_124 rw_124_87 rfl ?_
          refine zi_if_eq hk_124 rw_124_88 (by first | assumption | (unfold inR; omega)) (fun h88 => ?_) (fun h88 => ?_)
          · refine zr_iload hk_124 rw_124_111 rfl ?_
            refine zi_const hk_124 rw_124_112 (c := 41) rfl ?_
            refine zi_icmp_ne hk_124 rw_124_113 (by first | assumption | (unfold inR; omega)) (by first | assumption | (unfold inR; omega)) (fun h113 => ?_) (fun h113 => ?_)
            · refine zr_aload hk_124 rw_124_122 rfl ?_
              refine zi_const hk_124 rw_124_123 (c := 1) rfl ?_
              refine zr_iload hk_124 rw_124_124 rfl ?_
              refine c_faults hk_124 hB rw_124_125 (Nat.le_of_ble_eq_true rfl) ?_
              refine zr_ireturn hk_124 rw_124_126 ?_
              rw [rdR_out (kd := 1) he (by first | (exfalso; omega) | (unfold rdS; repeat (first | rw [if_pos (by omega)] | rw [if_neg (by omega)])))]
              exact ⟨b, upd z1 2 _, rfl, fun i i2 i3 => (uq_ne i2).trans (hzz i i2 i3), hD.1, Or.inl ⟨1, y, rfl, by omega, rfl, uq_eq⟩⟩
            · refine zr_iload hk_124 rw_124_114 rfl ?_
              refine zi_if_le hk_124 rw_124_115 (by first | assumption | (unfold inR; omega)) (fun h115 => ?_) (fun h115 => ?_)
              · refine zr_aload hk_124 rw_124_122 rfl ?_
                refine zi_const hk_124 rw_124_123 (c := 1) rfl ?_
                refine zr_iload hk_124 rw_124_124 rfl ?_
                refine c_faults hk_124 hB rw_124_125 (Nat.le_of_ble_eq_true rfl) ?_
                refine zr_ireturn hk_124 rw_124_126 ?_
                rw [rdR_out (kd := 1) he (by first | (exfalso; omega) | (unfold rdS; repeat (first | rw [if_pos (by omega)] | rw [if_neg (by omega)])))]
                exact ⟨b, upd z1 2 _, rfl, fun i i2 i3 => (uq_ne i2).trans (hzz i i2 i3), hD.1, Or.inl ⟨1, y, rfl, by omega, rfl, uq_eq⟩⟩
              · refine zr_iload hk_124 rw_124_116 rfl ?_
                refine zi_if_ne hk_124 rw_124_117 (by first | assumption | (unfold inR; omega)) (fun h117 => ?_) (fun h117 => ?_)
                · refine zr_aload hk_124 rw_124_122 rfl ?_
                  refine zi_const hk_124 rw_124_123 (c := 1) rfl ?_
                  refine zr_iload hk_124 rw_124_124 rfl ?_
                  refine c_faults hk_124 hB rw_124_125 (Nat.le_of_ble_eq_true rfl) ?_
                  refine zr_ireturn hk_124 rw_124_126 ?_
                  rw [rdR_out (kd := 1) he (by first | (exfalso; omega) | (unfold rdS; repeat (first | rw [if_pos (by omega)] | rw [if_neg (by omega)])))]
                  exact ⟨b, upd z1 2 _, rfl, fun i i2 i3 => (uq_ne i2).trans (hzz i i2 i3), hD.1, Or.inl ⟨1, y, rfl, by omega, rfl, uq_eq⟩⟩
                · refine zi_inc hk_124 rw_124_118 rfl rfl inc_m1 (lv' := [some (.ref 75), some (.int (iv ((g : Int) + (-1)))), some (.int (iv (due))), some (.int (iv (mo))), some (.int (iv ((y : Int)))), some (.int (iv (e))), some (.int (iv (0)))]) rfl ?_
                  refine zi_const hk_124 rw_124_119 (c := 0) rfl ?_
                  refine zi_istore hk_124 rw_124_120 rfl (lv' := [some (.ref 75), some (.int (iv ((g : Int) + (-1)))), some (.int (iv (due))), some (.int (iv (0))), some (.int (iv ((y : Int)))), some (.int (iv (e))), some (.int (iv (0)))]) rfl ?_
                  refine zr_goto hk_124 rw_124_121 ?_
                  refine zi_inc hk_124 rw_124_127 rfl rfl inc_1 (lv' := [some (.ref 75), some (.int (iv ((g : Int) + (-1)))), some (.int (iv (due))), some (.int (iv (0))), some (.int (iv ((y : Int) + 1))), some (.int (iv (e))), some (.int (iv (0)))]) rfl ?_
                  refine zr_goto hk_124 rw_124_128 ?_
                  rw [rdR_in (m' := m) (g' := g - 1) (pl' := 2) he (by first | (exfalso; omega) | (unfold rdS; repeat (first | rw [if_pos (by omega)] | rw [if_neg (by omega)]))), show (g : Int) + (-1) = ((g - 1 : Nat) : Int) by omega]
                  exact zr_app (lv := [some (.ref 75), some (.int (iv (((g - 1 : Nat) : Int)))), some (.int (iv (due))), some (.int (iv (0))), some (.int (iv ((y : Int) + 1)))]) (ex := [some (.int (iv (e))), some (.int (iv (0)))]) (ih (y + 1) m (g - 1) 2 due 0 _ _ (by omega) hz1 hzz hz2 hz3 (hD.close (by omega) (by omega)) (by omega))
          · refine zr_iload hk_124 rw_124_89 rfl ?_
            refine zi_const hk_124 rw_124_90 (c := 4) rfl ?_
            refine zi_icmp_ne hk_124 rw_124_91 (by first | assumption | (unfold inR; omega)) (by first | assumption | (unfold inR; omega)) (fun h91 => ?_) (fun h91 => ?_)
            · refine zi_inc hk_124 rw_124_97 rfl rfl inc_1 (lv' := [some (.ref 75), some (.int (iv ((g : Int) + 1))), some (.int (iv (due))), some (.int (iv (mo))), some (.int (iv ((y : Int)))), some (.int (iv (e))), some (.int (iv (0)))]) rfl ?_
              refine zr_aload hk_124 rw_124_98 rfl ?_
              refine mz_getf hk_124 hB rw_124_99 rfl ?_
              refine zr_iload hk_124 rw_124_100 rfl ?_
              refine zr_aload hk_124 rw_124_101 rfl ?_
              refine mz_getf hk_124 hB rw_124_102 (by show some (Value.int (z1 3)) = _; rw [hz3]) ?_
              refine zi_const hk_124 rw_124_103 (c := 1) rfl ?_
              refine zi_sub hk_124 rw_124_104 ?_
              refine mz_ast hk_124 (mh_a4 hB) (by decide) rw_124_105 (g + 1) (by omega) (by omega) (by decide) (mh_aS4 hB) ?_
              refine zi_const hk_124 rw_124_106 (c := 1) rfl ?_
              refine zi_istore hk_124 rw_124_107 rfl (lv' := [some (.ref 75), some (.int (iv ((g : Int) + 1))), some (.int (iv (1))), some (.int (iv (mo))), some (.int (iv ((y : Int)))), some (.int (iv (e))), some (.int (iv (0)))]) rfl ?_
              refine zi_const hk_124 rw_124_108 (c := 0) rfl ?_
              refine zi_istore hk_124 rw_124_109 rfl (lv' := [some (.ref 75), some (.int (iv ((g : Int) + 1))), some (.int (iv (1))), some (.int (iv (0))), some (.int (iv ((y : Int)))), some (.int (iv (e))), some (.int (iv (0)))]) rfl ?_
              refine zr_goto hk_124 rw_124_110 ?_
              refine zi_inc hk_124 rw_124_127 rfl rfl inc_1 (lv' := [some (.ref 75), some (.int (iv ((g : Int) + 1))), some (.int (iv (1))), some (.int (iv (0))), some (.int (iv ((y : Int) + 1))), some (.int (iv (e))), some (.int (iv (0)))]) rfl ?_
              refine zr_goto hk_124 rw_124_128 ?_
              rw [rdR_in (m' := m) (g' := g + 1) (pl' := 0) he (by first | (exfalso; omega) | (unfold rdS; repeat (first | rw [if_pos (by omega)] | rw [if_neg (by omega)])))]
              exact zr_app (lv := [some (.ref 75), some (.int (iv ((g : Int) + 1))), some (.int (iv (1))), some (.int (iv (0))), some (.int (iv ((y : Int) + 1)))]) (ex := [some (.int (iv (e))), some (.int (iv (0)))]) (ih (y + 1) m (g + 1) 0 1 0 _ _ (by omega) hz1 hzz hz2 hz3 (hD.opn (by omega) (by omega) rfl) (by omega))
            · refine zr_aload hk_124 rw_124_92 rfl ?_
              refine zi_const hk_124 rw_124_93 (c := 4) rfl ?_
              refine zr_iload hk_124 rw_124_94 rfl ?_
              refine c_faults hk_124 hB rw_124_95 (Nat.le_of_ble_eq_true rfl) ?_
              refine zr_ireturn hk_124 rw_124_96 ?_
              rw [rdR_out (kd := 4) he (by first | (exfalso; omega) | (unfold rdS; repeat (first | rw [if_pos (by omega)] | rw [if_neg (by omega)])))]
              exact ⟨b, upd z1 2 _, rfl, fun i i2 i3 => (uq_ne i2).trans (hzz i i2 i3), hD.1, Or.inl ⟨4, y, rfl, by omega, rfl, uq_eq⟩⟩
theorem reads_ok (d : Nat) (hB : 87 ≤ B.length) {N : Nat} (hN : N ≤ 60) (hz1 : z 1 = iv (N : Int)) : ZC (d + 1) 124 [.ref 75] (mh B p a z) (RPost B p z (a 1) (rdR (a 1) N 0 0 0 0)) := by
  refine ZC.of (lv := [some (.ref 75)]) hk_124 (fun i v hv => ?_) ?_
  · match i, hv with
    | 0, hv => cases hv; rfl
    | i + 1, hv => simp at hv
  refine zr_aload hk_124 rw_124_0 rfl ?_
  refine zi_const hk_124 rw_124_1 (c := 0) rfl ?_
  refine mz_putf hk_124 hB rw_124_2 (by decide) (mh_zS3 hB) ?_
  refine zi_const hk_124 rw_124_3 (c := 0) rfl ?_
  refine zi_istore hk_124 rw_124_4 rfl (lv' := [some (.ref 75), some (.int (iv (0)))]) rfl ?_
  refine zi_const hk_124 rw_124_5 (c := 1) rfl ?_
  refine zi_istore hk_124 rw_124_6 rfl (lv' := [some (.ref 75), some (.int (iv (0))), some (.int (iv (1)))]) rfl ?_
  refine zi_const hk_124 rw_124_7 (c := 0) rfl ?_
  refine zi_istore hk_124 rw_124_8 rfl (lv' := [some (.ref 75), some (.int (iv (0))), some (.int (iv (1))), some (.int (iv (0)))]) rfl ?_
  refine zi_const hk_124 rw_124_9 (c := 0) rfl ?_
  refine zi_istore hk_124 rw_124_10 rfl (lv' := [some (.ref 75), some (.int (iv (0))), some (.int (iv (1))), some (.int (iv (0))), some (.int (iv (0)))]) rfl ?_
  exact rd_loop hB hN N 0 0 0 0 1 0 a (upd z 3 (iv 0)) (by omega) ((uq_ne (by decide)).trans hz1) (fun i _ i3 => uq_ne i3) (uq_ne (by decide)) uq_eq ⟨rfl, ⟨by omega, by omega, by omega, by omega, by omega, by omega⟩, ⟨fun i hi => absurd hi (Nat.not_lt_zero _), fun i i1 i2 => absurd i2 (Nat.not_lt_zero _)⟩, fun i i1 i2 => by omega⟩ (by omega)
theorem Ops.ff {p q : Nat → Int32} {c e : Nat} {w : Int} (h : Ops p q c e w) (hc : c < 10) (he : e < 10) (hf : FF p c) (hn : ∀ b, c < b → b < 10 → ¬ p (21 * b) = iv 1) : FF q (c + 1) ∧ ∀ b, c + 1 ≤ b → b < 10 → ¬ q (21 * b) = iv 1 := by
  have key : ∀ b, b < 10 → b ≠ c → q (21 * b) = p (21 * b) := fun b hb hne => h.2.2.2.2.2.2 _ (by omega) (by omega) (by omega)
  have h2 : ∀ b, c + 1 ≤ b → b < 10 → ¬ q (21 * b) = iv 1 := fun b b1 b2 z => hn b (by omega) b2 ((key b b2 (by omega)).symm.trans z)
  refine ⟨⟨by omega, fun i hi => ?_, fun hlt => h2 _ (Nat.le_refl _) hlt⟩, h2⟩
  by_cases e1 : i = c
  · rw [e1]
    exact h.1
  · exact (key i (by omega) e1).trans (hf.2.1 i (by omega))
def LPost (B : PH) (T : Nat) (z t : Nat → Int32) (R : Nat ⊕ (Nat × Nat)) (v : Option Value) (ph' : PH) : Prop := ∃ p' a' z', ph' = mh B p' a' z' ∧ MInv (T + 60) p' z' ∧ z' 1 = z 1 ∧ a' 1 = t ∧ ((∃ kd pos : Nat, R = .inr (kd, pos) ∧ v = some (.int (iv (-10 - (pos : Int)))) ∧ z' 2 = iv (kd : Int)) ∨ (∃ m : Nat, R = .inl m ∧ v = some (.int (iv (m : Int))) ∧ z' 2 = iv (-9)))
theorem ld_loop (hB : 87 ≤ B.length) {T m : Nat} {is : Int32} (hm : m ≤ 10) (hz3 : z 3 = iv (m : Int)) (hw : WP a m) : ∀ (i k : Nat) (q : Nat → Int32), k + i = m → 1 ≤ k → FF q k → (∀ b, k ≤ b → b < 10 → ¬ q (21 * b) = iv 1) → PageOK T q → (∀ i, 2000 ≤ i → q i = p i) → ZR (d + 3) 123 20 [some (.ref 75), some (.int (is)), some (.int (iv ((k : Int))))] [] (mh B q a z) (fun v ph' => ∃ q, PageOK T q ∧ (∀ i, 2000 ≤ i → q i = p i) ∧ v = some (.int (iv (m : Int))) ∧ ph' = mh B q a z) := by
  intro i
  induction i with
  | zero =>
    intro k q hkm hk1 hff hno hQ0 hH
    refine zr_cut hk_123 rw_123_20 ?_
    refine zr_iload hk_123 rw_123_21 rfl ?_
    refine zr_aload hk_123 rw_123_22 rfl ?_
    refine mz_getf hk_123 hB rw_123_23 (by show some (Value.int (z 3)) = _; rw [hz3]) ?_
    refine zi_icmp_ge hk_123 rw_123_24 (by unfold inR; omega) (by unfold inR; omega) (fun h24 => ?_) (fun h24 => by omega)
    refine zr_aload hk_123 rw_123_38 rfl ?_
    refine mz_getf hk_123 hB rw_123_39 (by show some (Value.int (z 3)) = _; rw [hz3]) ?_
    refine zr_ireturn hk_123 rw_123_40 ?_
    exact ⟨q, hQ0, hH, rfl, rfl⟩
  | succ i ih =>
    intro k q hkm hk1 hff hno hQ0 hH
    refine zr_cut hk_123 rw_123_20 ?_
    refine zr_iload hk_123 rw_123_21 rfl ?_
    refine zr_aload hk_123 rw_123_22 rfl ?_
    refine mz_getf hk_123 hB rw_123_23 (by show some (Value.int (z 3)) = _; rw [hz3]) ?_
    refine zi_icmp_ge hk_123 rw_123_24 (by unfold inR; omega) (by unfold inR; omega) (fun h24 => by omega) (fun h24 => ?_)
    obtain ⟨e, he1, he2⟩ := hw.2 k hk1 (by omega)
    obtain ⟨w, hw1, hw2, hw3⟩ := hw.1 k (by omega)
    refine zr_aload hk_123 rw_123_25 rfl ?_
    refine zr_aload hk_123 rw_123_26 rfl ?_
    refine mz_getf hk_123 hB rw_123_27 rfl ?_
    refine zr_iload hk_123 rw_123_28 rfl ?_
    refine mz_aldE hk_123 (mh_a3 hB) rw_123_29 (k) (by omega) (by omega) (by decide) (he2) ?_
    refine zr_aload hk_123 rw_123_30 rfl ?_
    refine mz_getf hk_123 hB rw_123_31 rfl ?_
    refine zr_iload hk_123 rw_123_32 rfl ?_
    refine mz_aldE hk_123 (mh_a2 hB) rw_123_33 (k) (by omega) (by omega) (by decide) (hw1) ?_
    refine c_opens hk_123 hB rw_123_34 e hff (by omega) (by omega) (hff.2.1 e he1) ((hQ0.1.1 e (by omega)).2.2.2 (hff.2.1 e he1)).1 hw2 hw3 (Nat.le_of_ble_eq_true rfl) (fun q2 hO => ?_)
    refine zr_pop hk_123 rw_123_35 rfl ?_
    refine zi_inc hk_123 rw_123_36 rfl rfl inc_1 (lv' := [some (.ref 75), some (.int (is)), some (.int (iv ((k : Int) + 1)))]) rfl ?_
    refine zr_goto hk_123 rw_123_37 ?_
    obtain ⟨f1, f2⟩ := hO.ff (by omega) (by omega) hff (fun b b1 b2 => hno b (by omega) b2)
    exact ih (k + 1) q2 (by omega) (by omega) f1 f2 (hO.ok hQ0 hk1 (by omega) (by omega) (hff.2.1 e he1) (hff.2.2 (by omega)) hw2 hw3) (fun i hi => (hO.hi (by omega) (by omega) i hi).trans (hH i hi))
theorem MInv_up2 {T r : Nat} {q z1 : Nat → Int32} (hr : r ≤ 5) (hP : PIn T q r) (hz : z1 0 = iv (r : Int)) : MInv (T + 60) q z1 := MInv.up (T := T) ⟨r, hr, hz, hP⟩ (by omega)
theorem c_reads (hk : k < 186) (hB : 87 ≤ B.length) {pc b x ix : Nat} {ts : List Nat} (hrow : (codeOf k)[j]? = some (pc, .invokevirtual ix, 124, b, x, 3, ts)) {N : Nat} (hN : N ≤ 60) (hz1 : z 1 = iv (N : Int)) (hcat : catS st ≤ 8) (h1 : ∀ (b : Nat → Nat → Int32) (z2 : Nat → Int32), (∀ i, i ≠ 2 → i ≠ 3 → z2 i = z i) → b 1 = a 1 → ∀ kd pos : Nat, rdR (a 1) N 0 0 0 0 = .inr (kd, pos) → pos ≤ 60 → z2 2 = iv (kd : Int) → ZR (d + 2) k (j + 1) lv (.int (iv (-10 - (pos : Int))) :: st) (mh B p b z2) Q)
    (h2 : ∀ (b : Nat → Nat → Int32) (z2 : Nat → Int32), (∀ i, i ≠ 2 → i ≠ 3 → z2 i = z i) → b 1 = a 1 → ∀ m : Nat, rdR (a 1) N 0 0 0 0 = .inl m → z2 2 = z 2 → z2 3 = iv (m : Int) → 1 ≤ m → m ≤ 10 → WP b m → ZR (d + 2) k (j + 1) lv (.int (iv 0) :: st) (mh B p b z2) Q) : ZR (d + 2) k j lv (.ref 75 :: st) (mh B p a z) Q := by
  refine mz_call (L := 7) (n := 0) (as := []) (r := st) hk hB hrow (by decide) (by decide) ⟨rfl, rfl, rfl, rfl⟩ rfl rfl hcat (Nat.le_of_ble_eq_true rfl) (reads_ok d hB hN hz1) ?_
  rintro w ph' ⟨b, z2, rfl, e1, e2, e3⟩
  rcases e3 with ⟨kd, pos, f1, f2, rfl, f3⟩ | ⟨m, f1, rfl, f2, f3, f4, f5, f6⟩
  · exact h1 b z2 e1 e2 kd pos f1 f2 f3
  · exact h2 b z2 e1 e2 m f1 f2 f3 f4 f5 f6
theorem load_ok (d : Nat) (hB : 87 ≤ B.length) {T N : Nat} (hN : N ≤ 60) (hz1 : z 1 = iv (N : Int)) (hM : MInv T p z) : ZC (d + 3) 123 [.ref 75] (mh B p a z) (LPost B T z (a 1) (rdR (a 1) N 0 0 0 0)) := by
  obtain ⟨r, hr, hz, hP⟩ := hM
  refine ZC.of (lv := [some (.ref 75)]) hk_123 (fun i v hv => ?_) ?_
  · match i, hv with
    | 0, hv => cases hv; rfl
    | i + 1, hv => simp at hv
  refine zr_aload hk_123 rw_123_0 rfl ?_
  refine zi_const hk_123 rw_123_1 (c := -9) rfl ?_
  refine mz_putf hk_123 hB rw_123_2 (by decide) (mh_zS2 hB) ?_
  refine zr_aload hk_123 rw_123_3 rfl ?_
  refine c_reads hk_123 hB rw_123_4 hN ((uq_ne (by decide)).trans hz1) (Nat.le_of_ble_eq_true rfl) (fun b z2 hzz hb1 kd pos hR hpos h2 => ?_) (fun b z2 hzz hb1 m hR h2 h3 hm1 hm10 hw => ?_)
  · refine zi_istore hk_123 rw_123_5 rfl (lv' := [some (.ref 75), some (.int (iv (-10 - (pos : Int))))]) rfl ?_
    refine zr_iload hk_123 rw_123_6 rfl ?_
    refine zi_if_eq hk_123 rw_123_7 (by unfold inR; omega) (fun h7 => by omega) (fun h7 => ?_)
    refine zr_iload hk_123 rw_123_8 rfl ?_
    refine zr_ireturn hk_123 rw_123_9 ?_
    exact ⟨p, b, z2, rfl, MInv_up2 hr hP ((hzz 0 (by decide) (by decide)).trans ((uq_ne (by decide)).trans hz)), (hzz 1 (by decide) (by decide)).trans (uq_ne (by decide)), hb1, Or.inl ⟨kd, pos, hR, rfl, h2⟩⟩
  · refine zi_istore hk_123 rw_123_5 rfl (lv' := [some (.ref 75), some (.int (iv (0)))]) rfl ?_
    refine zr_iload hk_123 rw_123_6 rfl ?_
    refine zi_if_eq hk_123 rw_123_7 (by unfold inR; omega) (fun h7 => ?_) (fun h7 => by omega)
    refine zr_aload hk_123 rw_123_10 rfl ?_
    have hz0 : z2 0 = iv (r : Int) := (hzz 0 (by decide) (by decide)).trans ((uq_ne (by decide)).trans hz)
    refine c_records hk_123 hB rw_123_11 hr hz0 hP (Nat.le_of_ble_eq_true rfl) (fun q z1 r1 hr1 hzr hP1 hL hZ => ?_)
    have hQ0 := sl0.mp (hP1 0 (Nat.zero_le _))
    obtain ⟨w, hw1, hw2, hw3⟩ := hw.1 0 (by omega)
    refine zr_aload hk_123 rw_123_12 rfl ?_
    refine zr_aload hk_123 rw_123_13 rfl ?_
    refine mz_getf hk_123 hB rw_123_14 rfl ?_
    refine zi_const hk_123 rw_123_15 (c := 0) rfl ?_
    refine mz_aldE hk_123 (mh_a2 hB) rw_123_16 (0) (by omega) (by omega) (by decide) (hw1) ?_
    refine c_begin hk_123 hB rw_123_17 (Nat.le_of_ble_eq_true rfl) (fun q2 hG => ?_)
    refine zi_const hk_123 rw_123_18 (c := 1) rfl ?_
    refine zi_istore hk_123 rw_123_19 rfl (lv' := [some (.ref 75), some (.int (iv (0))), some (.int (iv (1)))]) rfl ?_
    have hno : ∀ c, 1 ≤ c → c < 10 → ¬ q2 (21 * c) = iv 1 := fun c c1 c2 e => iv01 (((hG.2.2.2.2.1 c c1 c2).1).symm.trans e)
    refine zr_mono ?_ (ld_loop (p := q2) (T := T) hB hm10 ((hZ 3 (by decide)).trans h3) hw (m - 1) 1 q2 (by omega) (by omega) ⟨by omega, fun i hi => ?_, fun _ => hno 1 (by omega) (by omega)⟩ hno (hG.ok hQ0.1.2.1 hw2 hw3) (fun _ _ => rfl))
    · rintro v ph' ⟨q3, k1, k2, rfl, rfl⟩
      exact ⟨q3, b, z1, rfl, MInv_hi hr1 hzr hP1 (k1.up (by omega)) (by omega) (fun i hi => (k2 i hi).trans (hG.2.2.2.2.2.2.2.2.2.2.2 i hi)), (hZ 1 (by decide)).trans ((hzz 1 (by decide) (by decide)).trans (uq_ne (by decide))), hb1, Or.inr ⟨m, hR, rfl, (hZ 2 (by decide)).trans (h2.trans uq_eq)⟩⟩
    · obtain rfl : i = 0 := by omega
      exact hG.1
def tyV (x : Int) (N : Nat) : Int := if 32 ≤ x ∧ x ≤ 126 then (if N = 60 then -3 else (N : Int) + 1) else -1
theorem type_ok (d : Nat) (hB : 87 ≤ B.length) {N : Nat} {x : Int} (hx : inR x) (hN : N ≤ 60) (hz1 : z 1 = iv (N : Int)) : ZC (d + 1) 120 [.ref 75, .int (iv x)] (mh B p a z) (fun v ph' => ∃ a' z', ph' = mh B p a' z' ∧ v = some (.int (iv (if 32 ≤ x ∧ x ≤ 126 then (if N = 60 then -3 else (N : Int) + 1) else -1))) ∧ ((¬ (32 ≤ x ∧ x ≤ 126 ∧ N < 60) ∧ a' = a ∧ z' = z) ∨ (32 ≤ x ∧ x ≤ 126 ∧ N < 60 ∧ a' = ua a 1 (upd (a 1) N (iv x)) ∧ z' = upd z 1 (iv ((N : Int) + 1))))) := by
  refine ZC.of (lv := [some (.ref 75), some (.int (iv (x)))]) hk_120 (fun i v hv => ?_) ?_
  · match i, hv with
    | 0, hv => cases hv; rfl
    | 1, hv => cases hv; rfl
    | i + 2, hv => simp at hv
  refine zr_iload hk_120 rw_120_0 rfl ?_
  refine zi_const hk_120 rw_120_1 (c := 32) rfl ?_
  refine zi_const hk_120 rw_120_2 (c := 126) rfl ?_
  refine c_in hk_120 hB rw_120_3 (by first | assumption | (unfold inR; omega)) (by first | assumption | (unfold inR; omega)) (by first | assumption | (unfold inR; omega)) (Nat.le_of_ble_eq_true rfl) (fun h3c => ?_) (fun h3c => ?_)
  · refine zi_if_ne hk_120 rw_120_4 (by unfold inR; omega) (fun _ => ?_) (fun h => absurd h (by decide))
    refine zr_aload hk_120 rw_120_7 rfl ?_
    refine mz_getf hk_120 hB rw_120_8 (by show some (Value.int (z 1)) = _; rw [hz1]) ?_
    refine zi_const hk_120 rw_120_9 (c := 60) rfl ?_
    refine zi_icmp_ne hk_120 rw_120_10 (by first | assumption | (unfold inR; omega)) (by first | assumption | (unfold inR; omega)) (fun h10 => ?_) (fun h10 => ?_)
    · refine zr_aload hk_120 rw_120_13 rfl ?_
      refine mz_getf hk_120 hB rw_120_14 rfl ?_
      refine zr_aload hk_120 rw_120_15 rfl ?_
      refine mz_getf hk_120 hB rw_120_16 (by show some (Value.int (z 1)) = _; rw [hz1]) ?_
      refine zr_iload hk_120 rw_120_17 rfl ?_
      refine mz_ast hk_120 (mh_a1 hB) (by decide) rw_120_18 (N) (by omega) (by omega) (by decide) (mh_aS1 hB) ?_
      refine zr_aload hk_120 rw_120_19 rfl ?_
      refine zr_dup hk_120 rw_120_20 rfl ?_
      refine mz_getf hk_120 hB rw_120_21 (by show some (Value.int (z 1)) = _; rw [hz1]) ?_
      refine zi_const hk_120 rw_120_22 (c := 1) rfl ?_
      refine zi_add hk_120 rw_120_23 ?_
      refine mz_putf hk_120 hB rw_120_24 (by decide) (mh_zS1 hB) ?_
      refine zr_aload hk_120 rw_120_25 rfl ?_
      refine mz_getf hk_120 hB rw_120_26 (by show some (Value.int (upd z 1 _ 1)) = _; rw [uq_eq]) ?_
      refine zr_ireturn hk_120 rw_120_27 ?_
      exact ⟨_, _, rfl, by rw [if_pos (by omega), if_neg (by omega)], Or.inr ⟨by omega, by omega, by omega, rfl, rfl⟩⟩
    · refine zi_const hk_120 rw_120_11 (c := -3) rfl ?_
      refine zr_ireturn hk_120 rw_120_12 ?_
      exact ⟨a, z, rfl, by rw [if_pos (by omega), if_pos (by omega)], Or.inl ⟨by omega, rfl, rfl⟩⟩
  · refine zi_if_ne hk_120 rw_120_4 (by unfold inR; omega) (fun h => absurd h (by decide)) (fun _ => ?_)
    refine zi_const hk_120 rw_120_5 (c := -1) rfl ?_
    refine zr_ireturn hk_120 rw_120_6 ?_
    exact ⟨a, z, rfl, by rw [if_neg (by omega)], Or.inl ⟨by omega, rfl, rfl⟩⟩
theorem clear_ok (d : Nat) (hB : 87 ≤ B.length) : ZC d 122 [.ref 75] (mh B p a z) (fun v ph' => ph' = mh B p a (upd z 1 (iv 0)) ∧ v = some (.int (z 1))) := by
  refine ZC.of (lv := [some (.ref 75)]) hk_122 (fun i v hv => ?_) ?_
  · match i, hv with
    | 0, hv => cases hv; rfl
    | i + 1, hv => simp at hv
  refine zr_aload hk_122 rw_122_0 rfl ?_
  refine mz_getf hk_122 hB rw_122_1 (rfl) ?_
  refine zi_istore hk_122 rw_122_2 rfl (lv' := [some (.ref 75), some (.int (z 1))]) rfl ?_
  refine zr_aload hk_122 rw_122_3 rfl ?_
  refine zi_const hk_122 rw_122_4 (c := 0) rfl ?_
  refine mz_putf hk_122 hB rw_122_5 (by decide) (mh_zS1 hB) ?_
  refine zr_iload hk_122 rw_122_6 rfl ?_
  refine zr_ireturn hk_122 rw_122_7 ?_
  exact ⟨rfl, rfl⟩
theorem fault_ok (d : Nat) (hB : 87 ≤ B.length) : ZC d 131 [.ref 75] (mh B p a z) (fun v ph' => ph' = mh B p a z ∧ v = some (.int (z 2))) := by
  refine ZC.of (lv := [some (.ref 75)]) hk_131 (fun i v hv => ?_) ?_
  · match i, hv with
    | 0, hv => cases hv; rfl
    | i + 1, hv => simp at hv
  refine zr_aload hk_131 rw_131_0 rfl ?_
  refine mz_getf hk_131 hB rw_131_1 rfl ?_
  refine zr_ireturn hk_131 rw_131_2 ?_
  exact ⟨rfl, rfl⟩
end MR

/-! ===== by program (wip/gen/m78.py): a family begins; opening and closing ===== -/
theorem kc118_eq : codeOf 118 = kc118 := rfl
theorem hk_118 : 118 < 186 := by decide
theorem rw_118_0 : (codeOf 118)[0]? = some (0, .iconst 0, 2147483648, 0, 0, 1, []) := by rw [kc118_eq]; rfl
theorem rw_118_1 : (codeOf 118)[1]? = some (1, .istore 2, 2, 0, 0, 1, []) := by rw [kc118_eq]; rfl
theorem rw_118_2 : (codeOf 118)[2]? = some (2, .monitorexit, 944, 0, 0, 0, []) := by rw [kc118_eq]; rfl
theorem rw_118_3 : (codeOf 118)[3]? = some (2, .iload 2, 2, 0, 0, 1, []) := by rw [kc118_eq]; rfl
theorem rw_118_4 : (codeOf 118)[4]? = some (3, .iconst 210, 2147483858, 0, 0, 3, []) := by rw [kc118_eq]; rfl
theorem rw_118_5 : (codeOf 118)[5]? = some (6, .if_icmp .ge 16, 22, 13, 0, 3, []) := by rw [kc118_eq]; rfl
theorem rw_118_6 : (codeOf 118)[6]? = some (9, .aload 0, 0, 0, 3, 1, []) := by rw [kc118_eq]; rfl
theorem rw_118_7 : (codeOf 118)[7]? = some (10, .getfield 7, 9, 0, 3, 3, []) := by rw [kc118_eq]; rfl
theorem rw_118_8 : (codeOf 118)[8]? = some (13, .iload 2, 2, 0, 0, 1, []) := by rw [kc118_eq]; rfl
theorem rw_118_9 : (codeOf 118)[9]? = some (14, .iconst 0, 2147483648, 0, 0, 1, []) := by rw [kc118_eq]; rfl
theorem rw_118_10 : (codeOf 118)[10]? = some (15, .iastore, 0, 0, 0, 1, []) := by rw [kc118_eq]; rfl
theorem rw_118_11 : (codeOf 118)[11]? = some (16, .iinc 2 1, 2, 1, 0, 3, []) := by rw [kc118_eq]; rfl
theorem rw_118_12 : (codeOf 118)[12]? = some (19, .goto (-17), 2, 2, 0, 3, []) := by rw [kc118_eq]; rfl
theorem rw_118_13 : (codeOf 118)[13]? = some (22, .aload 0, 0, 0, 3, 1, []) := by rw [kc118_eq]; rfl
theorem rw_118_14 : (codeOf 118)[14]? = some (23, .getfield 7, 9, 0, 3, 3, []) := by rw [kc118_eq]; rfl
theorem rw_118_15 : (codeOf 118)[15]? = some (26, .iconst 214, 2147483862, 0, 0, 3, []) := by rw [kc118_eq]; rfl
theorem rw_118_16 : (codeOf 118)[16]? = some (29, .iconst 0, 2147483648, 0, 0, 1, []) := by rw [kc118_eq]; rfl
theorem rw_118_17 : (codeOf 118)[17]? = some (30, .iastore, 0, 0, 0, 1, []) := by rw [kc118_eq]; rfl
theorem rw_118_18 : (codeOf 118)[18]? = some (31, .aload 0, 0, 0, 3, 1, []) := by rw [kc118_eq]; rfl
theorem rw_118_19 : (codeOf 118)[19]? = some (32, .getfield 7, 9, 0, 3, 3, []) := by rw [kc118_eq]; rfl
theorem rw_118_20 : (codeOf 118)[20]? = some (35, .iconst 215, 2147483863, 0, 0, 3, []) := by rw [kc118_eq]; rfl
theorem rw_118_21 : (codeOf 118)[21]? = some (38, .iconst 0, 2147483648, 0, 0, 1, []) := by rw [kc118_eq]; rfl
theorem rw_118_22 : (codeOf 118)[22]? = some (39, .iastore, 0, 0, 0, 1, []) := by rw [kc118_eq]; rfl
theorem rw_118_23 : (codeOf 118)[23]? = some (40, .aload 0, 0, 0, 3, 1, []) := by rw [kc118_eq]; rfl
theorem rw_118_24 : (codeOf 118)[24]? = some (41, .getfield 7, 9, 0, 3, 3, []) := by rw [kc118_eq]; rfl
theorem rw_118_25 : (codeOf 118)[25]? = some (44, .iconst 217, 2147483865, 0, 0, 3, []) := by rw [kc118_eq]; rfl
theorem rw_118_26 : (codeOf 118)[26]? = some (47, .iconst 0, 2147483648, 0, 0, 1, []) := by rw [kc118_eq]; rfl
theorem rw_118_27 : (codeOf 118)[27]? = some (48, .iastore, 0, 0, 0, 1, []) := by rw [kc118_eq]; rfl
theorem rw_118_28 : (codeOf 118)[28]? = some (49, .aload 0, 0, 0, 3, 1, []) := by rw [kc118_eq]; rfl
theorem rw_118_29 : (codeOf 118)[29]? = some (50, .getfield 7, 9, 0, 3, 3, []) := by rw [kc118_eq]; rfl
theorem rw_118_30 : (codeOf 118)[30]? = some (53, .iconst 218, 2147483866, 0, 0, 3, []) := by rw [kc118_eq]; rfl
theorem rw_118_31 : (codeOf 118)[31]? = some (56, .iconst 0, 2147483648, 0, 0, 1, []) := by rw [kc118_eq]; rfl
theorem rw_118_32 : (codeOf 118)[32]? = some (57, .iastore, 0, 0, 0, 1, []) := by rw [kc118_eq]; rfl
theorem rw_118_33 : (codeOf 118)[33]? = some (58, .aload 0, 0, 0, 3, 1, []) := by rw [kc118_eq]; rfl
theorem rw_118_34 : (codeOf 118)[34]? = some (59, .getfield 7, 9, 0, 3, 3, []) := by rw [kc118_eq]; rfl
theorem rw_118_35 : (codeOf 118)[35]? = some (62, .iconst 219, 2147483867, 0, 0, 3, []) := by rw [kc118_eq]; rfl
theorem rw_118_36 : (codeOf 118)[36]? = some (65, .iconst 0, 2147483648, 0, 0, 1, []) := by rw [kc118_eq]; rfl
theorem rw_118_37 : (codeOf 118)[37]? = some (66, .iastore, 0, 0, 0, 1, []) := by rw [kc118_eq]; rfl
theorem rw_118_38 : (codeOf 118)[38]? = some (67, .aload 0, 0, 0, 3, 1, []) := by rw [kc118_eq]; rfl
theorem rw_118_39 : (codeOf 118)[39]? = some (68, .iconst 0, 2147483648, 0, 0, 1, []) := by rw [kc118_eq]; rfl
theorem rw_118_40 : (codeOf 118)[40]? = some (69, .iconst 0, 2147483648, 0, 0, 1, []) := by rw [kc118_eq]; rfl
theorem rw_118_41 : (codeOf 118)[41]? = some (70, .iconst 1, 2147483649, 0, 0, 1, []) := by rw [kc118_eq]; rfl
theorem rw_118_42 : (codeOf 118)[42]? = some (71, .invokevirtual 66, 119, 0, 0, 3, []) := by rw [kc118_eq]; rfl
theorem rw_118_43 : (codeOf 118)[43]? = some (74, .aload 0, 0, 0, 3, 1, []) := by rw [kc118_eq]; rfl
theorem rw_118_44 : (codeOf 118)[44]? = some (75, .iconst 0, 2147483648, 0, 0, 1, []) := by rw [kc118_eq]; rfl
theorem rw_118_45 : (codeOf 118)[45]? = some (76, .iconst 1, 2147483649, 0, 0, 1, []) := by rw [kc118_eq]; rfl
theorem rw_118_46 : (codeOf 118)[46]? = some (77, .aload 0, 0, 0, 3, 1, []) := by rw [kc118_eq]; rfl
theorem rw_118_47 : (codeOf 118)[47]? = some (78, .getfield 7, 9, 0, 3, 3, []) := by rw [kc118_eq]; rfl
theorem rw_118_48 : (codeOf 118)[48]? = some (81, .iconst 216, 2147483864, 0, 0, 3, []) := by rw [kc118_eq]; rfl
theorem rw_118_49 : (codeOf 118)[49]? = some (84, .iaload, 0, 0, 0, 1, []) := by rw [kc118_eq]; rfl
theorem rw_118_50 : (codeOf 118)[50]? = some (85, .invokevirtual 66, 119, 0, 0, 3, []) := by rw [kc118_eq]; rfl
theorem rw_118_51 : (codeOf 118)[51]? = some (88, .aload 0, 0, 0, 3, 1, []) := by rw [kc118_eq]; rfl
theorem rw_118_52 : (codeOf 118)[52]? = some (89, .getfield 7, 9, 0, 3, 3, []) := by rw [kc118_eq]; rfl
theorem rw_118_53 : (codeOf 118)[53]? = some (92, .iconst 216, 2147483864, 0, 0, 3, []) := by rw [kc118_eq]; rfl
theorem rw_118_54 : (codeOf 118)[54]? = some (95, .dup2, 0, 0, 0, 1, []) := by rw [kc118_eq]; rfl
theorem rw_118_55 : (codeOf 118)[55]? = some (96, .iaload, 0, 0, 0, 1, []) := by rw [kc118_eq]; rfl
theorem rw_118_56 : (codeOf 118)[56]? = some (97, .iconst 1, 2147483649, 0, 0, 1, []) := by rw [kc118_eq]; rfl
theorem rw_118_57 : (codeOf 118)[57]? = some (98, .iadd, 0, 0, 0, 1, []) := by rw [kc118_eq]; rfl
theorem rw_118_58 : (codeOf 118)[58]? = some (99, .iastore, 0, 0, 0, 1, []) := by rw [kc118_eq]; rfl
theorem rw_118_59 : (codeOf 118)[59]? = some (100, .aload 0, 0, 0, 3, 1, []) := by rw [kc118_eq]; rfl
theorem rw_118_60 : (codeOf 118)[60]? = some (101, .iconst 0, 2147483648, 0, 0, 1, []) := by rw [kc118_eq]; rfl
theorem rw_118_61 : (codeOf 118)[61]? = some (102, .iconst 2, 2147483650, 0, 0, 1, []) := by rw [kc118_eq]; rfl
theorem rw_118_62 : (codeOf 118)[62]? = some (103, .iconst (-9), 2147483639, 0, 0, 2, []) := by rw [kc118_eq]; rfl
theorem rw_118_63 : (codeOf 118)[63]? = some (105, .invokevirtual 66, 119, 0, 0, 3, []) := by rw [kc118_eq]; rfl
theorem rw_118_64 : (codeOf 118)[64]? = some (108, .aload 0, 0, 0, 3, 1, []) := by rw [kc118_eq]; rfl
theorem rw_118_65 : (codeOf 118)[65]? = some (109, .iconst 0, 2147483648, 0, 0, 1, []) := by rw [kc118_eq]; rfl
theorem rw_118_66 : (codeOf 118)[66]? = some (110, .iconst 3, 2147483651, 0, 0, 1, []) := by rw [kc118_eq]; rfl
theorem rw_118_67 : (codeOf 118)[67]? = some (111, .iload 1, 1, 0, 0, 1, []) := by rw [kc118_eq]; rfl
theorem rw_118_68 : (codeOf 118)[68]? = some (112, .invokevirtual 66, 119, 0, 0, 3, []) := by rw [kc118_eq]; rfl
theorem rw_118_69 : (codeOf 118)[69]? = some (115, .aload 0, 0, 0, 3, 1, []) := by rw [kc118_eq]; rfl
theorem rw_118_70 : (codeOf 118)[70]? = some (116, .iconst 0, 2147483648, 0, 0, 1, []) := by rw [kc118_eq]; rfl
theorem rw_118_71 : (codeOf 118)[71]? = some (117, .iconst 5, 2147483653, 0, 0, 1, []) := by rw [kc118_eq]; rfl
theorem rw_118_72 : (codeOf 118)[72]? = some (118, .iconst 32, 2147483680, 0, 0, 2, []) := by rw [kc118_eq]; rfl
theorem rw_118_73 : (codeOf 118)[73]? = some (120, .invokevirtual 66, 119, 0, 0, 3, []) := by rw [kc118_eq]; rfl
theorem rw_118_74 : (codeOf 118)[74]? = some (123, .aload 0, 0, 0, 3, 1, []) := by rw [kc118_eq]; rfl
theorem rw_118_75 : (codeOf 118)[75]? = some (124, .iconst 0, 2147483648, 0, 0, 1, []) := by rw [kc118_eq]; rfl
theorem rw_118_76 : (codeOf 118)[76]? = some (125, .iconst 6, 2147483654, 0, 0, 2, []) := by rw [kc118_eq]; rfl
theorem rw_118_77 : (codeOf 118)[77]? = some (127, .iconst 32, 2147483680, 0, 0, 2, []) := by rw [kc118_eq]; rfl
theorem rw_118_78 : (codeOf 118)[78]? = some (129, .invokevirtual 66, 119, 0, 0, 3, []) := by rw [kc118_eq]; rfl
theorem rw_118_79 : (codeOf 118)[79]? = some (132, .return_, 0, 0, 0, 1, []) := by rw [kc118_eq]; rfl
theorem kc128_eq : codeOf 128 = kc128 := rfl
theorem hk_128 : 128 < 186 := by decide
theorem rw_128_0 : (codeOf 128)[0]? = some (0, .aload 0, 0, 0, 3, 1, []) := by rw [kc128_eq]; rfl
theorem rw_128_1 : (codeOf 128)[1]? = some (1, .invokevirtual 89, 129, 0, 0, 3, []) := by rw [kc128_eq]; rfl
theorem rw_128_2 : (codeOf 128)[2]? = some (4, .istore 3, 3, 0, 0, 1, []) := by rw [kc128_eq]; rfl
theorem rw_128_3 : (codeOf 128)[3]? = some (5, .aload 0, 0, 0, 3, 1, []) := by rw [kc128_eq]; rfl
theorem rw_128_4 : (codeOf 128)[4]? = some (6, .iload 1, 1, 0, 0, 1, []) := by rw [kc128_eq]; rfl
theorem rw_128_5 : (codeOf 128)[5]? = some (7, .iconst 5, 2147483653, 0, 0, 1, []) := by rw [kc128_eq]; rfl
theorem rw_128_6 : (codeOf 128)[6]? = some (8, .invokevirtual 62, 130, 0, 0, 3, []) := by rw [kc128_eq]; rfl
theorem rw_128_7 : (codeOf 128)[7]? = some (11, .iload 2, 2, 0, 0, 1, []) := by rw [kc128_eq]; rfl
theorem rw_128_8 : (codeOf 128)[8]? = some (12, .imul, 0, 0, 0, 1, []) := by rw [kc128_eq]; rfl
theorem rw_128_9 : (codeOf 128)[9]? = some (13, .iload 2, 2, 0, 0, 1, []) := by rw [kc128_eq]; rfl
theorem rw_128_10 : (codeOf 128)[10]? = some (14, .aload 0, 0, 0, 3, 1, []) := by rw [kc128_eq]; rfl
theorem rw_128_11 : (codeOf 128)[11]? = some (15, .iload 1, 1, 0, 0, 1, []) := by rw [kc128_eq]; rfl
theorem rw_128_12 : (codeOf 128)[12]? = some (16, .iconst 3, 2147483651, 0, 0, 1, []) := by rw [kc128_eq]; rfl
theorem rw_128_13 : (codeOf 128)[13]? = some (17, .invokevirtual 62, 130, 0, 0, 3, []) := by rw [kc128_eq]; rfl
theorem rw_128_14 : (codeOf 128)[14]? = some (20, .iadd, 0, 0, 0, 1, []) := by rw [kc128_eq]; rfl
theorem rw_128_15 : (codeOf 128)[15]? = some (21, .idiv, 0, 0, 0, 1, []) := by rw [kc128_eq]; rfl
theorem rw_128_16 : (codeOf 128)[16]? = some (22, .istore 4, 4, 0, 0, 2, []) := by rw [kc128_eq]; rfl
theorem rw_128_17 : (codeOf 128)[17]? = some (24, .iconst 0, 2147483648, 0, 0, 1, []) := by rw [kc128_eq]; rfl
theorem rw_128_18 : (codeOf 128)[18]? = some (25, .istore 5, 5, 0, 0, 2, []) := by rw [kc128_eq]; rfl
theorem rw_128_19 : (codeOf 128)[19]? = some (27, .monitorexit, 1024, 0, 0, 0, []) := by rw [kc128_eq]; rfl
theorem rw_128_20 : (codeOf 128)[20]? = some (27, .iload 5, 5, 0, 0, 2, []) := by rw [kc128_eq]; rfl
theorem rw_128_21 : (codeOf 128)[21]? = some (29, .iconst 21, 2147483669, 0, 0, 2, []) := by rw [kc128_eq]; rfl
theorem rw_128_22 : (codeOf 128)[22]? = some (31, .if_icmp .ge 17, 48, 30, 0, 3, []) := by rw [kc128_eq]; rfl
theorem rw_128_23 : (codeOf 128)[23]? = some (34, .aload 0, 0, 0, 3, 1, []) := by rw [kc128_eq]; rfl
theorem rw_128_24 : (codeOf 128)[24]? = some (35, .iload 3, 3, 0, 0, 1, []) := by rw [kc128_eq]; rfl
theorem rw_128_25 : (codeOf 128)[25]? = some (36, .iload 5, 5, 0, 0, 2, []) := by rw [kc128_eq]; rfl
theorem rw_128_26 : (codeOf 128)[26]? = some (38, .iconst 0, 2147483648, 0, 0, 1, []) := by rw [kc128_eq]; rfl
theorem rw_128_27 : (codeOf 128)[27]? = some (39, .invokevirtual 66, 119, 0, 0, 3, []) := by rw [kc128_eq]; rfl
theorem rw_128_28 : (codeOf 128)[28]? = some (42, .iinc 5 1, 5, 1, 0, 3, []) := by rw [kc128_eq]; rfl
theorem rw_128_29 : (codeOf 128)[29]? = some (45, .goto (-18), 27, 19, 0, 3, []) := by rw [kc128_eq]; rfl
theorem rw_128_30 : (codeOf 128)[30]? = some (48, .aload 0, 0, 0, 3, 1, []) := by rw [kc128_eq]; rfl
theorem rw_128_31 : (codeOf 128)[31]? = some (49, .iload 3, 3, 0, 0, 1, []) := by rw [kc128_eq]; rfl
theorem rw_128_32 : (codeOf 128)[32]? = some (50, .iconst 0, 2147483648, 0, 0, 1, []) := by rw [kc128_eq]; rfl
theorem rw_128_33 : (codeOf 128)[33]? = some (51, .iconst 1, 2147483649, 0, 0, 1, []) := by rw [kc128_eq]; rfl
theorem rw_128_34 : (codeOf 128)[34]? = some (52, .invokevirtual 66, 119, 0, 0, 3, []) := by rw [kc128_eq]; rfl
theorem rw_128_35 : (codeOf 128)[35]? = some (55, .aload 0, 0, 0, 3, 1, []) := by rw [kc128_eq]; rfl
theorem rw_128_36 : (codeOf 128)[36]? = some (56, .iload 3, 3, 0, 0, 1, []) := by rw [kc128_eq]; rfl
theorem rw_128_37 : (codeOf 128)[37]? = some (57, .iconst 1, 2147483649, 0, 0, 1, []) := by rw [kc128_eq]; rfl
theorem rw_128_38 : (codeOf 128)[38]? = some (58, .aload 0, 0, 0, 3, 1, []) := by rw [kc128_eq]; rfl
theorem rw_128_39 : (codeOf 128)[39]? = some (59, .getfield 7, 9, 0, 3, 3, []) := by rw [kc128_eq]; rfl
theorem rw_128_40 : (codeOf 128)[40]? = some (62, .iconst 216, 2147483864, 0, 0, 3, []) := by rw [kc128_eq]; rfl
theorem rw_128_41 : (codeOf 128)[41]? = some (65, .iaload, 0, 0, 0, 1, []) := by rw [kc128_eq]; rfl
theorem rw_128_42 : (codeOf 128)[42]? = some (66, .invokevirtual 66, 119, 0, 0, 3, []) := by rw [kc128_eq]; rfl
theorem rw_128_43 : (codeOf 128)[43]? = some (69, .aload 0, 0, 0, 3, 1, []) := by rw [kc128_eq]; rfl
theorem rw_128_44 : (codeOf 128)[44]? = some (70, .getfield 7, 9, 0, 3, 3, []) := by rw [kc128_eq]; rfl
theorem rw_128_45 : (codeOf 128)[45]? = some (73, .iconst 216, 2147483864, 0, 0, 3, []) := by rw [kc128_eq]; rfl
theorem rw_128_46 : (codeOf 128)[46]? = some (76, .dup2, 0, 0, 0, 1, []) := by rw [kc128_eq]; rfl
theorem rw_128_47 : (codeOf 128)[47]? = some (77, .iaload, 0, 0, 0, 1, []) := by rw [kc128_eq]; rfl
theorem rw_128_48 : (codeOf 128)[48]? = some (78, .iconst 1, 2147483649, 0, 0, 1, []) := by rw [kc128_eq]; rfl
theorem rw_128_49 : (codeOf 128)[49]? = some (79, .iadd, 0, 0, 0, 1, []) := by rw [kc128_eq]; rfl
theorem rw_128_50 : (codeOf 128)[50]? = some (80, .iastore, 0, 0, 0, 1, []) := by rw [kc128_eq]; rfl
theorem rw_128_51 : (codeOf 128)[51]? = some (81, .aload 0, 0, 0, 3, 1, []) := by rw [kc128_eq]; rfl
theorem rw_128_52 : (codeOf 128)[52]? = some (82, .iload 3, 3, 0, 0, 1, []) := by rw [kc128_eq]; rfl
theorem rw_128_53 : (codeOf 128)[53]? = some (83, .iconst 2, 2147483650, 0, 0, 1, []) := by rw [kc128_eq]; rfl
theorem rw_128_54 : (codeOf 128)[54]? = some (84, .iload 1, 1, 0, 0, 1, []) := by rw [kc128_eq]; rfl
theorem rw_128_55 : (codeOf 128)[55]? = some (85, .invokevirtual 66, 119, 0, 0, 3, []) := by rw [kc128_eq]; rfl
theorem rw_128_56 : (codeOf 128)[56]? = some (88, .aload 0, 0, 0, 3, 1, []) := by rw [kc128_eq]; rfl
theorem rw_128_57 : (codeOf 128)[57]? = some (89, .iload 3, 3, 0, 0, 1, []) := by rw [kc128_eq]; rfl
theorem rw_128_58 : (codeOf 128)[58]? = some (90, .iconst 3, 2147483651, 0, 0, 1, []) := by rw [kc128_eq]; rfl
theorem rw_128_59 : (codeOf 128)[59]? = some (91, .iload 2, 2, 0, 0, 1, []) := by rw [kc128_eq]; rfl
theorem rw_128_60 : (codeOf 128)[60]? = some (92, .invokevirtual 66, 119, 0, 0, 3, []) := by rw [kc128_eq]; rfl
theorem rw_128_61 : (codeOf 128)[61]? = some (95, .aload 0, 0, 0, 3, 1, []) := by rw [kc128_eq]; rfl
theorem rw_128_62 : (codeOf 128)[62]? = some (96, .iload 3, 3, 0, 0, 1, []) := by rw [kc128_eq]; rfl
theorem rw_128_63 : (codeOf 128)[63]? = some (97, .iconst 5, 2147483653, 0, 0, 1, []) := by rw [kc128_eq]; rfl
theorem rw_128_64 : (codeOf 128)[64]? = some (98, .iload 4, 4, 0, 0, 2, []) := by rw [kc128_eq]; rfl
theorem rw_128_65 : (codeOf 128)[65]? = some (100, .invokevirtual 66, 119, 0, 0, 3, []) := by rw [kc128_eq]; rfl
theorem rw_128_66 : (codeOf 128)[66]? = some (103, .aload 0, 0, 0, 3, 1, []) := by rw [kc128_eq]; rfl
theorem rw_128_67 : (codeOf 128)[67]? = some (104, .iload 1, 1, 0, 0, 1, []) := by rw [kc128_eq]; rfl
theorem rw_128_68 : (codeOf 128)[68]? = some (105, .iconst 5, 2147483653, 0, 0, 1, []) := by rw [kc128_eq]; rfl
theorem rw_128_69 : (codeOf 128)[69]? = some (106, .aload 0, 0, 0, 3, 1, []) := by rw [kc128_eq]; rfl
theorem rw_128_70 : (codeOf 128)[70]? = some (107, .iload 1, 1, 0, 0, 1, []) := by rw [kc128_eq]; rfl
theorem rw_128_71 : (codeOf 128)[71]? = some (108, .iconst 5, 2147483653, 0, 0, 1, []) := by rw [kc128_eq]; rfl
theorem rw_128_72 : (codeOf 128)[72]? = some (109, .invokevirtual 62, 130, 0, 0, 3, []) := by rw [kc128_eq]; rfl
theorem rw_128_73 : (codeOf 128)[73]? = some (112, .iload 4, 4, 0, 0, 2, []) := by rw [kc128_eq]; rfl
theorem rw_128_74 : (codeOf 128)[74]? = some (114, .isub, 0, 0, 0, 1, []) := by rw [kc128_eq]; rfl
theorem rw_128_75 : (codeOf 128)[75]? = some (115, .invokevirtual 66, 119, 0, 0, 3, []) := by rw [kc128_eq]; rfl
theorem rw_128_76 : (codeOf 128)[76]? = some (118, .aload 0, 0, 0, 3, 1, []) := by rw [kc128_eq]; rfl
theorem rw_128_77 : (codeOf 128)[77]? = some (119, .iload 3, 3, 0, 0, 1, []) := by rw [kc128_eq]; rfl
theorem rw_128_78 : (codeOf 128)[78]? = some (120, .iconst 6, 2147483654, 0, 0, 2, []) := by rw [kc128_eq]; rfl
theorem rw_128_79 : (codeOf 128)[79]? = some (122, .aload 0, 0, 0, 3, 1, []) := by rw [kc128_eq]; rfl
theorem rw_128_80 : (codeOf 128)[80]? = some (123, .iload 1, 1, 0, 0, 1, []) := by rw [kc128_eq]; rfl
theorem rw_128_81 : (codeOf 128)[81]? = some (124, .iconst 6, 2147483654, 0, 0, 2, []) := by rw [kc128_eq]; rfl
theorem rw_128_82 : (codeOf 128)[82]? = some (126, .invokevirtual 62, 130, 0, 0, 3, []) := by rw [kc128_eq]; rfl
theorem rw_128_83 : (codeOf 128)[83]? = some (129, .invokevirtual 66, 119, 0, 0, 3, []) := by rw [kc128_eq]; rfl
theorem rw_128_84 : (codeOf 128)[84]? = some (132, .aload 0, 0, 0, 3, 1, []) := by rw [kc128_eq]; rfl
theorem rw_128_85 : (codeOf 128)[85]? = some (133, .iload 3, 3, 0, 0, 1, []) := by rw [kc128_eq]; rfl
theorem rw_128_86 : (codeOf 128)[86]? = some (134, .iconst 12, 2147483660, 0, 0, 2, []) := by rw [kc128_eq]; rfl
theorem rw_128_87 : (codeOf 128)[87]? = some (136, .aload 0, 0, 0, 3, 1, []) := by rw [kc128_eq]; rfl
theorem rw_128_88 : (codeOf 128)[88]? = some (137, .iload 1, 1, 0, 0, 1, []) := by rw [kc128_eq]; rfl
theorem rw_128_89 : (codeOf 128)[89]? = some (138, .iconst 12, 2147483660, 0, 0, 2, []) := by rw [kc128_eq]; rfl
theorem rw_128_90 : (codeOf 128)[90]? = some (140, .invokevirtual 62, 130, 0, 0, 3, []) := by rw [kc128_eq]; rfl
theorem rw_128_91 : (codeOf 128)[91]? = some (143, .invokevirtual 66, 119, 0, 0, 3, []) := by rw [kc128_eq]; rfl
theorem rw_128_92 : (codeOf 128)[92]? = some (146, .aload 0, 0, 0, 3, 1, []) := by rw [kc128_eq]; rfl
theorem rw_128_93 : (codeOf 128)[93]? = some (147, .iload 3, 3, 0, 0, 1, []) := by rw [kc128_eq]; rfl
theorem rw_128_94 : (codeOf 128)[94]? = some (148, .iconst 7, 2147483655, 0, 0, 2, []) := by rw [kc128_eq]; rfl
theorem rw_128_95 : (codeOf 128)[95]? = some (150, .aload 0, 0, 0, 3, 1, []) := by rw [kc128_eq]; rfl
theorem rw_128_96 : (codeOf 128)[96]? = some (151, .iload 1, 1, 0, 0, 1, []) := by rw [kc128_eq]; rfl
theorem rw_128_97 : (codeOf 128)[97]? = some (152, .iconst 7, 2147483655, 0, 0, 2, []) := by rw [kc128_eq]; rfl
theorem rw_128_98 : (codeOf 128)[98]? = some (154, .invokevirtual 62, 130, 0, 0, 3, []) := by rw [kc128_eq]; rfl
theorem rw_128_99 : (codeOf 128)[99]? = some (157, .invokevirtual 66, 119, 0, 0, 3, []) := by rw [kc128_eq]; rfl
theorem rw_128_100 : (codeOf 128)[100]? = some (160, .aload 0, 0, 0, 3, 1, []) := by rw [kc128_eq]; rfl
theorem rw_128_101 : (codeOf 128)[101]? = some (161, .iload 3, 3, 0, 0, 1, []) := by rw [kc128_eq]; rfl
theorem rw_128_102 : (codeOf 128)[102]? = some (162, .iconst 8, 2147483656, 0, 0, 2, []) := by rw [kc128_eq]; rfl
theorem rw_128_103 : (codeOf 128)[103]? = some (164, .aload 0, 0, 0, 3, 1, []) := by rw [kc128_eq]; rfl
theorem rw_128_104 : (codeOf 128)[104]? = some (165, .iload 1, 1, 0, 0, 1, []) := by rw [kc128_eq]; rfl
theorem rw_128_105 : (codeOf 128)[105]? = some (166, .iconst 8, 2147483656, 0, 0, 2, []) := by rw [kc128_eq]; rfl
theorem rw_128_106 : (codeOf 128)[106]? = some (168, .invokevirtual 62, 130, 0, 0, 3, []) := by rw [kc128_eq]; rfl
theorem rw_128_107 : (codeOf 128)[107]? = some (171, .invokevirtual 66, 119, 0, 0, 3, []) := by rw [kc128_eq]; rfl
theorem rw_128_108 : (codeOf 128)[108]? = some (174, .aload 0, 0, 0, 3, 1, []) := by rw [kc128_eq]; rfl
theorem rw_128_109 : (codeOf 128)[109]? = some (175, .iload 3, 3, 0, 0, 1, []) := by rw [kc128_eq]; rfl
theorem rw_128_110 : (codeOf 128)[110]? = some (176, .iconst 9, 2147483657, 0, 0, 2, []) := by rw [kc128_eq]; rfl
theorem rw_128_111 : (codeOf 128)[111]? = some (178, .iconst 2, 2147483650, 0, 0, 1, []) := by rw [kc128_eq]; rfl
theorem rw_128_112 : (codeOf 128)[112]? = some (179, .aload 0, 0, 0, 3, 1, []) := by rw [kc128_eq]; rfl
theorem rw_128_113 : (codeOf 128)[113]? = some (180, .iload 1, 1, 0, 0, 1, []) := by rw [kc128_eq]; rfl
theorem rw_128_114 : (codeOf 128)[114]? = some (181, .iconst 9, 2147483657, 0, 0, 2, []) := by rw [kc128_eq]; rfl
theorem rw_128_115 : (codeOf 128)[115]? = some (183, .invokevirtual 62, 130, 0, 0, 3, []) := by rw [kc128_eq]; rfl
theorem rw_128_116 : (codeOf 128)[116]? = some (186, .imul, 0, 0, 0, 1, []) := by rw [kc128_eq]; rfl
theorem rw_128_117 : (codeOf 128)[117]? = some (187, .invokevirtual 66, 119, 0, 0, 3, []) := by rw [kc128_eq]; rfl
theorem rw_128_118 : (codeOf 128)[118]? = some (190, .iload 3, 3, 0, 0, 1, []) := by rw [kc128_eq]; rfl
theorem rw_128_119 : (codeOf 128)[119]? = some (191, .ireturn, 1, 0, 0, 1, []) := by rw [kc128_eq]; rfl
theorem kc136_eq : codeOf 136 = kc136 := rfl
theorem hk_136 : 136 < 186 := by decide
theorem rw_136_0 : (codeOf 136)[0]? = some (0, .aload 0, 0, 0, 3, 1, []) := by rw [kc136_eq]; rfl
theorem rw_136_1 : (codeOf 136)[1]? = some (1, .iload 2, 2, 0, 0, 1, []) := by rw [kc136_eq]; rfl
theorem rw_136_2 : (codeOf 136)[2]? = some (2, .iconst 5, 2147483653, 0, 0, 1, []) := by rw [kc136_eq]; rfl
theorem rw_136_3 : (codeOf 136)[3]? = some (3, .iconst 1024, 2147484672, 0, 0, 3, []) := by rw [kc136_eq]; rfl
theorem rw_136_4 : (codeOf 136)[4]? = some (6, .aload 0, 0, 0, 3, 1, []) := by rw [kc136_eq]; rfl
theorem rw_136_5 : (codeOf 136)[5]? = some (7, .iload 2, 2, 0, 0, 1, []) := by rw [kc136_eq]; rfl
theorem rw_136_6 : (codeOf 136)[6]? = some (8, .iconst 5, 2147483653, 0, 0, 1, []) := by rw [kc136_eq]; rfl
theorem rw_136_7 : (codeOf 136)[7]? = some (9, .invokevirtual 62, 130, 0, 0, 3, []) := by rw [kc136_eq]; rfl
theorem rw_136_8 : (codeOf 136)[8]? = some (12, .aload 0, 0, 0, 3, 1, []) := by rw [kc136_eq]; rfl
theorem rw_136_9 : (codeOf 136)[9]? = some (13, .iload 1, 1, 0, 0, 1, []) := by rw [kc136_eq]; rfl
theorem rw_136_10 : (codeOf 136)[10]? = some (14, .iconst 5, 2147483653, 0, 0, 1, []) := by rw [kc136_eq]; rfl
theorem rw_136_11 : (codeOf 136)[11]? = some (15, .invokevirtual 62, 130, 0, 0, 3, []) := by rw [kc136_eq]; rfl
theorem rw_136_12 : (codeOf 136)[12]? = some (18, .iadd, 0, 0, 0, 1, []) := by rw [kc136_eq]; rfl
theorem rw_136_13 : (codeOf 136)[13]? = some (19, .invokestatic 96, 137, 0, 0, 3, []) := by rw [kc136_eq]; rfl
theorem rw_136_14 : (codeOf 136)[14]? = some (22, .invokevirtual 66, 119, 0, 0, 3, []) := by rw [kc136_eq]; rfl
theorem rw_136_15 : (codeOf 136)[15]? = some (25, .aload 0, 0, 0, 3, 1, []) := by rw [kc136_eq]; rfl
theorem rw_136_16 : (codeOf 136)[16]? = some (26, .iload 2, 2, 0, 0, 1, []) := by rw [kc136_eq]; rfl
theorem rw_136_17 : (codeOf 136)[17]? = some (27, .iconst 4, 2147483652, 0, 0, 1, []) := by rw [kc136_eq]; rfl
theorem rw_136_18 : (codeOf 136)[18]? = some (28, .iconst 9999, 2147493647, 0, 0, 3, []) := by rw [kc136_eq]; rfl
theorem rw_136_19 : (codeOf 136)[19]? = some (31, .aload 0, 0, 0, 3, 1, []) := by rw [kc136_eq]; rfl
theorem rw_136_20 : (codeOf 136)[20]? = some (32, .iload 2, 2, 0, 0, 1, []) := by rw [kc136_eq]; rfl
theorem rw_136_21 : (codeOf 136)[21]? = some (33, .iconst 4, 2147483652, 0, 0, 1, []) := by rw [kc136_eq]; rfl
theorem rw_136_22 : (codeOf 136)[22]? = some (34, .invokevirtual 62, 130, 0, 0, 3, []) := by rw [kc136_eq]; rfl
theorem rw_136_23 : (codeOf 136)[23]? = some (37, .aload 0, 0, 0, 3, 1, []) := by rw [kc136_eq]; rfl
theorem rw_136_24 : (codeOf 136)[24]? = some (38, .iload 1, 1, 0, 0, 1, []) := by rw [kc136_eq]; rfl
theorem rw_136_25 : (codeOf 136)[25]? = some (39, .iconst 4, 2147483652, 0, 0, 1, []) := by rw [kc136_eq]; rfl
theorem rw_136_26 : (codeOf 136)[26]? = some (40, .invokevirtual 62, 130, 0, 0, 3, []) := by rw [kc136_eq]; rfl
theorem rw_136_27 : (codeOf 136)[27]? = some (43, .iadd, 0, 0, 0, 1, []) := by rw [kc136_eq]; rfl
theorem rw_136_28 : (codeOf 136)[28]? = some (44, .invokestatic 96, 137, 0, 0, 3, []) := by rw [kc136_eq]; rfl
theorem rw_136_29 : (codeOf 136)[29]? = some (47, .invokevirtual 66, 119, 0, 0, 3, []) := by rw [kc136_eq]; rfl
theorem rw_136_30 : (codeOf 136)[30]? = some (50, .aload 0, 0, 0, 3, 1, []) := by rw [kc136_eq]; rfl
theorem rw_136_31 : (codeOf 136)[31]? = some (51, .iload 2, 2, 0, 0, 1, []) := by rw [kc136_eq]; rfl
theorem rw_136_32 : (codeOf 136)[32]? = some (52, .iconst 12, 2147483660, 0, 0, 2, []) := by rw [kc136_eq]; rfl
theorem rw_136_33 : (codeOf 136)[33]? = some (54, .aload 0, 0, 0, 3, 1, []) := by rw [kc136_eq]; rfl
theorem rw_136_34 : (codeOf 136)[34]? = some (55, .iload 2, 2, 0, 0, 1, []) := by rw [kc136_eq]; rfl
theorem rw_136_35 : (codeOf 136)[35]? = some (56, .iconst 12, 2147483660, 0, 0, 2, []) := by rw [kc136_eq]; rfl
theorem rw_136_36 : (codeOf 136)[36]? = some (58, .invokevirtual 62, 130, 0, 0, 3, []) := by rw [kc136_eq]; rfl
theorem rw_136_37 : (codeOf 136)[37]? = some (61, .aload 0, 0, 0, 3, 1, []) := by rw [kc136_eq]; rfl
theorem rw_136_38 : (codeOf 136)[38]? = some (62, .iload 1, 1, 0, 0, 1, []) := by rw [kc136_eq]; rfl
theorem rw_136_39 : (codeOf 136)[39]? = some (63, .iconst 12, 2147483660, 0, 0, 2, []) := by rw [kc136_eq]; rfl
theorem rw_136_40 : (codeOf 136)[40]? = some (65, .invokevirtual 62, 130, 0, 0, 3, []) := by rw [kc136_eq]; rfl
theorem rw_136_41 : (codeOf 136)[41]? = some (68, .invokestatic 99, 138, 0, 0, 3, []) := by rw [kc136_eq]; rfl
theorem rw_136_42 : (codeOf 136)[42]? = some (71, .invokevirtual 66, 119, 0, 0, 3, []) := by rw [kc136_eq]; rfl
theorem rw_136_43 : (codeOf 136)[43]? = some (74, .aload 0, 0, 0, 3, 1, []) := by rw [kc136_eq]; rfl
theorem rw_136_44 : (codeOf 136)[44]? = some (75, .iload 2, 2, 0, 0, 1, []) := by rw [kc136_eq]; rfl
theorem rw_136_45 : (codeOf 136)[45]? = some (76, .iconst 10, 2147483658, 0, 0, 2, []) := by rw [kc136_eq]; rfl
theorem rw_136_46 : (codeOf 136)[46]? = some (78, .invokevirtual 62, 130, 0, 0, 3, []) := by rw [kc136_eq]; rfl
theorem rw_136_47 : (codeOf 136)[47]? = some (81, .istore 3, 3, 0, 0, 1, []) := by rw [kc136_eq]; rfl
theorem rw_136_48 : (codeOf 136)[48]? = some (82, .aload 0, 0, 0, 3, 1, []) := by rw [kc136_eq]; rfl
theorem rw_136_49 : (codeOf 136)[49]? = some (83, .iload 1, 1, 0, 0, 1, []) := by rw [kc136_eq]; rfl
theorem rw_136_50 : (codeOf 136)[50]? = some (84, .iconst 10, 2147483658, 0, 0, 2, []) := by rw [kc136_eq]; rfl
theorem rw_136_51 : (codeOf 136)[51]? = some (86, .invokevirtual 62, 130, 0, 0, 3, []) := by rw [kc136_eq]; rfl
theorem rw_136_52 : (codeOf 136)[52]? = some (89, .istore 4, 4, 0, 0, 2, []) := by rw [kc136_eq]; rfl
theorem rw_136_53 : (codeOf 136)[53]? = some (91, .iload 4, 4, 0, 0, 2, []) := by rw [kc136_eq]; rfl
theorem rw_136_54 : (codeOf 136)[54]? = some (93, .ifCond .le 119, 212, 125, 0, 3, []) := by rw [kc136_eq]; rfl
theorem rw_136_55 : (codeOf 136)[55]? = some (96, .aload 0, 0, 0, 3, 1, []) := by rw [kc136_eq]; rfl
theorem rw_136_56 : (codeOf 136)[56]? = some (97, .iload 2, 2, 0, 0, 1, []) := by rw [kc136_eq]; rfl
theorem rw_136_57 : (codeOf 136)[57]? = some (98, .iconst 8, 2147483656, 0, 0, 2, []) := by rw [kc136_eq]; rfl
theorem rw_136_58 : (codeOf 136)[58]? = some (100, .iload 3, 3, 0, 0, 1, []) := by rw [kc136_eq]; rfl
theorem rw_136_59 : (codeOf 136)[59]? = some (101, .ifCond .ne 13, 114, 65, 0, 3, []) := by rw [kc136_eq]; rfl
theorem rw_136_60 : (codeOf 136)[60]? = some (104, .aload 0, 0, 0, 3, 1, []) := by rw [kc136_eq]; rfl
theorem rw_136_61 : (codeOf 136)[61]? = some (105, .iload 1, 1, 0, 0, 1, []) := by rw [kc136_eq]; rfl
theorem rw_136_62 : (codeOf 136)[62]? = some (106, .iconst 8, 2147483656, 0, 0, 2, []) := by rw [kc136_eq]; rfl
theorem rw_136_63 : (codeOf 136)[63]? = some (108, .invokevirtual 62, 130, 0, 0, 3, []) := by rw [kc136_eq]; rfl
theorem rw_136_64 : (codeOf 136)[64]? = some (111, .goto 28, 139, 82, 0, 3, []) := by rw [kc136_eq]; rfl
theorem rw_136_65 : (codeOf 136)[65]? = some (114, .iload 3, 3, 0, 0, 1, []) := by rw [kc136_eq]; rfl
theorem rw_136_66 : (codeOf 136)[66]? = some (115, .aload 0, 0, 0, 3, 1, []) := by rw [kc136_eq]; rfl
theorem rw_136_67 : (codeOf 136)[67]? = some (116, .iload 2, 2, 0, 0, 1, []) := by rw [kc136_eq]; rfl
theorem rw_136_68 : (codeOf 136)[68]? = some (117, .iconst 8, 2147483656, 0, 0, 2, []) := by rw [kc136_eq]; rfl
theorem rw_136_69 : (codeOf 136)[69]? = some (119, .invokevirtual 62, 130, 0, 0, 3, []) := by rw [kc136_eq]; rfl
theorem rw_136_70 : (codeOf 136)[70]? = some (122, .imul, 0, 0, 0, 1, []) := by rw [kc136_eq]; rfl
theorem rw_136_71 : (codeOf 136)[71]? = some (123, .iload 4, 4, 0, 0, 2, []) := by rw [kc136_eq]; rfl
theorem rw_136_72 : (codeOf 136)[72]? = some (125, .aload 0, 0, 0, 3, 1, []) := by rw [kc136_eq]; rfl
theorem rw_136_73 : (codeOf 136)[73]? = some (126, .iload 1, 1, 0, 0, 1, []) := by rw [kc136_eq]; rfl
theorem rw_136_74 : (codeOf 136)[74]? = some (127, .iconst 8, 2147483656, 0, 0, 2, []) := by rw [kc136_eq]; rfl
theorem rw_136_75 : (codeOf 136)[75]? = some (129, .invokevirtual 62, 130, 0, 0, 3, []) := by rw [kc136_eq]; rfl
theorem rw_136_76 : (codeOf 136)[76]? = some (132, .imul, 0, 0, 0, 1, []) := by rw [kc136_eq]; rfl
theorem rw_136_77 : (codeOf 136)[77]? = some (133, .iadd, 0, 0, 0, 1, []) := by rw [kc136_eq]; rfl
theorem rw_136_78 : (codeOf 136)[78]? = some (134, .iload 3, 3, 0, 0, 1, []) := by rw [kc136_eq]; rfl
theorem rw_136_79 : (codeOf 136)[79]? = some (135, .iload 4, 4, 0, 0, 2, []) := by rw [kc136_eq]; rfl
theorem rw_136_80 : (codeOf 136)[80]? = some (137, .iadd, 0, 0, 0, 1, []) := by rw [kc136_eq]; rfl
theorem rw_136_81 : (codeOf 136)[81]? = some (138, .idiv, 0, 0, 0, 1, []) := by rw [kc136_eq]; rfl
theorem rw_136_82 : (codeOf 136)[82]? = some (139, .invokevirtual 66, 119, 0, 0, 3, []) := by rw [kc136_eq]; rfl
theorem rw_136_83 : (codeOf 136)[83]? = some (142, .aload 0, 0, 0, 3, 1, []) := by rw [kc136_eq]; rfl
theorem rw_136_84 : (codeOf 136)[84]? = some (143, .iload 2, 2, 0, 0, 1, []) := by rw [kc136_eq]; rfl
theorem rw_136_85 : (codeOf 136)[85]? = some (144, .iconst 9, 2147483657, 0, 0, 2, []) := by rw [kc136_eq]; rfl
theorem rw_136_86 : (codeOf 136)[86]? = some (146, .iload 3, 3, 0, 0, 1, []) := by rw [kc136_eq]; rfl
theorem rw_136_87 : (codeOf 136)[87]? = some (147, .ifCond .ne 13, 160, 93, 0, 3, []) := by rw [kc136_eq]; rfl
theorem rw_136_88 : (codeOf 136)[88]? = some (150, .aload 0, 0, 0, 3, 1, []) := by rw [kc136_eq]; rfl
theorem rw_136_89 : (codeOf 136)[89]? = some (151, .iload 1, 1, 0, 0, 1, []) := by rw [kc136_eq]; rfl
theorem rw_136_90 : (codeOf 136)[90]? = some (152, .iconst 9, 2147483657, 0, 0, 2, []) := by rw [kc136_eq]; rfl
theorem rw_136_91 : (codeOf 136)[91]? = some (154, .invokevirtual 62, 130, 0, 0, 3, []) := by rw [kc136_eq]; rfl
theorem rw_136_92 : (codeOf 136)[92]? = some (157, .goto 28, 185, 110, 0, 3, []) := by rw [kc136_eq]; rfl
theorem rw_136_93 : (codeOf 136)[93]? = some (160, .iload 3, 3, 0, 0, 1, []) := by rw [kc136_eq]; rfl
theorem rw_136_94 : (codeOf 136)[94]? = some (161, .aload 0, 0, 0, 3, 1, []) := by rw [kc136_eq]; rfl
theorem rw_136_95 : (codeOf 136)[95]? = some (162, .iload 2, 2, 0, 0, 1, []) := by rw [kc136_eq]; rfl
theorem rw_136_96 : (codeOf 136)[96]? = some (163, .iconst 9, 2147483657, 0, 0, 2, []) := by rw [kc136_eq]; rfl
theorem rw_136_97 : (codeOf 136)[97]? = some (165, .invokevirtual 62, 130, 0, 0, 3, []) := by rw [kc136_eq]; rfl
theorem rw_136_98 : (codeOf 136)[98]? = some (168, .imul, 0, 0, 0, 1, []) := by rw [kc136_eq]; rfl
theorem rw_136_99 : (codeOf 136)[99]? = some (169, .iload 4, 4, 0, 0, 2, []) := by rw [kc136_eq]; rfl
theorem rw_136_100 : (codeOf 136)[100]? = some (171, .aload 0, 0, 0, 3, 1, []) := by rw [kc136_eq]; rfl
theorem rw_136_101 : (codeOf 136)[101]? = some (172, .iload 1, 1, 0, 0, 1, []) := by rw [kc136_eq]; rfl
theorem rw_136_102 : (codeOf 136)[102]? = some (173, .iconst 9, 2147483657, 0, 0, 2, []) := by rw [kc136_eq]; rfl
theorem rw_136_103 : (codeOf 136)[103]? = some (175, .invokevirtual 62, 130, 0, 0, 3, []) := by rw [kc136_eq]; rfl
theorem rw_136_104 : (codeOf 136)[104]? = some (178, .imul, 0, 0, 0, 1, []) := by rw [kc136_eq]; rfl
theorem rw_136_105 : (codeOf 136)[105]? = some (179, .iadd, 0, 0, 0, 1, []) := by rw [kc136_eq]; rfl
theorem rw_136_106 : (codeOf 136)[106]? = some (180, .iload 3, 3, 0, 0, 1, []) := by rw [kc136_eq]; rfl
theorem rw_136_107 : (codeOf 136)[107]? = some (181, .iload 4, 4, 0, 0, 2, []) := by rw [kc136_eq]; rfl
theorem rw_136_108 : (codeOf 136)[108]? = some (183, .iadd, 0, 0, 0, 1, []) := by rw [kc136_eq]; rfl
theorem rw_136_109 : (codeOf 136)[109]? = some (184, .idiv, 0, 0, 0, 1, []) := by rw [kc136_eq]; rfl
theorem rw_136_110 : (codeOf 136)[110]? = some (185, .invokevirtual 66, 119, 0, 0, 3, []) := by rw [kc136_eq]; rfl
theorem rw_136_111 : (codeOf 136)[111]? = some (188, .aload 0, 0, 0, 3, 1, []) := by rw [kc136_eq]; rfl
theorem rw_136_112 : (codeOf 136)[112]? = some (189, .iload 2, 2, 0, 0, 1, []) := by rw [kc136_eq]; rfl
theorem rw_136_113 : (codeOf 136)[113]? = some (190, .iconst 10, 2147483658, 0, 0, 2, []) := by rw [kc136_eq]; rfl
theorem rw_136_114 : (codeOf 136)[114]? = some (192, .iconst 16, 2147483664, 0, 0, 2, []) := by rw [kc136_eq]; rfl
theorem rw_136_115 : (codeOf 136)[115]? = some (194, .iload 3, 3, 0, 0, 1, []) := by rw [kc136_eq]; rfl
theorem rw_136_116 : (codeOf 136)[116]? = some (195, .iload 4, 4, 0, 0, 2, []) := by rw [kc136_eq]; rfl
theorem rw_136_117 : (codeOf 136)[117]? = some (197, .iadd, 0, 0, 0, 1, []) := by rw [kc136_eq]; rfl
theorem rw_136_118 : (codeOf 136)[118]? = some (198, .invokestatic 96, 137, 0, 0, 3, []) := by rw [kc136_eq]; rfl
theorem rw_136_119 : (codeOf 136)[119]? = some (201, .invokevirtual 66, 119, 0, 0, 3, []) := by rw [kc136_eq]; rfl
theorem rw_136_120 : (codeOf 136)[120]? = some (204, .aload 0, 0, 0, 3, 1, []) := by rw [kc136_eq]; rfl
theorem rw_136_121 : (codeOf 136)[121]? = some (205, .iload 2, 2, 0, 0, 1, []) := by rw [kc136_eq]; rfl
theorem rw_136_122 : (codeOf 136)[122]? = some (206, .iconst 7, 2147483655, 0, 0, 2, []) := by rw [kc136_eq]; rfl
theorem rw_136_123 : (codeOf 136)[123]? = some (208, .iconst 1, 2147483649, 0, 0, 1, []) := by rw [kc136_eq]; rfl
theorem rw_136_124 : (codeOf 136)[124]? = some (209, .invokevirtual 66, 119, 0, 0, 3, []) := by rw [kc136_eq]; rfl
theorem rw_136_125 : (codeOf 136)[125]? = some (212, .iconst 0, 2147483648, 0, 0, 1, []) := by rw [kc136_eq]; rfl
theorem rw_136_126 : (codeOf 136)[126]? = some (213, .istore 5, 5, 0, 0, 2, []) := by rw [kc136_eq]; rfl
theorem rw_136_127 : (codeOf 136)[127]? = some (215, .monitorexit, 1088, 0, 0, 0, []) := by rw [kc136_eq]; rfl
theorem rw_136_128 : (codeOf 136)[128]? = some (215, .iload 5, 5, 0, 0, 2, []) := by rw [kc136_eq]; rfl
theorem rw_136_129 : (codeOf 136)[129]? = some (217, .iconst 10, 2147483658, 0, 0, 2, []) := by rw [kc136_eq]; rfl
theorem rw_136_130 : (codeOf 136)[130]? = some (219, .if_icmp .ge 37, 256, 148, 0, 3, []) := by rw [kc136_eq]; rfl
theorem rw_136_131 : (codeOf 136)[131]? = some (222, .aload 0, 0, 0, 3, 1, []) := by rw [kc136_eq]; rfl
theorem rw_136_132 : (codeOf 136)[132]? = some (223, .iload 5, 5, 0, 0, 2, []) := by rw [kc136_eq]; rfl
theorem rw_136_133 : (codeOf 136)[133]? = some (225, .invokevirtual 92, 133, 0, 0, 3, []) := by rw [kc136_eq]; rfl
theorem rw_136_134 : (codeOf 136)[134]? = some (228, .ifCond .eq 22, 250, 146, 0, 3, []) := by rw [kc136_eq]; rfl
theorem rw_136_135 : (codeOf 136)[135]? = some (231, .aload 0, 0, 0, 3, 1, []) := by rw [kc136_eq]; rfl
theorem rw_136_136 : (codeOf 136)[136]? = some (232, .iload 5, 5, 0, 0, 2, []) := by rw [kc136_eq]; rfl
theorem rw_136_137 : (codeOf 136)[137]? = some (234, .iconst 2, 2147483650, 0, 0, 1, []) := by rw [kc136_eq]; rfl
theorem rw_136_138 : (codeOf 136)[138]? = some (235, .invokevirtual 62, 130, 0, 0, 3, []) := by rw [kc136_eq]; rfl
theorem rw_136_139 : (codeOf 136)[139]? = some (238, .iload 1, 1, 0, 0, 1, []) := by rw [kc136_eq]; rfl
theorem rw_136_140 : (codeOf 136)[140]? = some (239, .if_icmp .ne 11, 250, 146, 0, 3, []) := by rw [kc136_eq]; rfl
theorem rw_136_141 : (codeOf 136)[141]? = some (242, .aload 0, 0, 0, 3, 1, []) := by rw [kc136_eq]; rfl
theorem rw_136_142 : (codeOf 136)[142]? = some (243, .iload 5, 5, 0, 0, 2, []) := by rw [kc136_eq]; rfl
theorem rw_136_143 : (codeOf 136)[143]? = some (245, .iconst 2, 2147483650, 0, 0, 1, []) := by rw [kc136_eq]; rfl
theorem rw_136_144 : (codeOf 136)[144]? = some (246, .iload 2, 2, 0, 0, 1, []) := by rw [kc136_eq]; rfl
theorem rw_136_145 : (codeOf 136)[145]? = some (247, .invokevirtual 66, 119, 0, 0, 3, []) := by rw [kc136_eq]; rfl
theorem rw_136_146 : (codeOf 136)[146]? = some (250, .iinc 5 1, 5, 1, 0, 3, []) := by rw [kc136_eq]; rfl
theorem rw_136_147 : (codeOf 136)[147]? = some (253, .goto (-38), 215, 127, 0, 3, []) := by rw [kc136_eq]; rfl
theorem rw_136_148 : (codeOf 136)[148]? = some (256, .aload 0, 0, 0, 3, 1, []) := by rw [kc136_eq]; rfl
theorem rw_136_149 : (codeOf 136)[149]? = some (257, .iload 1, 1, 0, 0, 1, []) := by rw [kc136_eq]; rfl
theorem rw_136_150 : (codeOf 136)[150]? = some (258, .iconst 0, 2147483648, 0, 0, 1, []) := by rw [kc136_eq]; rfl
theorem rw_136_151 : (codeOf 136)[151]? = some (259, .iconst 0, 2147483648, 0, 0, 1, []) := by rw [kc136_eq]; rfl
theorem rw_136_152 : (codeOf 136)[152]? = some (260, .invokevirtual 66, 119, 0, 0, 3, []) := by rw [kc136_eq]; rfl
theorem rw_136_153 : (codeOf 136)[153]? = some (263, .return_, 0, 0, 0, 1, []) := by rw [kc136_eq]; rfl
section MO
variable {d k j : Nat} {lv : List (Option Value)} {st : List Value} {ph : PH} {Q : Option Value → PH → Prop} {B : PH} {p : Nat → Int32} {a : Nat → Nat → Int32} {z : Nat → Int32}
/-- a page as it begins -/
def Beg (p q : Nat → Int32) (w : Int) : Prop := q 0 = iv 1 ∧ q 2 = iv (-9) ∧ q 3 = iv w ∧ q 6 = iv 32 ∧ (∀ c, 1 ≤ c → c < 10 → q (21 * c) = iv 0 ∧ q (21 * c + 3) = iv 0) ∧ (∀ c, c < 10 → q (21 * c + 10) = iv 0 ∧ q (21 * c + 16) = iv 0) ∧ (∀ i, 210 ≤ i → i ≤ 213 → q i = p i) ∧ q 214 = iv 0 ∧ q 217 = iv 0 ∧ q 218 = iv 0 ∧ q 219 = iv 0 ∧ ∀ i, 2000 ≤ i → q i = p i
theorem iv01 : ¬ iv 0 = iv 1 := by decide
theorem Beg.ok {T : Nat} {p q : Nat → Int32} {w : Int} (h : Beg p q w) (hl : LiOK p) (h1 : 1 ≤ w) (h9 : w ≤ 9) : PageOK T q := by
  obtain ⟨b0, b2, b3, b6, bc, bd, bl, b14, b17, b18, b19, -⟩ := h
  obtain ⟨l1, l2, l3, l4, -, -⟩ := hl
  refine ⟨⟨fun c hc => ?_, ⟨l1.of_eq (bl _ (by omega) (by omega)), l2.of_eq (bl _ (by omega) (by omega)), l3.of_eq (bl _ (by omega) (by omega)), l4.of_eq (bl _ (by omega) (by omega)), ⟨0, b17, by omega, by omega⟩, ⟨0, b18, by omega, by omega⟩⟩, b0, b2, fun _ => 0, fun c c1 c2 hc => ?_⟩, 0, 0, by omega, b14, b19, fun c hc => ⟨0, (bd c hc).2, by omega⟩, fun _ => 0, fun k hk => by omega, fun k hk => by omega, fun k hk => by omega⟩
  · by_cases e : c = 0
    · subst e
      exact ⟨⟨1, b0, by omega, by omega⟩, ⟨w, b3, by omega, by omega⟩, ⟨0, (bd 0 hc).1, by omega, by omega⟩, fun _ => ⟨⟨w, b3, by omega, by omega⟩, ⟨32, b6, by omega, by omega⟩⟩⟩
    · obtain ⟨e1, e2⟩ := bc c (by omega) hc
      exact ⟨⟨0, e1, by omega, by omega⟩, ⟨0, e2, by omega, by omega⟩, ⟨0, (bd c hc).1, by omega, by omega⟩, fun ho => absurd (e1.symm.trans ho) iv01⟩
  · exact absurd ((bc c c1 c2).1.symm.trans hc) iv01
def BL (p r : Nat → Int32) (k : Nat) : Prop := (∀ i, i < k → r i = iv 0) ∧ ∀ i, 210 ≤ i → r i = p i
theorem BL.step {p r : Nat → Int32} {k : Nat} (h : BL p r k) (hk : k < 210) : BL p (upd r k (iv 0)) (k + 1) := by
  refine ⟨fun i hi => ?_, fun i hi => (uq_ne (by omega)).trans (h.2 i hi)⟩
  by_cases e : i = k
  · rw [e]
    exact uq_eq
  · exact (uq_ne e).trans (h.1 i (by omega))
theorem bg_loop (hB : 87 ≤ B.length) {w : Int} : ∀ (m k : Nat) (r : Nat → Int32), k + m = 210 → BL p r k → ZR (d + 1) 118 2 [some (.ref 75), some (.int (iv (w))), some (.int (iv ((k : Int))))] [] (mh B r a z) (fun v ph' => ∃ q, ph' = mh B q a z ∧ v = none ∧ Beg p q w) := by
  intro m
  induction m with
  | zero =>
    intro k r hkm hL
    refine zr_cut hk_118 rw_118_2 ?_
    refine zr_iload hk_118 rw_118_3 rfl ?_
    refine zi_const hk_118 rw_118_4 (c := 210) rfl ?_
    refine zi_icmp_ge hk_118 rw_118_5 (by unfold inR; omega) (by unfold inR; omega) (fun h5 => ?_) (fun h5 => by omega)
    refine zr_aload hk_118 rw_118_13 rfl ?_
    refine mz_getf hk_118 hB rw_118_14 rfl ?_
    refine zi_const hk_118 rw_118_15 (c := 214) rfl ?_
    refine zi_const hk_118 rw_118_16 (c := 0) rfl ?_
    refine mz_pst hk_118 hB rw_118_17 (214) (by omega) (by omega) ?_
    refine zr_aload hk_118 rw_118_18 rfl ?_
    refine mz_getf hk_118 hB rw_118_19 rfl ?_
    refine zi_const hk_118 rw_118_20 (c := 215) rfl ?_
    refine zi_const hk_118 rw_118_21 (c := 0) rfl ?_
    refine mz_pst hk_118 hB rw_118_22 (215) (by omega) (by omega) ?_
    refine zr_aload hk_118 rw_118_23 rfl ?_
    refine mz_getf hk_118 hB rw_118_24 rfl ?_
    refine zi_const hk_118 rw_118_25 (c := 217) rfl ?_
    refine zi_const hk_118 rw_118_26 (c := 0) rfl ?_
    refine mz_pst hk_118 hB rw_118_27 (217) (by omega) (by omega) ?_
    refine zr_aload hk_118 rw_118_28 rfl ?_
    refine mz_getf hk_118 hB rw_118_29 rfl ?_
    refine zi_const hk_118 rw_118_30 (c := 218) rfl ?_
    refine zi_const hk_118 rw_118_31 (c := 0) rfl ?_
    refine mz_pst hk_118 hB rw_118_32 (218) (by omega) (by omega) ?_
    refine zr_aload hk_118 rw_118_33 rfl ?_
    refine mz_getf hk_118 hB rw_118_34 rfl ?_
    refine zi_const hk_118 rw_118_35 (c := 219) rfl ?_
    refine zi_const hk_118 rw_118_36 (c := 0) rfl ?_
    refine mz_pst hk_118 hB rw_118_37 (219) (by omega) (by omega) ?_
    refine zr_aload hk_118 rw_118_38 rfl ?_
    refine zi_const hk_118 rw_118_39 (c := 0) rfl ?_
    refine zi_const hk_118 rw_118_40 (c := 0) rfl ?_
    refine zi_const hk_118 rw_118_41 (c := 1) rfl ?_
    refine c_put hk_118 hB rw_118_42 (0) (by omega) (by omega) (Nat.le_of_ble_eq_true rfl) ?_
    refine zr_aload hk_118 rw_118_43 rfl ?_
    refine zi_const hk_118 rw_118_44 (c := 0) rfl ?_
    refine zi_const hk_118 rw_118_45 (c := 1) rfl ?_
    refine zr_aload hk_118 rw_118_46 rfl ?_
    refine mz_getf hk_118 hB rw_118_47 rfl ?_
    refine zi_const hk_118 rw_118_48 (c := 216) rfl ?_
    refine mz_pld hk_118 hB rw_118_49 (216) (by omega) (by omega) ?_
    refine c_put hk_118 hB rw_118_50 (1) (by omega) (by omega) (Nat.le_of_ble_eq_true rfl) ?_
    refine zr_aload hk_118 rw_118_51 rfl ?_
    refine mz_getf hk_118 hB rw_118_52 rfl ?_
    refine zi_const hk_118 rw_118_53 (c := 216) rfl ?_
    refine zr_dup2 hk_118 rw_118_54 rfl rfl ?_
    refine mz_pld hk_118 hB rw_118_55 (216) (by omega) (by omega) ?_
    refine zi_const hk_118 rw_118_56 (c := 1) rfl ?_
    refine zr_iadd hk_118 rw_118_57 ?_
    refine mz_pst hk_118 hB rw_118_58 (216) (by omega) (by omega) ?_
    refine zr_aload hk_118 rw_118_59 rfl ?_
    refine zi_const hk_118 rw_118_60 (c := 0) rfl ?_
    refine zi_const hk_118 rw_118_61 (c := 2) rfl ?_
    refine zi_const hk_118 rw_118_62 (c := -9) rfl ?_
    refine c_put hk_118 hB rw_118_63 (2) (by omega) (by omega) (Nat.le_of_ble_eq_true rfl) ?_
    refine zr_aload hk_118 rw_118_64 rfl ?_
    refine zi_const hk_118 rw_118_65 (c := 0) rfl ?_
    refine zi_const hk_118 rw_118_66 (c := 3) rfl ?_
    refine zr_iload hk_118 rw_118_67 rfl ?_
    refine c_put hk_118 hB rw_118_68 (3) (by omega) (by omega) (Nat.le_of_ble_eq_true rfl) ?_
    refine zr_aload hk_118 rw_118_69 rfl ?_
    refine zi_const hk_118 rw_118_70 (c := 0) rfl ?_
    refine zi_const hk_118 rw_118_71 (c := 5) rfl ?_
    refine zi_const hk_118 rw_118_72 (c := 32) rfl ?_
    refine c_put hk_118 hB rw_118_73 (5) (by omega) (by omega) (Nat.le_of_ble_eq_true rfl) ?_
    refine zr_aload hk_118 rw_118_74 rfl ?_
    refine zi_const hk_118 rw_118_75 (c := 0) rfl ?_
    refine zi_const hk_118 rw_118_76 (c := 6) rfl ?_
    refine zi_const hk_118 rw_118_77 (c := 32) rfl ?_
    refine c_put hk_118 hB rw_118_78 (6) (by omega) (by omega) (Nat.le_of_ble_eq_true rfl) ?_
    refine zr_return (a := 0) hk_118 rw_118_79 ?_
    obtain rfl : k = 210 := by omega
    exact ⟨_, rfl, rfl, ((uq_ne (by omega)).trans ((uq_ne (by omega)).trans ((uq_ne (by omega)).trans ((uq_ne (by omega)).trans ((uq_ne (by omega)).trans ((uq_ne (by omega)).trans uq_eq)))))), ((uq_ne (by omega)).trans ((uq_ne (by omega)).trans ((uq_ne (by omega)).trans uq_eq))), ((uq_ne (by omega)).trans ((uq_ne (by omega)).trans uq_eq)), uq_eq, fun c c1 c2 => ⟨((uq_ne (by omega)).trans ((uq_ne (by omega)).trans ((uq_ne (by omega)).trans ((uq_ne (by omega)).trans ((uq_ne (by omega)).trans ((uq_ne (by omega)).trans ((uq_ne (by omega)).trans ((uq_ne (by omega)).trans ((uq_ne (by omega)).trans ((uq_ne (by omega)).trans ((uq_ne (by omega)).trans ((uq_ne (by omega)).trans (hL.1 _ (by omega)))))))))))))), ((uq_ne (by omega)).trans ((uq_ne (by omega)).trans ((uq_ne (by omega)).trans ((uq_ne (by omega)).trans ((uq_ne (by omega)).trans ((uq_ne (by omega)).trans ((uq_ne (by omega)).trans ((uq_ne (by omega)).trans ((uq_ne (by omega)).trans ((uq_ne (by omega)).trans ((uq_ne (by omega)).trans ((uq_ne (by omega)).trans (hL.1 _ (by omega))))))))))))))⟩, fun c hc => ⟨((uq_ne (by omega)).trans ((uq_ne (by omega)).trans ((uq_ne (by omega)).trans ((uq_ne (by omega)).trans ((uq_ne (by omega)).trans ((uq_ne (by omega)).trans ((uq_ne (by omega)).trans ((uq_ne (by omega)).trans ((uq_ne (by omega)).trans ((uq_ne (by omega)).trans ((uq_ne (by omega)).trans ((uq_ne (by omega)).trans (hL.1 _ (by omega)))))))))))))), ((uq_ne (by omega)).trans ((uq_ne (by omega)).trans ((uq_ne (by omega)).trans ((uq_ne (by omega)).trans ((uq_ne (by omega)).trans ((uq_ne (by omega)).trans ((uq_ne (by omega)).trans ((uq_ne (by omega)).trans ((uq_ne (by omega)).trans ((uq_ne (by omega)).trans ((uq_ne (by omega)).trans ((uq_ne (by omega)).trans (hL.1 _ (by omega))))))))))))))⟩, fun i i1 i2 => ((uq_ne (by omega)).trans ((uq_ne (by omega)).trans ((uq_ne (by omega)).trans ((uq_ne (by omega)).trans ((uq_ne (by omega)).trans ((uq_ne (by omega)).trans ((uq_ne (by omega)).trans ((uq_ne (by omega)).trans ((uq_ne (by omega)).trans ((uq_ne (by omega)).trans ((uq_ne (by omega)).trans ((uq_ne (by omega)).trans (hL.2 _ (by omega)))))))))))))), ((uq_ne (by omega)).trans ((uq_ne (by omega)).trans ((uq_ne (by omega)).trans ((uq_ne (by omega)).trans ((uq_ne (by omega)).trans ((uq_ne (by omega)).trans ((uq_ne (by omega)).trans ((uq_ne (by omega)).trans ((uq_ne (by omega)).trans ((uq_ne (by omega)).trans ((uq_ne (by omega)).trans uq_eq))))))))))), ((uq_ne (by omega)).trans ((uq_ne (by omega)).trans ((uq_ne (by omega)).trans ((uq_ne (by omega)).trans ((uq_ne (by omega)).trans ((uq_ne (by omega)).trans ((uq_ne (by omega)).trans ((uq_ne (by omega)).trans ((uq_ne (by omega)).trans uq_eq))))))))), ((uq_ne (by omega)).trans ((uq_ne (by omega)).trans ((uq_ne (by omega)).trans ((uq_ne (by omega)).trans ((uq_ne (by omega)).trans ((uq_ne (by omega)).trans ((uq_ne (by omega)).trans ((uq_ne (by omega)).trans uq_eq)))))))), ((uq_ne (by omega)).trans ((uq_ne (by omega)).trans ((uq_ne (by omega)).trans ((uq_ne (by omega)).trans ((uq_ne (by omega)).trans ((uq_ne (by omega)).trans ((uq_ne (by omega)).trans uq_eq))))))), fun i hi => ((uq_ne (by omega)).trans ((uq_ne (by omega)).trans ((uq_ne (by omega)).trans ((uq_ne (by omega)).trans ((uq_ne (by omega)).trans ((uq_ne (by omega)).trans ((uq_ne (by omega)).trans ((uq_ne (by omega)).trans ((uq_ne (by omega)).trans ((uq_ne (by omega)).trans ((uq_ne (by omega)).trans ((uq_ne (by omega)).trans (hL.2 _ (by omega))))))))))))))⟩
  | succ m ih =>
    intro k r hkm hL
    refine zr_cut hk_118 rw_118_2 ?_
    refine zr_iload hk_118 rw_118_3 rfl ?_
    refine zi_const hk_118 rw_118_4 (c := 210) rfl ?_
    refine zi_icmp_ge hk_118 rw_118_5 (by unfold inR; omega) (by unfold inR; omega) (fun h5 => by omega) (fun h5 => ?_)
    refine zr_aload hk_118 rw_118_6 rfl ?_
    refine mz_getf hk_118 hB rw_118_7 rfl ?_
    refine zr_iload hk_118 rw_118_8 rfl ?_
    refine zi_const hk_118 rw_118_9 (c := 0) rfl ?_
    refine mz_pst hk_118 hB rw_118_10 (k) (by omega) (by omega) ?_
    refine zi_inc hk_118 rw_118_11 rfl rfl inc_1 (lv' := [some (.ref 75), some (.int (iv (w))), some (.int (iv ((k : Int) + 1)))]) rfl ?_
    refine zr_goto hk_118 rw_118_12 ?_
    exact ih (k + 1) _ (by omega) (hL.step (by omega))
theorem begin_ok (d : Nat) (hB : 87 ≤ B.length) {w : Int} : ZC (d + 1) 118 [.ref 75, .int (iv w)] (mh B p a z) (fun v ph' => ∃ q, ph' = mh B q a z ∧ v = none ∧ Beg p q w) := by
  refine ZC.of (lv := [some (.ref 75), some (.int (iv (w)))]) hk_118 (fun i v hv => ?_) ?_
  · match i, hv with
    | 0, hv => cases hv; rfl
    | 1, hv => cases hv; rfl
    | i + 2, hv => simp at hv
  refine zi_const hk_118 rw_118_0 (c := 0) rfl ?_
  refine zi_istore hk_118 rw_118_1 rfl (lv' := [some (.ref 75), some (.int (iv (w))), some (.int (iv (0)))]) rfl ?_
  exact bg_loop hB 210 0 p (by omega) ⟨fun i hi => absurd hi (Nat.not_lt_zero _), fun _ _ => rfl⟩
theorem c_begin (hk : k < 186) (hB : 87 ≤ B.length) {pc b x ix : Nat} {ts : List Nat} {w : Int} (hrow : (codeOf k)[j]? = some (pc, .invokevirtual ix, 118, b, x, 3, ts)) (hcat : catS st ≤ 8) (h : ∀ q : Nat → Int32, Beg p q w → ZR (d + 2) k (j + 1) lv st (mh B q a z) Q) : ZR (d + 2) k j lv (.int (iv w) :: .ref 75 :: st) (mh B p a z) Q := by
  refine mz_call (L := 3) (n := 1) (as := [.int (iv w)]) (r := st) hk hB hrow (by decide) (by decide) ⟨rfl, rfl, rfl, rfl⟩ rfl rfl hcat (Nat.le_of_ble_eq_true rfl) (begin_ok d hB) ?_
  rintro w ph' ⟨q, rfl, rfl, h1⟩
  exact h q h1
/-- connection c is opened below e -/
def Ops (p q : Nat → Int32) (c e : Nat) (w : Int) : Prop := q (21 * c) = iv 1 ∧ q (21 * c + 2) = iv (e : Int) ∧ q (21 * c + 3) = iv w ∧ q (21 * c + 6) = p (21 * e + 6) ∧ q (21 * c + 10) = iv 0 ∧ q (21 * c + 16) = iv 0 ∧ ∀ i, (i < 21 * c ∨ 21 * c + 21 ≤ i) → i ≠ 21 * e + 5 → i ≠ 216 → q i = p i
theorem Ops.ok {T : Nat} {p q : Nat → Int32} {c e : Nat} {w : Int} (h : Ops p q c e w) (hP : PageOK T p) (hc1 : 1 ≤ c) (hc : c < 10) (he : e < 10) (heo : p (21 * e) = iv 1) (hco : ¬ p (21 * c) = iv 1) (h1 : 1 ≤ w) (h9 : w ≤ 9) : PageOK T q := by
  obtain ⟨o0, o2, o3, o6, o10, o16, oo⟩ := h
  obtain ⟨⟨a1, a2, a3, a4, rk, a5⟩, t, C, t1, t2, t3, t4, t5⟩ := hP
  have hec : e ≠ c := fun z => hco (z ▸ heo)
  have key : ∀ b, b < 10 → b ≠ c → ∀ x, x < 21 → x ≠ 5 → q (21 * b + x) = p (21 * b + x) := fun b hb hne x hx h5 => oo _ (by omega) (by omega) (by omega)
  have key0 : ∀ b, b < 10 → b ≠ c → q (21 * b) = p (21 * b) := fun b hb hne => key b hb hne 0 (by omega) (by omega)
  refine ⟨⟨fun b hb => ?_, ?_, (oo 0 (by omega) (by omega) (by omega)).trans a3, (oo 2 (by omega) (by omega) (by omega)).trans a4, fun x => if x = c then rk e + 1 else rk x, fun b b1 b2 hb => ?_⟩, t, C, t1, (oo _ (by omega) (by omega) (by omega)).trans t2, (oo _ (by omega) (by omega) (by omega)).trans t3, fun b hb => ?_, t5.of_eq (ack_le t5) (fun i i1 i2 => oo _ (by omega) (by omega) (by omega))⟩
  · by_cases ebc : b = c
    · subst ebc
      obtain ⟨x, x1, x2⟩ := ((a1 e he).2.2.2 heo).2
      exact ⟨⟨1, o0, by omega, by omega⟩, ⟨w, o3, by omega, by omega⟩, ⟨0, o10, by omega, by omega⟩, fun _ => ⟨⟨w, o3, by omega, by omega⟩, ⟨x, o6.trans x1, x2⟩⟩⟩
    · obtain ⟨b1, b2, b3, b4⟩ := a1 b hb
      refine ⟨b1.of_eq (key0 b hb ebc), b2.of_eq (key b hb ebc _ (by omega) (by omega)), b3.of_eq (key b hb ebc _ (by omega) (by omega)), fun ho => ?_⟩
      obtain ⟨c1, c2⟩ := b4 ((key0 b hb ebc).symm.trans ho)
      exact ⟨c1.of_eq (key b hb ebc _ (by omega) (by omega)), c2.of_eq (key b hb ebc _ (by omega) (by omega))⟩
  · obtain ⟨b1, b2, b3, b4, b5, b6⟩ := a2
    exact ⟨b1.of_eq (oo _ (by omega) (by omega) (by omega)), b2.of_eq (oo _ (by omega) (by omega) (by omega)), b3.of_eq (oo _ (by omega) (by omega) (by omega)), b4.of_eq (oo _ (by omega) (by omega) (by omega)), b5.of_eq (oo _ (by omega) (by omega) (by omega)), b6.of_eq (oo _ (by omega) (by omega) (by omega))⟩
  · by_cases ebc : b = c
    · subst ebc
      exact ⟨e, he, o2, (key0 e he hec).trans heo, by dsimp only; rw [if_neg hec, if_pos rfl]; exact Nat.lt_succ_self _⟩
    · obtain ⟨r, r1, r2, r3, r4⟩ := a5 b b1 b2 ((key0 b b2 ebc).symm.trans hb)
      have hrc : r ≠ c := fun z => hco (z ▸ r3)
      exact ⟨r, r1, (key b b2 ebc _ (by omega) (by omega)).trans r2, (key0 r r1 hrc).trans r3, by dsimp only; rw [if_neg hrc, if_neg ebc]; exact r4⟩
  · by_cases ebc : b = c
    · subst ebc
      obtain ⟨n, -, n2⟩ := t4 0 (by omega)
      exact ⟨0, o16, by omega⟩
    · obtain ⟨n, n1, n2⟩ := t4 b hb
      exact ⟨n, (key b hb ebc _ (by omega) (by omega)).trans n1, n2⟩
def ZL (p r : Nat → Int32) (c k : Nat) : Prop := (∀ w, w < k → r (21 * c + w) = iv 0) ∧ ∀ i, (i < 21 * c ∨ 21 * c + 21 ≤ i) → r i = p i
theorem ZL.step {p r : Nat → Int32} {c k : Nat} (h : ZL p r c k) (hk : k < 21) : ZL p (upd r (21 * c + k) (iv 0)) c (k + 1) := by
  refine ⟨fun i hi => ?_, fun i hi => (uq_ne (by omega)).trans (h.2 i hi)⟩
  by_cases e : i = k
  · rw [e]
    exact uq_eq
  · exact (uq_ne (by omega)).trans (h.1 i (by omega))
theorem div_ne {x y : Int32} {w e : Int} (hx : x = iv w) (hy : y = iv e) (h1 : 1 ≤ w) (h2 : w ≤ 9) (h3 : 1 ≤ e) (h4 : e ≤ 9) : ¬ x + y = 0 := by
  rw [hx, hy, iv_add]
  intro h
  have := (iv_eq (a := w + e) (b := 0) (by unfold inR; omega) (by unfold inR; omega)).mp h
  omega
theorem op_loop (hB : 87 ≤ B.length) {c e : Nat} {w : Int} {cr : Int32} (hc : c < 10) (he : e < 10) (hec : e ≠ c) : ∀ (m k : Nat) (r : Nat → Int32), k + m = 21 → ZL p r c k → ZR (d + 1) 128 19 [some (.ref 75), some (.int (iv ((e : Int)))), some (.int (iv (w))), some (.int (iv ((c : Int)))), some (.int (cr)), some (.int (iv ((k : Int))))] [] (mh B r a z) (fun v ph' => ∃ q, ph' = mh B q a z ∧ v = some (.int (iv (c : Int))) ∧ Ops p q c e w) := by
  intro m
  induction m with
  | zero =>
    intro k r hkm hL
    refine zr_cut hk_128 rw_128_19 ?_
    refine zr_iload hk_128 rw_128_20 rfl ?_
    refine zi_const hk_128 rw_128_21 (c := 21) rfl ?_
    refine zi_icmp_ge hk_128 rw_128_22 (by unfold inR; omega) (by unfold inR; omega) (fun h22 => ?_) (fun h22 => by omega)
    refine zr_aload hk_128 rw_128_30 rfl ?_
    refine zr_iload hk_128 rw_128_31 rfl ?_
    refine zi_const hk_128 rw_128_32 (c := 0) rfl ?_
    refine zi_const hk_128 rw_128_33 (c := 1) rfl ?_
    refine c_put hk_128 hB rw_128_34 (21 * c) (by omega) (by omega) (Nat.le_of_ble_eq_true rfl) ?_
    refine zr_aload hk_128 rw_128_35 rfl ?_
    refine zr_iload hk_128 rw_128_36 rfl ?_
    refine zi_const hk_128 rw_128_37 (c := 1) rfl ?_
    refine zr_aload hk_128 rw_128_38 rfl ?_
    refine mz_getf hk_128 hB rw_128_39 rfl ?_
    refine zi_const hk_128 rw_128_40 (c := 216) rfl ?_
    refine mz_pld hk_128 hB rw_128_41 (216) (by omega) (by omega) ?_
    refine c_put hk_128 hB rw_128_42 (21 * c + 1) (by omega) (by omega) (Nat.le_of_ble_eq_true rfl) ?_
    refine zr_aload hk_128 rw_128_43 rfl ?_
    refine mz_getf hk_128 hB rw_128_44 rfl ?_
    refine zi_const hk_128 rw_128_45 (c := 216) rfl ?_
    refine zr_dup2 hk_128 rw_128_46 rfl rfl ?_
    refine mz_pld hk_128 hB rw_128_47 (216) (by omega) (by omega) ?_
    refine zi_const hk_128 rw_128_48 (c := 1) rfl ?_
    refine zr_iadd hk_128 rw_128_49 ?_
    refine mz_pst hk_128 hB rw_128_50 (216) (by omega) (by omega) ?_
    refine zr_aload hk_128 rw_128_51 rfl ?_
    refine zr_iload hk_128 rw_128_52 rfl ?_
    refine zi_const hk_128 rw_128_53 (c := 2) rfl ?_
    refine zr_iload hk_128 rw_128_54 rfl ?_
    refine c_put hk_128 hB rw_128_55 (21 * c + 2) (by omega) (by omega) (Nat.le_of_ble_eq_true rfl) ?_
    refine zr_aload hk_128 rw_128_56 rfl ?_
    refine zr_iload hk_128 rw_128_57 rfl ?_
    refine zi_const hk_128 rw_128_58 (c := 3) rfl ?_
    refine zr_iload hk_128 rw_128_59 rfl ?_
    refine c_put hk_128 hB rw_128_60 (21 * c + 3) (by omega) (by omega) (Nat.le_of_ble_eq_true rfl) ?_
    refine zr_aload hk_128 rw_128_61 rfl ?_
    refine zr_iload hk_128 rw_128_62 rfl ?_
    refine zi_const hk_128 rw_128_63 (c := 5) rfl ?_
    refine zr_iload hk_128 rw_128_64 rfl ?_
    refine c_put hk_128 hB rw_128_65 (21 * c + 5) (by omega) (by omega) (Nat.le_of_ble_eq_true rfl) ?_
    refine zr_aload hk_128 rw_128_66 rfl ?_
    refine zr_iload hk_128 rw_128_67 rfl ?_
    refine zi_const hk_128 rw_128_68 (c := 5) rfl ?_
    refine zr_aload hk_128 rw_128_69 rfl ?_
    refine zr_iload hk_128 rw_128_70 rfl ?_
    refine zi_const hk_128 rw_128_71 (c := 5) rfl ?_
    refine c_of hk_128 hB rw_128_72 (21 * e + 5) (by omega) (by omega) (Nat.le_of_ble_eq_true rfl) ?_
    refine zr_iload hk_128 rw_128_73 rfl ?_
    refine zr_isub hk_128 rw_128_74 ?_
    refine c_put hk_128 hB rw_128_75 (21 * e + 5) (by omega) (by omega) (Nat.le_of_ble_eq_true rfl) ?_
    refine zr_aload hk_128 rw_128_76 rfl ?_
    refine zr_iload hk_128 rw_128_77 rfl ?_
    refine zi_const hk_128 rw_128_78 (c := 6) rfl ?_
    refine zr_aload hk_128 rw_128_79 rfl ?_
    refine zr_iload hk_128 rw_128_80 rfl ?_
    refine zi_const hk_128 rw_128_81 (c := 6) rfl ?_
    refine c_of hk_128 hB rw_128_82 (21 * e + 6) (by omega) (by omega) (Nat.le_of_ble_eq_true rfl) ?_
    refine c_put hk_128 hB rw_128_83 (21 * c + 6) (by omega) (by omega) (Nat.le_of_ble_eq_true rfl) ?_
    refine zr_aload hk_128 rw_128_84 rfl ?_
    refine zr_iload hk_128 rw_128_85 rfl ?_
    refine zi_const hk_128 rw_128_86 (c := 12) rfl ?_
    refine zr_aload hk_128 rw_128_87 rfl ?_
    refine zr_iload hk_128 rw_128_88 rfl ?_
    refine zi_const hk_128 rw_128_89 (c := 12) rfl ?_
    refine c_of hk_128 hB rw_128_90 (21 * e + 12) (by omega) (by omega) (Nat.le_of_ble_eq_true rfl) ?_
    refine c_put hk_128 hB rw_128_91 (21 * c + 12) (by omega) (by omega) (Nat.le_of_ble_eq_true rfl) ?_
    refine zr_aload hk_128 rw_128_92 rfl ?_
    refine zr_iload hk_128 rw_128_93 rfl ?_
    refine zi_const hk_128 rw_128_94 (c := 7) rfl ?_
    refine zr_aload hk_128 rw_128_95 rfl ?_
    refine zr_iload hk_128 rw_128_96 rfl ?_
    refine zi_const hk_128 rw_128_97 (c := 7) rfl ?_
    refine c_of hk_128 hB rw_128_98 (21 * e + 7) (by omega) (by omega) (Nat.le_of_ble_eq_true rfl) ?_
    refine c_put hk_128 hB rw_128_99 (21 * c + 7) (by omega) (by omega) (Nat.le_of_ble_eq_true rfl) ?_
    refine zr_aload hk_128 rw_128_100 rfl ?_
    refine zr_iload hk_128 rw_128_101 rfl ?_
    refine zi_const hk_128 rw_128_102 (c := 8) rfl ?_
    refine zr_aload hk_128 rw_128_103 rfl ?_
    refine zr_iload hk_128 rw_128_104 rfl ?_
    refine zi_const hk_128 rw_128_105 (c := 8) rfl ?_
    refine c_of hk_128 hB rw_128_106 (21 * e + 8) (by omega) (by omega) (Nat.le_of_ble_eq_true rfl) ?_
    refine c_put hk_128 hB rw_128_107 (21 * c + 8) (by omega) (by omega) (Nat.le_of_ble_eq_true rfl) ?_
    refine zr_aload hk_128 rw_128_108 rfl ?_
    refine zr_iload hk_128 rw_128_109 rfl ?_
    refine zi_const hk_128 rw_128_110 (c := 9) rfl ?_
    refine zi_const hk_128 rw_128_111 (c := 2) rfl ?_
    refine zr_aload hk_128 rw_128_112 rfl ?_
    refine zr_iload hk_128 rw_128_113 rfl ?_
    refine zi_const hk_128 rw_128_114 (c := 9) rfl ?_
    refine c_of hk_128 hB rw_128_115 (21 * e + 9) (by omega) (by omega) (Nat.le_of_ble_eq_true rfl) ?_
    refine zr_imul hk_128 rw_128_116 ?_
    refine c_put hk_128 hB rw_128_117 (21 * c + 9) (by omega) (by omega) (Nat.le_of_ble_eq_true rfl) ?_
    refine zr_iload hk_128 rw_128_118 rfl ?_
    refine zr_ireturn hk_128 rw_128_119 ?_
    obtain rfl : k = 21 := by omega
    exact ⟨_, rfl, rfl, ((uq_ne (by omega)).trans ((uq_ne (by omega)).trans ((uq_ne (by omega)).trans ((uq_ne (by omega)).trans ((uq_ne (by omega)).trans ((uq_ne (by omega)).trans ((uq_ne (by omega)).trans ((uq_ne (by omega)).trans ((uq_ne (by omega)).trans ((uq_ne (by omega)).trans ((uq_ne (by omega)).trans uq_eq))))))))))), ((uq_ne (by omega)).trans ((uq_ne (by omega)).trans ((uq_ne (by omega)).trans ((uq_ne (by omega)).trans ((uq_ne (by omega)).trans ((uq_ne (by omega)).trans ((uq_ne (by omega)).trans ((uq_ne (by omega)).trans uq_eq)))))))), ((uq_ne (by omega)).trans ((uq_ne (by omega)).trans ((uq_ne (by omega)).trans ((uq_ne (by omega)).trans ((uq_ne (by omega)).trans ((uq_ne (by omega)).trans ((uq_ne (by omega)).trans uq_eq))))))), ((uq_ne (by omega)).trans ((uq_ne (by omega)).trans ((uq_ne (by omega)).trans ((uq_ne (by omega)).trans (uq_eq.trans (((uq_ne (by omega)).trans ((uq_ne (by omega)).trans ((uq_ne (by omega)).trans ((uq_ne (by omega)).trans ((uq_ne (by omega)).trans ((uq_ne (by omega)).trans ((uq_ne (by omega)).trans (hL.2 _ (by omega))))))))))))))), ((uq_ne (by omega)).trans ((uq_ne (by omega)).trans ((uq_ne (by omega)).trans ((uq_ne (by omega)).trans ((uq_ne (by omega)).trans ((uq_ne (by omega)).trans ((uq_ne (by omega)).trans ((uq_ne (by omega)).trans ((uq_ne (by omega)).trans ((uq_ne (by omega)).trans ((uq_ne (by omega)).trans ((uq_ne (by omega)).trans (hL.1  10 (by omega)))))))))))))), ((uq_ne (by omega)).trans ((uq_ne (by omega)).trans ((uq_ne (by omega)).trans ((uq_ne (by omega)).trans ((uq_ne (by omega)).trans ((uq_ne (by omega)).trans ((uq_ne (by omega)).trans ((uq_ne (by omega)).trans ((uq_ne (by omega)).trans ((uq_ne (by omega)).trans ((uq_ne (by omega)).trans ((uq_ne (by omega)).trans (hL.1  16 (by omega)))))))))))))), fun i i1 i2 i3 => ((uq_ne (by omega)).trans ((uq_ne (by omega)).trans ((uq_ne (by omega)).trans ((uq_ne (by omega)).trans ((uq_ne (by omega)).trans ((uq_ne (by omega)).trans ((uq_ne (by omega)).trans ((uq_ne (by omega)).trans ((uq_ne (by omega)).trans ((uq_ne (by omega)).trans ((uq_ne (by omega)).trans ((uq_ne (by omega)).trans (hL.2 _ (by omega))))))))))))))⟩
  | succ m ih =>
    intro k r hkm hL
    refine zr_cut hk_128 rw_128_19 ?_
    refine zr_iload hk_128 rw_128_20 rfl ?_
    refine zi_const hk_128 rw_128_21 (c := 21) rfl ?_
    refine zi_icmp_ge hk_128 rw_128_22 (by unfold inR; omega) (by unfold inR; omega) (fun h22 => by omega) (fun h22 => ?_)
    refine zr_aload hk_128 rw_128_23 rfl ?_
    refine zr_iload hk_128 rw_128_24 rfl ?_
    refine zr_iload hk_128 rw_128_25 rfl ?_
    refine zi_const hk_128 rw_128_26 (c := 0) rfl ?_
    refine c_put hk_128 hB rw_128_27 (21 * c + k) (by omega) (by omega) (Nat.le_of_ble_eq_true rfl) ?_
    refine zi_inc hk_128 rw_128_28 rfl rfl inc_1 (lv' := [some (.ref 75), some (.int (iv ((e : Int)))), some (.int (iv (w))), some (.int (iv ((c : Int)))), some (.int (cr)), some (.int (iv ((k : Int) + 1)))]) rfl ?_
    refine zr_goto hk_128 rw_128_29 ?_
    exact ih (k + 1) _ (by omega) (hL.step (by omega))
theorem opens_ok (d : Nat) (hB : 87 ≤ B.length) {c e : Nat} {w : Int} (hff : FF p c) (hc : c < 10) (he : e < 10) (heo : p (21 * e) = iv 1) (hwe : rg p (21 * e + 3) 1 9) (h1 : 1 ≤ w) (h9 : w ≤ 9) : ZC (d + 2) 128 [.ref 75, .int (iv (e : Int)), .int (iv w)] (mh B p a z) (fun v ph' => ∃ q, ph' = mh B q a z ∧ v = some (.int (iv (c : Int))) ∧ Ops p q c e w) := by
  obtain ⟨wx, hw1, hw2, hw3⟩ := hwe
  have hec : e ≠ c := fun z => hff.2.2 hc (z ▸ heo)
  refine ZC.of (lv := [some (.ref 75), some (.int (iv ((e : Int)))), some (.int (iv (w)))]) hk_128 (fun i v hv => ?_) ?_
  · match i, hv with
    | 0, hv => cases hv; rfl
    | 1, hv => cases hv; rfl
    | 2, hv => cases hv; rfl
    | i + 3, hv => simp at hv
  refine zr_aload hk_128 rw_128_0 rfl ?_
  refine c_firstFree hk_128 hB rw_128_1 (Nat.le_of_ble_eq_true rfl) (fun c hf => ?_)
  obtain rfl := FF_fun hf hff
  refine zi_istore hk_128 rw_128_2 rfl (lv' := [some (.ref 75), some (.int (iv ((e : Int)))), some (.int (iv (w))), some (.int (iv ((c : Int))))]) rfl ?_
  refine zr_aload hk_128 rw_128_3 rfl ?_
  refine zr_iload hk_128 rw_128_4 rfl ?_
  refine zi_const hk_128 rw_128_5 (c := 5) rfl ?_
  refine c_of hk_128 hB rw_128_6 (21 * e + 5) (by omega) (by omega) (Nat.le_of_ble_eq_true rfl) ?_
  refine zr_iload hk_128 rw_128_7 rfl ?_
  refine zr_imul hk_128 rw_128_8 ?_
  refine zr_iload hk_128 rw_128_9 rfl ?_
  refine zr_aload hk_128 rw_128_10 rfl ?_
  refine zr_iload hk_128 rw_128_11 rfl ?_
  refine zi_const hk_128 rw_128_12 (c := 3) rfl ?_
  refine c_of hk_128 hB rw_128_13 (21 * e + 3) (by omega) (by omega) (Nat.le_of_ble_eq_true rfl) ?_
  refine zr_iadd hk_128 rw_128_14 ?_
  refine zr_idiv hk_128 rw_128_15 (div_ne rfl hw1 h1 h9 hw2 hw3) ?_
  refine zi_istore hk_128 rw_128_16 rfl (lv' := [some (.ref 75), some (.int (iv ((e : Int)))), some (.int (iv (w))), some (.int (iv ((c : Int)))), some (.int (_))]) rfl ?_
  refine zi_const hk_128 rw_128_17 (c := 0) rfl ?_
  refine zi_istore hk_128 rw_128_18 rfl (lv' := [some (.ref 75), some (.int (iv ((e : Int)))), some (.int (iv (w))), some (.int (iv ((c : Int)))), some (.int (_)), some (.int (iv (0)))]) rfl ?_
  exact op_loop hB hc he hec 21 0 p (by omega) ⟨fun i hi => absurd hi (Nat.not_lt_zero _), fun _ _ => rfl⟩
theorem c_opens (hk : k < 186) (hB : 87 ≤ B.length) {pc b x ix : Nat} {ts : List Nat} {c : Nat} {w : Int} (hrow : (codeOf k)[j]? = some (pc, .invokevirtual ix, 128, b, x, 3, ts)) (e : Nat) (hff : FF p c) (hc : c < 10) (he : e < 10) (heo : p (21 * e) = iv 1) (hwe : rg p (21 * e + 3) 1 9) (h1 : 1 ≤ w) (h9 : w ≤ 9) (hcat : catS st ≤ 8) (h : ∀ q : Nat → Int32, Ops p q c e w → ZR (d + 3) k (j + 1) lv (.int (iv (c : Int)) :: st) (mh B q a z) Q) : ZR (d + 3) k j lv (.int (iv w) :: .int (iv (e : Int)) :: .ref 75 :: st) (mh B p a z) Q := by
  refine mz_call (L := 6) (n := 2) (as := [.int (iv (e : Int)), .int (iv w)]) (r := st) hk hB hrow (by decide) (by decide) ⟨rfl, rfl, rfl, rfl⟩ rfl rfl hcat (Nat.le_of_ble_eq_true rfl) (opens_ok d hB hff hc he heo hwe h1 h9) ?_
  rintro w ph' ⟨q, rfl, rfl, h1⟩
  exact h q h1
/-- connection c, whose parent is e, is closed -/
def Cls (p q : Nat → Int32) (c e : Nat) : Prop := (∀ i, (∀ b, b < 10 → i ≠ 21 * b + 2) → i ≠ 21 * c → q i = p i) ∧ q (21 * c) = iv 0 ∧ ∀ b, b < 10 → (p (21 * b) = iv 1 ∧ p (21 * b + 2) = iv (c : Int) → q (21 * b + 2) = iv (e : Int)) ∧ (¬ (p (21 * b) = iv 1 ∧ p (21 * b + 2) = iv (c : Int)) → q (21 * b + 2) = p (21 * b + 2))
theorem iv_nat {a b : Nat} (ha : a < 2147483648) (hb : b < 2147483648) (h : iv (a : Int) = iv (b : Int)) : a = b := by
  have := (iv_eq (a := (a : Int)) (b := (b : Int)) (by unfold inR; omega) (by unfold inR; omega)).mp h
  omega
theorem iv_m9 {a : Nat} (ha : a < 2147483648) : ¬ iv (-9) = iv (a : Int) := by
  intro h
  have := (iv_eq (a := (-9 : Int)) (b := (a : Int)) (by unfold inR; omega) (by unfold inR; omega)).mp h
  omega
theorem Cls.ok {T : Nat} {p q : Nat → Int32} {c e : Nat} (h : Cls p q c e) (hP : PageOK T p) (hc1 : 1 ≤ c) (hc : c < 10) (he : e < 10) (hco : p (21 * c) = iv 1) (hce : p (21 * c + 2) = iv (e : Int)) : PageOK T q := by
  obtain ⟨oo, o0, op⟩ := h
  obtain ⟨⟨a1, a2, a3, a4, rk, a5⟩, t, C, t1, t2, t3, t4, t5⟩ := hP
  have key : ∀ b, b < 10 → ∀ x, x < 21 → x ≠ 2 → (x ≠ 0 ∨ b ≠ c) → q (21 * b + x) = p (21 * b + x) := fun b hb x hx h2 h0 => oo _ (fun b' hb' => by omega) (by omega)
  have key0 : ∀ b, b < 10 → b ≠ c → q (21 * b) = p (21 * b) := fun b hb hne => key b hb 0 (by omega) (by omega) (Or.inr hne)
  have hib : ∀ i, 210 ≤ i → q i = p i := fun i hi => oo i (fun b hb => by omega) (by omega)
  have heo : e ≠ c ∧ p (21 * e) = iv 1 ∧ rk e < rk c := by
    obtain ⟨r, r1, r2, r3, r4⟩ := a5 c hc1 hc hco
    have := iv_nat (by omega) (by omega) (r2.symm.trans hce)
    subst this
    exact ⟨fun z => by rw [z] at r4; omega, r3, r4⟩
  refine ⟨⟨fun b hb => ?_, ?_, (key0 0 (by omega) (by omega)).trans a3, ?_, rk, fun b b1 b2 hb => ?_⟩, t, C, t1, (hib _ (by omega)).trans t2, (hib _ (by omega)).trans t3, fun b hb => ?_, t5.of_eq (ack_le t5) (fun i i1 i2 => hib i (by omega))⟩
  · obtain ⟨b1, b2, b3, b4⟩ := a1 b hb
    by_cases ebc : b = c
    · subst ebc
      exact ⟨⟨0, o0, by omega, by omega⟩, b2.of_eq (key b hb _ (by omega) (by omega) (by omega)), b3.of_eq (key b hb _ (by omega) (by omega) (by omega)), fun ho => absurd (o0.symm.trans ho) iv01⟩
    · refine ⟨b1.of_eq (key0 b hb ebc), b2.of_eq (key b hb _ (by omega) (by omega) (by omega)), b3.of_eq (key b hb _ (by omega) (by omega) (by omega)), fun ho => ?_⟩
      obtain ⟨c1, c2⟩ := b4 ((key0 b hb ebc).symm.trans ho)
      exact ⟨c1.of_eq (key b hb _ (by omega) (by omega) (by omega)), c2.of_eq (key b hb _ (by omega) (by omega) (by omega))⟩
  · obtain ⟨b1, b2, b3, b4, b5, b6⟩ := a2
    exact ⟨b1.of_eq (hib _ (by omega)), b2.of_eq (hib _ (by omega)), b3.of_eq (hib _ (by omega)), b4.of_eq (hib _ (by omega)), b5.of_eq (hib _ (by omega)), b6.of_eq (hib _ (by omega))⟩
  · exact ((op 0 (by omega)).2 (fun z => iv_m9 (by omega) (a4.symm.trans z.2))).trans a4
  · have ebc : b ≠ c := fun z => by
      rw [z, o0] at hb
      exact iv01 hb
    have hbo := (key0 b b2 ebc).symm.trans hb
    obtain ⟨r, r1, r2, r3, r4⟩ := a5 b b1 b2 hbo
    by_cases erc : r = c
    · subst erc
      exact ⟨e, he, (op b b2).1 ⟨hbo, r2⟩, (key0 e he heo.1).trans heo.2.1, Nat.lt_trans heo.2.2 r4⟩
    · exact ⟨r, r1, ((op b b2).2 (fun z => erc (iv_nat (by omega) (by omega) (r2.symm.trans z.2)))).trans r2, (key0 r r1 erc).trans r3, r4⟩
  · obtain ⟨n, n1, n2⟩ := t4 b hb
    exact ⟨n, (key b hb _ (by omega) (by omega) (by omega)).trans n1, n2⟩
def CL (p r : Nat → Int32) (c e k : Nat) : Prop := (∀ i, (∀ b, b < 10 → i ≠ 21 * b + 2) → r i = p i) ∧ ∀ b, b < 10 → (b < k ∧ p (21 * b) = iv 1 ∧ p (21 * b + 2) = iv (c : Int) → r (21 * b + 2) = iv (e : Int)) ∧ (¬ (b < k ∧ p (21 * b) = iv 1 ∧ p (21 * b + 2) = iv (c : Int)) → r (21 * b + 2) = p (21 * b + 2))
theorem CL.skip {p r : Nat → Int32} {c e k : Nat} (h : CL p r c e k) (hn : ¬ (p (21 * k) = iv 1 ∧ p (21 * k + 2) = iv (c : Int))) : CL p r c e (k + 1) := by
  refine ⟨h.1, fun b hb => ⟨fun z => (h.2 b hb).1 ⟨?_, z.2⟩, fun z => (h.2 b hb).2 (fun y => z ⟨by omega, y.2⟩)⟩⟩
  by_cases ebk : b = k
  · subst ebk
    exact absurd z.2 hn
  · have := z.1
    omega
theorem CL.put {p r : Nat → Int32} {c e k : Nat} (h : CL p r c e k) (hn : p (21 * k) = iv 1 ∧ p (21 * k + 2) = iv (c : Int)) (hk : k < 10) : CL p (upd r (21 * k + 2) (iv (e : Int))) c e (k + 1) := by
  refine ⟨fun i hi => (uq_ne (hi k hk)).trans (h.1 i hi), fun b hb => ?_⟩
  by_cases ebk : b = k
  · subst ebk
    exact ⟨fun _ => uq_eq, fun z => absurd ⟨by omega, hn⟩ z⟩
  · refine ⟨fun z => (uq_ne (by omega)).trans ((h.2 b hb).1 ⟨by omega, z.2⟩), fun z => (uq_ne (by omega)).trans ((h.2 b hb).2 (fun y => z ⟨by omega, y.2⟩))⟩
theorem CL.fin {p r : Nat → Int32} {c e : Nat} (h : CL p r c e 10) (hc : c < 10) : Cls p (upd r (21 * c) (iv 0)) c e :=
  ⟨fun i h1 h2 => (uq_ne h2).trans (h.1 i h1), uq_eq, fun b hb => ⟨fun z => (uq_ne (by omega)).trans ((h.2 b hb).1 ⟨hb, z⟩), fun z => (uq_ne (by omega)).trans ((h.2 b hb).2 (fun y => z y.2))⟩⟩
theorem CL.op {p r : Nat → Int32} {c e k b : Nat} (h : CL p r c e k) (hb : b < 10) : r (21 * b) = p (21 * b) := h.1 _ (fun b' hb' => by omega)
theorem CL.pa {p r : Nat → Int32} {c e k : Nat} (h : CL p r c e k) (hk : k < 10) : r (21 * k + 2) = p (21 * k + 2) := (h.2 k hk).2 (fun z => by omega)
theorem cl_loop (hB : 87 ≤ B.length) {c e : Nat} {m n : Int32} {s : Nat → Int32} (hc : c < 10) (he : e < 10) (SS : Soft p s) : ∀ (i k : Nat) (r : Nat → Int32), k + i = 10 → CL s r c e k → ZR (d + 2) 136 127 [some (.ref 75), some (.int (iv ((c : Int)))), some (.int (iv ((e : Int)))), some (.int (m)), some (.int (n)), some (.int (iv ((k : Int))))] [] (mh B r a z) (fun v ph' => ∃ q s, ph' = mh B q a z ∧ v = none ∧ Soft p s ∧ Cls s q c e) := by
  intro i
  induction i with
  | zero =>
    intro k r hkm hL
    refine zr_cut hk_136 rw_136_127 ?_
    refine zr_iload hk_136 rw_136_128 rfl ?_
    refine zi_const hk_136 rw_136_129 (c := 10) rfl ?_
    refine zi_icmp_ge hk_136 rw_136_130 (by unfold inR; omega) (by unfold inR; omega) (fun h130 => ?_) (fun h130 => by omega)
    refine zr_aload hk_136 rw_136_148 rfl ?_
    refine zr_iload hk_136 rw_136_149 rfl ?_
    refine zi_const hk_136 rw_136_150 (c := 0) rfl ?_
    refine zi_const hk_136 rw_136_151 (c := 0) rfl ?_
    refine c_put hk_136 hB rw_136_152 (21 * c) (by omega) (by omega) (Nat.le_of_ble_eq_true rfl) ?_
    refine zr_return (a := 0) hk_136 rw_136_153 ?_
    obtain rfl : k = 10 := by omega
    exact ⟨_, s, rfl, rfl, SS, hL.fin hc⟩
  | succ i ih =>
    intro k r hkm hL
    refine zr_cut hk_136 rw_136_127 ?_
    refine zr_iload hk_136 rw_136_128 rfl ?_
    refine zi_const hk_136 rw_136_129 (c := 10) rfl ?_
    refine zi_icmp_ge hk_136 rw_136_130 (by unfold inR; omega) (by unfold inR; omega) (fun h130 => by omega) (fun h130 => ?_)
    refine zr_aload hk_136 rw_136_131 rfl ?_
    refine zr_iload hk_136 rw_136_132 rfl ?_
    refine c_isOpenN hk_136 hB rw_136_133 (k) (by omega) (by omega) (Nat.le_of_ble_eq_true rfl) (fun h133c => ?_) (fun h133c => ?_)
    · refine zi_if_eq hk_136 rw_136_134 (by unfold inR; omega) (fun h => absurd h (by decide)) (fun _ => ?_)
      refine zr_aload hk_136 rw_136_135 rfl ?_
      refine zr_iload hk_136 rw_136_136 rfl ?_
      refine zi_const hk_136 rw_136_137 (c := 2) rfl ?_
      refine c_of hk_136 hB rw_136_138 (21 * k + 2) (by omega) (by omega) (Nat.le_of_ble_eq_true rfl) ?_
      refine zr_iload hk_136 rw_136_139 rfl ?_
      refine zo_icmp_ne hk_136 rw_136_140 (fun h140 => ?_) (fun h140 => ?_)
      · refine zi_inc hk_136 rw_136_146 rfl rfl inc_1 (lv' := [some (.ref 75), some (.int (iv ((c : Int)))), some (.int (iv ((e : Int)))), some (.int (m)), some (.int (n)), some (.int (iv ((k : Int) + 1)))]) rfl ?_
        refine zr_goto hk_136 rw_136_147 ?_
        exact ih (k + 1) _ (by omega) (hL.skip (fun y => h140 ((hL.pa (by omega)).trans y.2)))
      · refine zr_aload hk_136 rw_136_141 rfl ?_
        refine zr_iload hk_136 rw_136_142 rfl ?_
        refine zi_const hk_136 rw_136_143 (c := 2) rfl ?_
        refine zr_iload hk_136 rw_136_144 rfl ?_
        refine c_put hk_136 hB rw_136_145 (21 * k + 2) (by omega) (by omega) (Nat.le_of_ble_eq_true rfl) ?_
        refine zi_inc hk_136 rw_136_146 rfl rfl inc_1 (lv' := [some (.ref 75), some (.int (iv ((c : Int)))), some (.int (iv ((e : Int)))), some (.int (m)), some (.int (n)), some (.int (iv ((k : Int) + 1)))]) rfl ?_
        refine zr_goto hk_136 rw_136_147 ?_
        exact ih (k + 1) _ (by omega) (hL.put ⟨(hL.op (by omega)).symm.trans h133c, (hL.pa (by omega)).symm.trans h140⟩ (by omega))
    · refine zi_if_eq hk_136 rw_136_134 (by unfold inR; omega) (fun _ => ?_) (fun h => absurd h (by decide))
      refine zi_inc hk_136 rw_136_146 rfl rfl inc_1 (lv' := [some (.ref 75), some (.int (iv ((c : Int)))), some (.int (iv ((e : Int)))), some (.int (m)), some (.int (n)), some (.int (iv ((k : Int) + 1)))]) rfl ?_
      refine zr_goto hk_136 rw_136_147 ?_
      exact ih (k + 1) _ (by omega) (hL.skip (fun y => h133c ((hL.op (by omega)).trans y.1)))
theorem mn16_sum {m n : Int} (h0 : 0 ≤ m) (h1 : m ≤ 16) (h2 : 0 ≤ n) (h3 : n ≤ 16) : ∃ g : Int, mn (iv 16) (iv (m + n)) = iv g ∧ 0 ≤ g ∧ g ≤ 16 := by
  unfold mn
  by_cases h : iv (m + n) ≤ iv 16
  · rw [if_pos h]
    exact ⟨m + n, rfl, by omega, (iv_le (by unfold inR; omega) (by unfold inR; omega)).mp h⟩
  · rw [if_neg h]
    exact ⟨16, rfl, by omega, by omega⟩
theorem mnd_ne {m n : Int} (h0 : 0 ≤ m) (h1 : m ≤ 16) (h2 : 0 < n) (h3 : n ≤ 16) : ¬ iv (m + n) = 0 := by
  intro h
  have := (iv_eq (a := m + n) (b := 0) (by unfold inR; omega) (by unfold inR; omega)).mp h
  omega
set_option maxHeartbeats 1000000 in
theorem closes_ok (d : Nat) (hB : 87 ≤ B.length) {c e : Nat} (hc : c < 10) (he : e < 10) (hco : CoOK p) : ZC (d + 2) 136 [.ref 75, .int (iv (c : Int)), .int (iv (e : Int))] (mh B p a z) (fun v ph' => ∃ q s, ph' = mh B q a z ∧ v = none ∧ Soft p s ∧ Cls s q c e) := by
  have hsa : ∀ q, Soft p q → ∀ b, b < 10 → rg q (21 * b + 10) 0 16 := fun q S b hb => (S.2 b hb).2.2.2.2.1 (hco b hb).2.2.1
  have SS := Soft.rfl' p
  refine ZC.of (lv := [some (.ref 75), some (.int (iv ((c : Int)))), some (.int (iv ((e : Int))))]) hk_136 (fun i v hv => ?_) ?_
  · match i, hv with
    | 0, hv => cases hv; rfl
    | 1, hv => cases hv; rfl
    | 2, hv => cases hv; rfl
    | i + 3, hv => simp at hv
  refine zr_aload hk_136 rw_136_0 rfl ?_
  refine zr_iload hk_136 rw_136_1 rfl ?_
  refine zi_const hk_136 rw_136_2 (c := 5) rfl ?_
  refine zi_const hk_136 rw_136_3 (c := 1024) rfl ?_
  refine zr_aload hk_136 rw_136_4 rfl ?_
  refine zr_iload hk_136 rw_136_5 rfl ?_
  refine zi_const hk_136 rw_136_6 (c := 5) rfl ?_
  refine c_of hk_136 hB rw_136_7 (21 * e + 5) (by omega) (by omega) (Nat.le_of_ble_eq_true rfl) ?_
  refine zr_aload hk_136 rw_136_8 rfl ?_
  refine zr_iload hk_136 rw_136_9 rfl ?_
  refine zi_const hk_136 rw_136_10 (c := 5) rfl ?_
  refine c_of hk_136 hB rw_136_11 (21 * c + 5) (by omega) (by omega) (Nat.le_of_ble_eq_true rfl) ?_
  refine zr_iadd hk_136 rw_136_12 ?_
  refine c_least hk_136 hB rw_136_13 (Nat.le_of_ble_eq_true rfl) ?_
  refine c_putS hk_136 hB rw_136_14 e 5 rfl rfl (by omega) (by decide) (by decide) (fun e => absurd e (by decide)) (fun e => absurd e (by decide)) (Nat.le_of_ble_eq_true rfl) (fun q S => ?_)
  have SS := SS.trans S
  refine zr_aload hk_136 rw_136_15 rfl ?_
  refine zr_iload hk_136 rw_136_16 rfl ?_
  refine zi_const hk_136 rw_136_17 (c := 4) rfl ?_
  refine zi_const hk_136 rw_136_18 (c := 9999) rfl ?_
  refine zr_aload hk_136 rw_136_19 rfl ?_
  refine zr_iload hk_136 rw_136_20 rfl ?_
  refine zi_const hk_136 rw_136_21 (c := 4) rfl ?_
  refine c_of hk_136 hB rw_136_22 (21 * e + 4) (by omega) (by omega) (Nat.le_of_ble_eq_true rfl) ?_
  refine zr_aload hk_136 rw_136_23 rfl ?_
  refine zr_iload hk_136 rw_136_24 rfl ?_
  refine zi_const hk_136 rw_136_25 (c := 4) rfl ?_
  refine c_of hk_136 hB rw_136_26 (21 * c + 4) (by omega) (by omega) (Nat.le_of_ble_eq_true rfl) ?_
  refine zr_iadd hk_136 rw_136_27 ?_
  refine c_least hk_136 hB rw_136_28 (Nat.le_of_ble_eq_true rfl) ?_
  refine c_putS hk_136 hB rw_136_29 e 4 rfl rfl (by omega) (by decide) (by decide) (fun e => absurd e (by decide)) (fun e => absurd e (by decide)) (Nat.le_of_ble_eq_true rfl) (fun q S => ?_)
  have SS := SS.trans S
  refine zr_aload hk_136 rw_136_30 rfl ?_
  refine zr_iload hk_136 rw_136_31 rfl ?_
  refine zi_const hk_136 rw_136_32 (c := 12) rfl ?_
  refine zr_aload hk_136 rw_136_33 rfl ?_
  refine zr_iload hk_136 rw_136_34 rfl ?_
  refine zi_const hk_136 rw_136_35 (c := 12) rfl ?_
  refine c_of hk_136 hB rw_136_36 (21 * e + 12) (by omega) (by omega) (Nat.le_of_ble_eq_true rfl) ?_
  refine zr_aload hk_136 rw_136_37 rfl ?_
  refine zr_iload hk_136 rw_136_38 rfl ?_
  refine zi_const hk_136 rw_136_39 (c := 12) rfl ?_
  refine c_of hk_136 hB rw_136_40 (21 * c + 12) (by omega) (by omega) (Nat.le_of_ble_eq_true rfl) ?_
  refine c_most hk_136 hB rw_136_41 (Nat.le_of_ble_eq_true rfl) ?_
  refine c_putS hk_136 hB rw_136_42 e 12 rfl rfl (by omega) (by decide) (by decide) (fun e => absurd e (by decide)) (fun e => absurd e (by decide)) (Nat.le_of_ble_eq_true rfl) (fun q S => ?_)
  have SS := SS.trans S
  refine zr_aload hk_136 rw_136_43 rfl ?_
  refine zr_iload hk_136 rw_136_44 rfl ?_
  refine zi_const hk_136 rw_136_45 (c := 10) rfl ?_
  obtain ⟨m, hm1, hm2, hm3⟩ := hsa _ SS e (by omega)
  refine c_ofE hk_136 hB rw_136_46 (21 * e + 10) (by omega) (by omega) hm1 (Nat.le_of_ble_eq_true rfl) ?_
  refine zi_istore hk_136 rw_136_47 rfl (lv' := [some (.ref 75), some (.int (iv ((c : Int)))), some (.int (iv ((e : Int)))), some (.int (iv (m)))]) rfl ?_
  refine zr_aload hk_136 rw_136_48 rfl ?_
  refine zr_iload hk_136 rw_136_49 rfl ?_
  refine zi_const hk_136 rw_136_50 (c := 10) rfl ?_
  obtain ⟨n, hn1, hn2, hn3⟩ := hsa _ SS c (by omega)
  refine c_ofE hk_136 hB rw_136_51 (21 * c + 10) (by omega) (by omega) hn1 (Nat.le_of_ble_eq_true rfl) ?_
  refine zi_istore hk_136 rw_136_52 rfl (lv' := [some (.ref 75), some (.int (iv ((c : Int)))), some (.int (iv ((e : Int)))), some (.int (iv (m))), some (.int (iv (n)))]) rfl ?_
  refine zr_iload hk_136 rw_136_53 rfl ?_
  refine zi_if_le hk_136 rw_136_54 (by first | assumption | (unfold inR; omega)) (fun h54 => ?_) (fun h54 => ?_)
  · refine zi_const hk_136 rw_136_125 (c := 0) rfl ?_
    refine zi_istore hk_136 rw_136_126 rfl (lv' := [some (.ref 75), some (.int (iv ((c : Int)))), some (.int (iv ((e : Int)))), some (.int (iv (m))), some (.int (iv (n))), some (.int (iv (0)))]) rfl ?_
    exact cl_loop hB hc he SS 10 0 _ (by omega) ⟨fun _ _ => rfl, fun b hb => ⟨fun y => absurd y.1 (Nat.not_lt_zero _), fun _ => rfl⟩⟩
  · refine zr_aload hk_136 rw_136_55 rfl ?_
    refine zr_iload hk_136 rw_136_56 rfl ?_
    refine zi_const hk_136 rw_136_57 (c := 8) rfl ?_
    refine zr_iload hk_136 rw_136_58 rfl ?_
    refine zi_if_ne hk_136 rw_136_59 (by first | assumption | (unfold inR; omega)) (fun h59 => ?_) (fun h59 => ?_)
    · refine zr_iload hk_136 rw_136_65 rfl ?_
      refine zr_aload hk_136 rw_136_66 rfl ?_
      refine zr_iload hk_136 rw_136_67 rfl ?_
      refine zi_const hk_136 rw_136_68 (c := 8) rfl ?_
      refine c_of hk_136 hB rw_136_69 (21 * e + 8) (by omega) (by omega) (Nat.le_of_ble_eq_true rfl) ?_
      refine zr_imul hk_136 rw_136_70 ?_
      refine zr_iload hk_136 rw_136_71 rfl ?_
      refine zr_aload hk_136 rw_136_72 rfl ?_
      refine zr_iload hk_136 rw_136_73 rfl ?_
      refine zi_const hk_136 rw_136_74 (c := 8) rfl ?_
      refine c_of hk_136 hB rw_136_75 (21 * c + 8) (by omega) (by omega) (Nat.le_of_ble_eq_true rfl) ?_
      refine zr_imul hk_136 rw_136_76 ?_
      refine zr_iadd hk_136 rw_136_77 ?_
      refine zr_iload hk_136 rw_136_78 rfl ?_
      refine zr_iload hk_136 rw_136_79 rfl ?_
      refine zi_add hk_136 rw_136_80 ?_
      refine zr_idiv hk_136 rw_136_81 (mnd_ne hm2 hm3 h54 hn3) ?_
      refine c_putS hk_136 hB rw_136_82 e 8 rfl rfl (by omega) (by decide) (by decide) (fun e => absurd e (by decide)) (fun e => absurd e (by decide)) (Nat.le_of_ble_eq_true rfl) (fun q S => ?_)
      have SS := SS.trans S
      refine zr_aload hk_136 rw_136_83 rfl ?_
      refine zr_iload hk_136 rw_136_84 rfl ?_
      refine zi_const hk_136 rw_136_85 (c := 9) rfl ?_
      refine zr_iload hk_136 rw_136_86 rfl ?_
      refine zi_if_ne hk_136 rw_136_87 (by first | assumption | (unfold inR; omega)) (fun h87 => ?_) (fun h87 => ?_)
      · refine zr_iload hk_136 rw_136_93 rfl ?_
        refine zr_aload hk_136 rw_136_94 rfl ?_
        refine zr_iload hk_136 rw_136_95 rfl ?_
        refine zi_const hk_136 rw_136_96 (c := 9) rfl ?_
        refine c_of hk_136 hB rw_136_97 (21 * e + 9) (by omega) (by omega) (Nat.le_of_ble_eq_true rfl) ?_
        refine zr_imul hk_136 rw_136_98 ?_
        refine zr_iload hk_136 rw_136_99 rfl ?_
        refine zr_aload hk_136 rw_136_100 rfl ?_
        refine zr_iload hk_136 rw_136_101 rfl ?_
        refine zi_const hk_136 rw_136_102 (c := 9) rfl ?_
        refine c_of hk_136 hB rw_136_103 (21 * c + 9) (by omega) (by omega) (Nat.le_of_ble_eq_true rfl) ?_
        refine zr_imul hk_136 rw_136_104 ?_
        refine zr_iadd hk_136 rw_136_105 ?_
        refine zr_iload hk_136 rw_136_106 rfl ?_
        refine zr_iload hk_136 rw_136_107 rfl ?_
        refine zi_add hk_136 rw_136_108 ?_
        refine zr_idiv hk_136 rw_136_109 (mnd_ne hm2 hm3 h54 hn3) ?_
        refine c_putS hk_136 hB rw_136_110 e 9 rfl rfl (by omega) (by decide) (by decide) (fun e => absurd e (by decide)) (fun e => absurd e (by decide)) (Nat.le_of_ble_eq_true rfl) (fun q S => ?_)
        have SS := SS.trans S
        refine zr_aload hk_136 rw_136_111 rfl ?_
        refine zr_iload hk_136 rw_136_112 rfl ?_
        refine zi_const hk_136 rw_136_113 (c := 10) rfl ?_
        refine zi_const hk_136 rw_136_114 (c := 16) rfl ?_
        refine zr_iload hk_136 rw_136_115 rfl ?_
        refine zr_iload hk_136 rw_136_116 rfl ?_
        refine zi_add hk_136 rw_136_117 ?_
        refine c_least hk_136 hB rw_136_118 (Nat.le_of_ble_eq_true rfl) ?_
        refine c_putS hk_136 hB rw_136_119 e 10 rfl rfl (by omega) (by decide) (by decide) (fun _ => mn16_sum hm2 hm3 hn2 hn3) (fun e => absurd e (by decide)) (Nat.le_of_ble_eq_true rfl) (fun q S => ?_)
        have SS := SS.trans S
        refine zr_aload hk_136 rw_136_120 rfl ?_
        refine zr_iload hk_136 rw_136_121 rfl ?_
        refine zi_const hk_136 rw_136_122 (c := 7) rfl ?_
        refine zi_const hk_136 rw_136_123 (c := 1) rfl ?_
        refine c_putS hk_136 hB rw_136_124 e 7 rfl rfl (by omega) (by decide) (by decide) (fun e => absurd e (by decide)) (fun e => absurd e (by decide)) (Nat.le_of_ble_eq_true rfl) (fun q S => ?_)
        have SS := SS.trans S
        refine zi_const hk_136 rw_136_125 (c := 0) rfl ?_
        refine zi_istore hk_136 rw_136_126 rfl (lv' := [some (.ref 75), some (.int (iv ((c : Int)))), some (.int (iv ((e : Int)))), some (.int (iv (m))), some (.int (iv (n))), some (.int (iv (0)))]) rfl ?_
        exact cl_loop hB hc he SS 10 0 _ (by omega) ⟨fun _ _ => rfl, fun b hb => ⟨fun y => absurd y.1 (Nat.not_lt_zero _), fun _ => rfl⟩⟩
      · refine zr_aload hk_136 rw_136_88 rfl ?_
        refine zr_iload hk_136 rw_136_89 rfl ?_
        refine zi_const hk_136 rw_136_90 (c := 9) rfl ?_
        refine c_of hk_136 hB rw_136_91 (21 * c + 9) (by omega) (by omega) (Nat.le_of_ble_eq_true rfl) ?_
        refine zr_goto hk_136 rw_136_92 ?_
        refine c_putS hk_136 hB rw_136_110 e 9 rfl rfl (by omega) (by decide) (by decide) (fun e => absurd e (by decide)) (fun e => absurd e (by decide)) (Nat.le_of_ble_eq_true rfl) (fun q S => ?_)
        have SS := SS.trans S
        refine zr_aload hk_136 rw_136_111 rfl ?_
        refine zr_iload hk_136 rw_136_112 rfl ?_
        refine zi_const hk_136 rw_136_113 (c := 10) rfl ?_
        refine zi_const hk_136 rw_136_114 (c := 16) rfl ?_
        refine zr_iload hk_136 rw_136_115 rfl ?_
        refine zr_iload hk_136 rw_136_116 rfl ?_
        refine zi_add hk_136 rw_136_117 ?_
        refine c_least hk_136 hB rw_136_118 (Nat.le_of_ble_eq_true rfl) ?_
        refine c_putS hk_136 hB rw_136_119 e 10 rfl rfl (by omega) (by decide) (by decide) (fun _ => mn16_sum hm2 hm3 hn2 hn3) (fun e => absurd e (by decide)) (Nat.le_of_ble_eq_true rfl) (fun q S => ?_)
        have SS := SS.trans S
        refine zr_aload hk_136 rw_136_120 rfl ?_
        refine zr_iload hk_136 rw_136_121 rfl ?_
        refine zi_const hk_136 rw_136_122 (c := 7) rfl ?_
        refine zi_const hk_136 rw_136_123 (c := 1) rfl ?_
        refine c_putS hk_136 hB rw_136_124 e 7 rfl rfl (by omega) (by decide) (by decide) (fun e => absurd e (by decide)) (fun e => absurd e (by decide)) (Nat.le_of_ble_eq_true rfl) (fun q S => ?_)
        have SS := SS.trans S
        refine zi_const hk_136 rw_136_125 (c := 0) rfl ?_
        refine zi_istore hk_136 rw_136_126 rfl (lv' := [some (.ref 75), some (.int (iv ((c : Int)))), some (.int (iv ((e : Int)))), some (.int (iv (m))), some (.int (iv (n))), some (.int (iv (0)))]) rfl ?_
        exact cl_loop hB hc he SS 10 0 _ (by omega) ⟨fun _ _ => rfl, fun b hb => ⟨fun y => absurd y.1 (Nat.not_lt_zero _), fun _ => rfl⟩⟩
    · refine zr_aload hk_136 rw_136_60 rfl ?_
      refine zr_iload hk_136 rw_136_61 rfl ?_
      refine zi_const hk_136 rw_136_62 (c := 8) rfl ?_
      refine c_of hk_136 hB rw_136_63 (21 * c + 8) (by omega) (by omega) (Nat.le_of_ble_eq_true rfl) ?_
      refine zr_goto hk_136 rw_136_64 ?_
      refine c_putS hk_136 hB rw_136_82 e 8 rfl rfl (by omega) (by decide) (by decide) (fun e => absurd e (by decide)) (fun e => absurd e (by decide)) (Nat.le_of_ble_eq_true rfl) (fun q S => ?_)
      have SS := SS.trans S
      refine zr_aload hk_136 rw_136_83 rfl ?_
      refine zr_iload hk_136 rw_136_84 rfl ?_
      refine zi_const hk_136 rw_136_85 (c := 9) rfl ?_
      refine zr_iload hk_136 rw_136_86 rfl ?_
      refine zi_if_ne hk_136 rw_136_87 (by first | assumption | (unfold inR; omega)) (fun h87 => ?_) (fun h87 => ?_)
      · refine zr_iload hk_136 rw_136_93 rfl ?_
        refine zr_aload hk_136 rw_136_94 rfl ?_
        refine zr_iload hk_136 rw_136_95 rfl ?_
        refine zi_const hk_136 rw_136_96 (c := 9) rfl ?_
        refine c_of hk_136 hB rw_136_97 (21 * e + 9) (by omega) (by omega) (Nat.le_of_ble_eq_true rfl) ?_
        refine zr_imul hk_136 rw_136_98 ?_
        refine zr_iload hk_136 rw_136_99 rfl ?_
        refine zr_aload hk_136 rw_136_100 rfl ?_
        refine zr_iload hk_136 rw_136_101 rfl ?_
        refine zi_const hk_136 rw_136_102 (c := 9) rfl ?_
        refine c_of hk_136 hB rw_136_103 (21 * c + 9) (by omega) (by omega) (Nat.le_of_ble_eq_true rfl) ?_
        refine zr_imul hk_136 rw_136_104 ?_
        refine zr_iadd hk_136 rw_136_105 ?_
        refine zr_iload hk_136 rw_136_106 rfl ?_
        refine zr_iload hk_136 rw_136_107 rfl ?_
        refine zi_add hk_136 rw_136_108 ?_
        refine zr_idiv hk_136 rw_136_109 (mnd_ne hm2 hm3 h54 hn3) ?_
        refine c_putS hk_136 hB rw_136_110 e 9 rfl rfl (by omega) (by decide) (by decide) (fun e => absurd e (by decide)) (fun e => absurd e (by decide)) (Nat.le_of_ble_eq_true rfl) (fun q S => ?_)
        have SS := SS.trans S
        refine zr_aload hk_136 rw_136_111 rfl ?_
        refine zr_iload hk_136 rw_136_112 rfl ?_
        refine zi_const hk_136 rw_136_113 (c := 10) rfl ?_
        refine zi_const hk_136 rw_136_114 (c := 16) rfl ?_
        refine zr_iload hk_136 rw_136_115 rfl ?_
        refine zr_iload hk_136 rw_136_116 rfl ?_
        refine zi_add hk_136 rw_136_117 ?_
        refine c_least hk_136 hB rw_136_118 (Nat.le_of_ble_eq_true rfl) ?_
        refine c_putS hk_136 hB rw_136_119 e 10 rfl rfl (by omega) (by decide) (by decide) (fun _ => mn16_sum hm2 hm3 hn2 hn3) (fun e => absurd e (by decide)) (Nat.le_of_ble_eq_true rfl) (fun q S => ?_)
        have SS := SS.trans S
        refine zr_aload hk_136 rw_136_120 rfl ?_
        refine zr_iload hk_136 rw_136_121 rfl ?_
        refine zi_const hk_136 rw_136_122 (c := 7) rfl ?_
        refine zi_const hk_136 rw_136_123 (c := 1) rfl ?_
        refine c_putS hk_136 hB rw_136_124 e 7 rfl rfl (by omega) (by decide) (by decide) (fun e => absurd e (by decide)) (fun e => absurd e (by decide)) (Nat.le_of_ble_eq_true rfl) (fun q S => ?_)
        have SS := SS.trans S
        refine zi_const hk_136 rw_136_125 (c := 0) rfl ?_
        refine zi_istore hk_136 rw_136_126 rfl (lv' := [some (.ref 75), some (.int (iv ((c : Int)))), some (.int (iv ((e : Int)))), some (.int (iv (m))), some (.int (iv (n))), some (.int (iv (0)))]) rfl ?_
        exact cl_loop hB hc he SS 10 0 _ (by omega) ⟨fun _ _ => rfl, fun b hb => ⟨fun y => absurd y.1 (Nat.not_lt_zero _), fun _ => rfl⟩⟩
      · refine zr_aload hk_136 rw_136_88 rfl ?_
        refine zr_iload hk_136 rw_136_89 rfl ?_
        refine zi_const hk_136 rw_136_90 (c := 9) rfl ?_
        refine c_of hk_136 hB rw_136_91 (21 * c + 9) (by omega) (by omega) (Nat.le_of_ble_eq_true rfl) ?_
        refine zr_goto hk_136 rw_136_92 ?_
        refine c_putS hk_136 hB rw_136_110 e 9 rfl rfl (by omega) (by decide) (by decide) (fun e => absurd e (by decide)) (fun e => absurd e (by decide)) (Nat.le_of_ble_eq_true rfl) (fun q S => ?_)
        have SS := SS.trans S
        refine zr_aload hk_136 rw_136_111 rfl ?_
        refine zr_iload hk_136 rw_136_112 rfl ?_
        refine zi_const hk_136 rw_136_113 (c := 10) rfl ?_
        refine zi_const hk_136 rw_136_114 (c := 16) rfl ?_
        refine zr_iload hk_136 rw_136_115 rfl ?_
        refine zr_iload hk_136 rw_136_116 rfl ?_
        refine zi_add hk_136 rw_136_117 ?_
        refine c_least hk_136 hB rw_136_118 (Nat.le_of_ble_eq_true rfl) ?_
        refine c_putS hk_136 hB rw_136_119 e 10 rfl rfl (by omega) (by decide) (by decide) (fun _ => mn16_sum hm2 hm3 hn2 hn3) (fun e => absurd e (by decide)) (Nat.le_of_ble_eq_true rfl) (fun q S => ?_)
        have SS := SS.trans S
        refine zr_aload hk_136 rw_136_120 rfl ?_
        refine zr_iload hk_136 rw_136_121 rfl ?_
        refine zi_const hk_136 rw_136_122 (c := 7) rfl ?_
        refine zi_const hk_136 rw_136_123 (c := 1) rfl ?_
        refine c_putS hk_136 hB rw_136_124 e 7 rfl rfl (by omega) (by decide) (by decide) (fun e => absurd e (by decide)) (fun e => absurd e (by decide)) (Nat.le_of_ble_eq_true rfl) (fun q S => ?_)
        have SS := SS.trans S
        refine zi_const hk_136 rw_136_125 (c := 0) rfl ?_
        refine zi_istore hk_136 rw_136_126 rfl (lv' := [some (.ref 75), some (.int (iv ((c : Int)))), some (.int (iv ((e : Int)))), some (.int (iv (m))), some (.int (iv (n))), some (.int (iv (0)))]) rfl ?_
        exact cl_loop hB hc he SS 10 0 _ (by omega) ⟨fun _ _ => rfl, fun b hb => ⟨fun y => absurd y.1 (Nat.not_lt_zero _), fun _ => rfl⟩⟩
theorem c_closes (hk : k < 186) (hB : 87 ≤ B.length) {pc b x ix : Nat} {ts : List Nat} {c e : Nat} (hrow : (codeOf k)[j]? = some (pc, .invokevirtual ix, 136, b, x, 3, ts)) (hc : c < 10) (he : e < 10) (hco : CoOK p) (hcat : catS st ≤ 8) (h : ∀ q s : Nat → Int32, Soft p s → Cls s q c e → ZR (d + 3) k (j + 1) lv st (mh B q a z) Q) : ZR (d + 3) k j lv (.int (iv (e : Int)) :: .int (iv (c : Int)) :: .ref 75 :: st) (mh B p a z) Q := by
  refine mz_call (L := 6) (n := 2) (as := [.int (iv (c : Int)), .int (iv (e : Int))]) (r := st) hk hB hrow (by decide) (by decide) ⟨rfl, rfl, rfl, rfl⟩ rfl rfl hcat (Nat.le_of_ble_eq_true rfl) (closes_ok d hB hc he hco) ?_
  rintro w ph' ⟨q, s, rfl, rfl, h1, h2⟩
  exact h q s h1 h2
end MO

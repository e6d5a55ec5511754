/-! ===== by program (wip/gen/m73.py): an amount is divided ===== -/
theorem kc162_eq : codeOf 162 = kc162 := rfl
theorem hk_162 : 162 < 186 := by decide
theorem rw_162_0 : (codeOf 162)[0]? = some (0, .iconst 1, 2147483649, 0, 0, 1, []) := by rw [kc162_eq]; rfl
theorem rw_162_1 : (codeOf 162)[1]? = some (1, .istore 2, 2, 0, 0, 1, []) := by rw [kc162_eq]; rfl
theorem rw_162_2 : (codeOf 162)[2]? = some (2, .aload 0, 0, 0, 3, 1, []) := by rw [kc162_eq]; rfl
theorem rw_162_3 : (codeOf 162)[3]? = some (3, .getfield 38, 9, 12, 3, 3, []) := by rw [kc162_eq]; rfl
theorem rw_162_4 : (codeOf 162)[4]? = some (6, .iconst 0, 2147483648, 0, 0, 1, []) := by rw [kc162_eq]; rfl
theorem rw_162_5 : (codeOf 162)[5]? = some (7, .iload 1, 1, 0, 0, 1, []) := by rw [kc162_eq]; rfl
theorem rw_162_6 : (codeOf 162)[6]? = some (8, .iastore, 0, 0, 0, 1, []) := by rw [kc162_eq]; rfl
theorem rw_162_7 : (codeOf 162)[7]? = some (9, .aload 0, 0, 0, 3, 1, []) := by rw [kc162_eq]; rfl
theorem rw_162_8 : (codeOf 162)[8]? = some (10, .iload 1, 1, 0, 0, 1, []) := by rw [kc162_eq]; rfl
theorem rw_162_9 : (codeOf 162)[9]? = some (11, .iconst 3, 2147483651, 0, 0, 1, []) := by rw [kc162_eq]; rfl
theorem rw_162_10 : (codeOf 162)[10]? = some (12, .invokevirtual 62, 130, 0, 0, 3, []) := by rw [kc162_eq]; rfl
theorem rw_162_11 : (codeOf 162)[11]? = some (15, .istore 3, 3, 0, 0, 1, []) := by rw [kc162_eq]; rfl
theorem rw_162_12 : (codeOf 162)[12]? = some (16, .iconst 0, 2147483648, 0, 0, 1, []) := by rw [kc162_eq]; rfl
theorem rw_162_13 : (codeOf 162)[13]? = some (17, .istore 4, 4, 0, 0, 2, []) := by rw [kc162_eq]; rfl
theorem rw_162_14 : (codeOf 162)[14]? = some (19, .monitorexit, 1296, 0, 0, 0, []) := by rw [kc162_eq]; rfl
theorem rw_162_15 : (codeOf 162)[15]? = some (19, .iload 4, 4, 0, 0, 2, []) := by rw [kc162_eq]; rfl
theorem rw_162_16 : (codeOf 162)[16]? = some (21, .iconst 10, 2147483658, 0, 0, 2, []) := by rw [kc162_eq]; rfl
theorem rw_162_17 : (codeOf 162)[17]? = some (23, .if_icmp .ge 50, 73, 43, 0, 3, []) := by rw [kc162_eq]; rfl
theorem rw_162_18 : (codeOf 162)[18]? = some (26, .aload 0, 0, 0, 3, 1, []) := by rw [kc162_eq]; rfl
theorem rw_162_19 : (codeOf 162)[19]? = some (27, .iload 4, 4, 0, 0, 2, []) := by rw [kc162_eq]; rfl
theorem rw_162_20 : (codeOf 162)[20]? = some (29, .invokevirtual 92, 133, 0, 0, 3, []) := by rw [kc162_eq]; rfl
theorem rw_162_21 : (codeOf 162)[21]? = some (32, .ifCond .eq 35, 67, 41, 0, 3, []) := by rw [kc162_eq]; rfl
theorem rw_162_22 : (codeOf 162)[22]? = some (35, .aload 0, 0, 0, 3, 1, []) := by rw [kc162_eq]; rfl
theorem rw_162_23 : (codeOf 162)[23]? = some (36, .iload 4, 4, 0, 0, 2, []) := by rw [kc162_eq]; rfl
theorem rw_162_24 : (codeOf 162)[24]? = some (38, .iconst 2, 2147483650, 0, 0, 1, []) := by rw [kc162_eq]; rfl
theorem rw_162_25 : (codeOf 162)[25]? = some (39, .invokevirtual 62, 130, 0, 0, 3, []) := by rw [kc162_eq]; rfl
theorem rw_162_26 : (codeOf 162)[26]? = some (42, .iload 1, 1, 0, 0, 1, []) := by rw [kc162_eq]; rfl
theorem rw_162_27 : (codeOf 162)[27]? = some (43, .if_icmp .ne 24, 67, 41, 0, 3, []) := by rw [kc162_eq]; rfl
theorem rw_162_28 : (codeOf 162)[28]? = some (46, .aload 0, 0, 0, 3, 1, []) := by rw [kc162_eq]; rfl
theorem rw_162_29 : (codeOf 162)[29]? = some (47, .getfield 38, 9, 12, 3, 3, []) := by rw [kc162_eq]; rfl
theorem rw_162_30 : (codeOf 162)[30]? = some (50, .iload 2, 2, 0, 0, 1, []) := by rw [kc162_eq]; rfl
theorem rw_162_31 : (codeOf 162)[31]? = some (51, .iload 4, 4, 0, 0, 2, []) := by rw [kc162_eq]; rfl
theorem rw_162_32 : (codeOf 162)[32]? = some (53, .iastore, 0, 0, 0, 1, []) := by rw [kc162_eq]; rfl
theorem rw_162_33 : (codeOf 162)[33]? = some (54, .iinc 2 1, 2, 1, 0, 3, []) := by rw [kc162_eq]; rfl
theorem rw_162_34 : (codeOf 162)[34]? = some (57, .iload 3, 3, 0, 0, 1, []) := by rw [kc162_eq]; rfl
theorem rw_162_35 : (codeOf 162)[35]? = some (58, .aload 0, 0, 0, 3, 1, []) := by rw [kc162_eq]; rfl
theorem rw_162_36 : (codeOf 162)[36]? = some (59, .iload 4, 4, 0, 0, 2, []) := by rw [kc162_eq]; rfl
theorem rw_162_37 : (codeOf 162)[37]? = some (61, .iconst 3, 2147483651, 0, 0, 1, []) := by rw [kc162_eq]; rfl
theorem rw_162_38 : (codeOf 162)[38]? = some (62, .invokevirtual 62, 130, 0, 0, 3, []) := by rw [kc162_eq]; rfl
theorem rw_162_39 : (codeOf 162)[39]? = some (65, .iadd, 0, 0, 0, 1, []) := by rw [kc162_eq]; rfl
theorem rw_162_40 : (codeOf 162)[40]? = some (66, .istore 3, 3, 0, 0, 1, []) := by rw [kc162_eq]; rfl
theorem rw_162_41 : (codeOf 162)[41]? = some (67, .iinc 4 1, 4, 1, 0, 3, []) := by rw [kc162_eq]; rfl
theorem rw_162_42 : (codeOf 162)[42]? = some (70, .goto (-51), 19, 14, 0, 3, []) := by rw [kc162_eq]; rfl
theorem rw_162_43 : (codeOf 162)[43]? = some (73, .aload 0, 0, 0, 3, 1, []) := by rw [kc162_eq]; rfl
theorem rw_162_44 : (codeOf 162)[44]? = some (74, .getfield 29, 9, 9, 3, 3, []) := by rw [kc162_eq]; rfl
theorem rw_162_45 : (codeOf 162)[45]? = some (77, .iload 1, 1, 0, 0, 1, []) := by rw [kc162_eq]; rfl
theorem rw_162_46 : (codeOf 162)[46]? = some (78, .iaload, 0, 0, 0, 1, []) := by rw [kc162_eq]; rfl
theorem rw_162_47 : (codeOf 162)[47]? = some (79, .istore 4, 4, 0, 0, 2, []) := by rw [kc162_eq]; rfl
theorem rw_162_48 : (codeOf 162)[48]? = some (81, .iconst 0, 2147483648, 0, 0, 1, []) := by rw [kc162_eq]; rfl
theorem rw_162_49 : (codeOf 162)[49]? = some (82, .istore 5, 5, 0, 0, 2, []) := by rw [kc162_eq]; rfl
theorem rw_162_50 : (codeOf 162)[50]? = some (84, .monitorexit, 1297, 0, 0, 0, []) := by rw [kc162_eq]; rfl
theorem rw_162_51 : (codeOf 162)[51]? = some (84, .iload 5, 5, 0, 0, 2, []) := by rw [kc162_eq]; rfl
theorem rw_162_52 : (codeOf 162)[52]? = some (86, .iload 2, 2, 0, 0, 1, []) := by rw [kc162_eq]; rfl
theorem rw_162_53 : (codeOf 162)[53]? = some (87, .if_icmp .ge 77, 164, 99, 0, 3, []) := by rw [kc162_eq]; rfl
theorem rw_162_54 : (codeOf 162)[54]? = some (90, .aload 0, 0, 0, 3, 1, []) := by rw [kc162_eq]; rfl
theorem rw_162_55 : (codeOf 162)[55]? = some (91, .getfield 41, 9, 13, 3, 3, []) := by rw [kc162_eq]; rfl
theorem rw_162_56 : (codeOf 162)[56]? = some (94, .iload 5, 5, 0, 0, 2, []) := by rw [kc162_eq]; rfl
theorem rw_162_57 : (codeOf 162)[57]? = some (96, .aload 0, 0, 0, 3, 1, []) := by rw [kc162_eq]; rfl
theorem rw_162_58 : (codeOf 162)[58]? = some (97, .getfield 29, 9, 9, 3, 3, []) := by rw [kc162_eq]; rfl
theorem rw_162_59 : (codeOf 162)[59]? = some (100, .iload 1, 1, 0, 0, 1, []) := by rw [kc162_eq]; rfl
theorem rw_162_60 : (codeOf 162)[60]? = some (101, .iaload, 0, 0, 0, 1, []) := by rw [kc162_eq]; rfl
theorem rw_162_61 : (codeOf 162)[61]? = some (102, .aload 0, 0, 0, 3, 1, []) := by rw [kc162_eq]; rfl
theorem rw_162_62 : (codeOf 162)[62]? = some (103, .aload 0, 0, 0, 3, 1, []) := by rw [kc162_eq]; rfl
theorem rw_162_63 : (codeOf 162)[63]? = some (104, .getfield 38, 9, 12, 3, 3, []) := by rw [kc162_eq]; rfl
theorem rw_162_64 : (codeOf 162)[64]? = some (107, .iload 5, 5, 0, 0, 2, []) := by rw [kc162_eq]; rfl
theorem rw_162_65 : (codeOf 162)[65]? = some (109, .iaload, 0, 0, 0, 1, []) := by rw [kc162_eq]; rfl
theorem rw_162_66 : (codeOf 162)[66]? = some (110, .iconst 3, 2147483651, 0, 0, 1, []) := by rw [kc162_eq]; rfl
theorem rw_162_67 : (codeOf 162)[67]? = some (111, .invokevirtual 62, 130, 0, 0, 3, []) := by rw [kc162_eq]; rfl
theorem rw_162_68 : (codeOf 162)[68]? = some (114, .imul, 0, 0, 0, 1, []) := by rw [kc162_eq]; rfl
theorem rw_162_69 : (codeOf 162)[69]? = some (115, .iload 3, 3, 0, 0, 1, []) := by rw [kc162_eq]; rfl
theorem rw_162_70 : (codeOf 162)[70]? = some (116, .idiv, 0, 0, 0, 1, []) := by rw [kc162_eq]; rfl
theorem rw_162_71 : (codeOf 162)[71]? = some (117, .iastore, 0, 0, 0, 1, []) := by rw [kc162_eq]; rfl
theorem rw_162_72 : (codeOf 162)[72]? = some (118, .aload 0, 0, 0, 3, 1, []) := by rw [kc162_eq]; rfl
theorem rw_162_73 : (codeOf 162)[73]? = some (119, .getfield 44, 9, 14, 3, 3, []) := by rw [kc162_eq]; rfl
theorem rw_162_74 : (codeOf 162)[74]? = some (122, .iload 5, 5, 0, 0, 2, []) := by rw [kc162_eq]; rfl
theorem rw_162_75 : (codeOf 162)[75]? = some (124, .aload 0, 0, 0, 3, 1, []) := by rw [kc162_eq]; rfl
theorem rw_162_76 : (codeOf 162)[76]? = some (125, .getfield 29, 9, 9, 3, 3, []) := by rw [kc162_eq]; rfl
theorem rw_162_77 : (codeOf 162)[77]? = some (128, .iload 1, 1, 0, 0, 1, []) := by rw [kc162_eq]; rfl
theorem rw_162_78 : (codeOf 162)[78]? = some (129, .iaload, 0, 0, 0, 1, []) := by rw [kc162_eq]; rfl
theorem rw_162_79 : (codeOf 162)[79]? = some (130, .aload 0, 0, 0, 3, 1, []) := by rw [kc162_eq]; rfl
theorem rw_162_80 : (codeOf 162)[80]? = some (131, .aload 0, 0, 0, 3, 1, []) := by rw [kc162_eq]; rfl
theorem rw_162_81 : (codeOf 162)[81]? = some (132, .getfield 38, 9, 12, 3, 3, []) := by rw [kc162_eq]; rfl
theorem rw_162_82 : (codeOf 162)[82]? = some (135, .iload 5, 5, 0, 0, 2, []) := by rw [kc162_eq]; rfl
theorem rw_162_83 : (codeOf 162)[83]? = some (137, .iaload, 0, 0, 0, 1, []) := by rw [kc162_eq]; rfl
theorem rw_162_84 : (codeOf 162)[84]? = some (138, .iconst 3, 2147483651, 0, 0, 1, []) := by rw [kc162_eq]; rfl
theorem rw_162_85 : (codeOf 162)[85]? = some (139, .invokevirtual 62, 130, 0, 0, 3, []) := by rw [kc162_eq]; rfl
theorem rw_162_86 : (codeOf 162)[86]? = some (142, .imul, 0, 0, 0, 1, []) := by rw [kc162_eq]; rfl
theorem rw_162_87 : (codeOf 162)[87]? = some (143, .iload 3, 3, 0, 0, 1, []) := by rw [kc162_eq]; rfl
theorem rw_162_88 : (codeOf 162)[88]? = some (144, .irem, 0, 0, 0, 1, []) := by rw [kc162_eq]; rfl
theorem rw_162_89 : (codeOf 162)[89]? = some (145, .iastore, 0, 0, 0, 1, []) := by rw [kc162_eq]; rfl
theorem rw_162_90 : (codeOf 162)[90]? = some (146, .iload 4, 4, 0, 0, 2, []) := by rw [kc162_eq]; rfl
theorem rw_162_91 : (codeOf 162)[91]? = some (148, .aload 0, 0, 0, 3, 1, []) := by rw [kc162_eq]; rfl
theorem rw_162_92 : (codeOf 162)[92]? = some (149, .getfield 41, 9, 13, 3, 3, []) := by rw [kc162_eq]; rfl
theorem rw_162_93 : (codeOf 162)[93]? = some (152, .iload 5, 5, 0, 0, 2, []) := by rw [kc162_eq]; rfl
theorem rw_162_94 : (codeOf 162)[94]? = some (154, .iaload, 0, 0, 0, 1, []) := by rw [kc162_eq]; rfl
theorem rw_162_95 : (codeOf 162)[95]? = some (155, .isub, 0, 0, 0, 1, []) := by rw [kc162_eq]; rfl
theorem rw_162_96 : (codeOf 162)[96]? = some (156, .istore 4, 4, 0, 0, 2, []) := by rw [kc162_eq]; rfl
theorem rw_162_97 : (codeOf 162)[97]? = some (158, .iinc 5 1, 5, 1, 0, 3, []) := by rw [kc162_eq]; rfl
theorem rw_162_98 : (codeOf 162)[98]? = some (161, .goto (-77), 84, 50, 0, 3, []) := by rw [kc162_eq]; rfl
theorem rw_162_99 : (codeOf 162)[99]? = some (164, .monitorexit, 1298, 0, 0, 0, []) := by rw [kc162_eq]; rfl
theorem rw_162_100 : (codeOf 162)[100]? = some (164, .iload 4, 4, 0, 0, 2, []) := by rw [kc162_eq]; rfl
theorem rw_162_101 : (codeOf 162)[101]? = some (166, .ifCond .le 72, 238, 140, 0, 3, []) := by rw [kc162_eq]; rfl
theorem rw_162_102 : (codeOf 162)[102]? = some (169, .iconst 0, 2147483648, 0, 0, 1, []) := by rw [kc162_eq]; rfl
theorem rw_162_103 : (codeOf 162)[103]? = some (170, .istore 5, 5, 0, 0, 2, []) := by rw [kc162_eq]; rfl
theorem rw_162_104 : (codeOf 162)[104]? = some (172, .iconst 1, 2147483649, 0, 0, 1, []) := by rw [kc162_eq]; rfl
theorem rw_162_105 : (codeOf 162)[105]? = some (173, .istore 6, 6, 0, 0, 2, []) := by rw [kc162_eq]; rfl
theorem rw_162_106 : (codeOf 162)[106]? = some (175, .monitorexit, 1299, 0, 0, 0, []) := by rw [kc162_eq]; rfl
theorem rw_162_107 : (codeOf 162)[107]? = some (175, .iload 6, 6, 0, 0, 2, []) := by rw [kc162_eq]; rfl
theorem rw_162_108 : (codeOf 162)[108]? = some (177, .iload 2, 2, 0, 0, 1, []) := by rw [kc162_eq]; rfl
theorem rw_162_109 : (codeOf 162)[109]? = some (178, .if_icmp .ge 35, 213, 125, 0, 3, []) := by rw [kc162_eq]; rfl
theorem rw_162_110 : (codeOf 162)[110]? = some (181, .aload 0, 0, 0, 3, 1, []) := by rw [kc162_eq]; rfl
theorem rw_162_111 : (codeOf 162)[111]? = some (182, .getfield 44, 9, 14, 3, 3, []) := by rw [kc162_eq]; rfl
theorem rw_162_112 : (codeOf 162)[112]? = some (185, .iload 6, 6, 0, 0, 2, []) := by rw [kc162_eq]; rfl
theorem rw_162_113 : (codeOf 162)[113]? = some (187, .iaload, 0, 0, 0, 1, []) := by rw [kc162_eq]; rfl
theorem rw_162_114 : (codeOf 162)[114]? = some (188, .aload 0, 0, 0, 3, 1, []) := by rw [kc162_eq]; rfl
theorem rw_162_115 : (codeOf 162)[115]? = some (189, .getfield 44, 9, 14, 3, 3, []) := by rw [kc162_eq]; rfl
theorem rw_162_116 : (codeOf 162)[116]? = some (192, .iload 5, 5, 0, 0, 2, []) := by rw [kc162_eq]; rfl
theorem rw_162_117 : (codeOf 162)[117]? = some (194, .iaload, 0, 0, 0, 1, []) := by rw [kc162_eq]; rfl
theorem rw_162_118 : (codeOf 162)[118]? = some (195, .if_icmp .le 8, 203, 121, 0, 3, []) := by rw [kc162_eq]; rfl
theorem rw_162_119 : (codeOf 162)[119]? = some (198, .iload 6, 6, 0, 0, 2, []) := by rw [kc162_eq]; rfl
theorem rw_162_120 : (codeOf 162)[120]? = some (200, .goto 5, 205, 122, 0, 3, []) := by rw [kc162_eq]; rfl
theorem rw_162_121 : (codeOf 162)[121]? = some (203, .iload 5, 5, 0, 0, 2, []) := by rw [kc162_eq]; rfl
theorem rw_162_122 : (codeOf 162)[122]? = some (205, .istore 5, 5, 0, 0, 2, []) := by rw [kc162_eq]; rfl
theorem rw_162_123 : (codeOf 162)[123]? = some (207, .iinc 6 1, 6, 1, 0, 3, []) := by rw [kc162_eq]; rfl
theorem rw_162_124 : (codeOf 162)[124]? = some (210, .goto (-35), 175, 106, 0, 3, []) := by rw [kc162_eq]; rfl
theorem rw_162_125 : (codeOf 162)[125]? = some (213, .aload 0, 0, 0, 3, 1, []) := by rw [kc162_eq]; rfl
theorem rw_162_126 : (codeOf 162)[126]? = some (214, .getfield 41, 9, 13, 3, 3, []) := by rw [kc162_eq]; rfl
theorem rw_162_127 : (codeOf 162)[127]? = some (217, .iload 5, 5, 0, 0, 2, []) := by rw [kc162_eq]; rfl
theorem rw_162_128 : (codeOf 162)[128]? = some (219, .dup2, 0, 0, 0, 1, []) := by rw [kc162_eq]; rfl
theorem rw_162_129 : (codeOf 162)[129]? = some (220, .iaload, 0, 0, 0, 1, []) := by rw [kc162_eq]; rfl
theorem rw_162_130 : (codeOf 162)[130]? = some (221, .iconst 1, 2147483649, 0, 0, 1, []) := by rw [kc162_eq]; rfl
theorem rw_162_131 : (codeOf 162)[131]? = some (222, .iadd, 0, 0, 0, 1, []) := by rw [kc162_eq]; rfl
theorem rw_162_132 : (codeOf 162)[132]? = some (223, .iastore, 0, 0, 0, 1, []) := by rw [kc162_eq]; rfl
theorem rw_162_133 : (codeOf 162)[133]? = some (224, .aload 0, 0, 0, 3, 1, []) := by rw [kc162_eq]; rfl
theorem rw_162_134 : (codeOf 162)[134]? = some (225, .getfield 44, 9, 14, 3, 3, []) := by rw [kc162_eq]; rfl
theorem rw_162_135 : (codeOf 162)[135]? = some (228, .iload 5, 5, 0, 0, 2, []) := by rw [kc162_eq]; rfl
theorem rw_162_136 : (codeOf 162)[136]? = some (230, .iconst (-1), 2147483647, 0, 0, 1, []) := by rw [kc162_eq]; rfl
theorem rw_162_137 : (codeOf 162)[137]? = some (231, .iastore, 0, 0, 0, 1, []) := by rw [kc162_eq]; rfl
theorem rw_162_138 : (codeOf 162)[138]? = some (232, .iinc 4 (-1), 4, 4294967295, 0, 3, []) := by rw [kc162_eq]; rfl
theorem rw_162_139 : (codeOf 162)[139]? = some (235, .goto (-71), 164, 99, 0, 3, []) := by rw [kc162_eq]; rfl
theorem rw_162_140 : (codeOf 162)[140]? = some (238, .aload 0, 0, 0, 3, 1, []) := by rw [kc162_eq]; rfl
theorem rw_162_141 : (codeOf 162)[141]? = some (239, .getfield 32, 9, 10, 3, 3, []) := by rw [kc162_eq]; rfl
theorem rw_162_142 : (codeOf 162)[142]? = some (242, .iload 1, 1, 0, 0, 1, []) := by rw [kc162_eq]; rfl
theorem rw_162_143 : (codeOf 162)[143]? = some (243, .aload 0, 0, 0, 3, 1, []) := by rw [kc162_eq]; rfl
theorem rw_162_144 : (codeOf 162)[144]? = some (244, .getfield 41, 9, 13, 3, 3, []) := by rw [kc162_eq]; rfl
theorem rw_162_145 : (codeOf 162)[145]? = some (247, .iconst 0, 2147483648, 0, 0, 1, []) := by rw [kc162_eq]; rfl
theorem rw_162_146 : (codeOf 162)[146]? = some (248, .iaload, 0, 0, 0, 1, []) := by rw [kc162_eq]; rfl
theorem rw_162_147 : (codeOf 162)[147]? = some (249, .iastore, 0, 0, 0, 1, []) := by rw [kc162_eq]; rfl
theorem rw_162_148 : (codeOf 162)[148]? = some (250, .iconst 1, 2147483649, 0, 0, 1, []) := by rw [kc162_eq]; rfl
theorem rw_162_149 : (codeOf 162)[149]? = some (251, .istore 5, 5, 0, 0, 2, []) := by rw [kc162_eq]; rfl
theorem rw_162_150 : (codeOf 162)[150]? = some (253, .monitorexit, 1300, 0, 0, 0, []) := by rw [kc162_eq]; rfl
theorem rw_162_151 : (codeOf 162)[151]? = some (253, .iload 5, 5, 0, 0, 2, []) := by rw [kc162_eq]; rfl
theorem rw_162_152 : (codeOf 162)[152]? = some (255, .iload 2, 2, 0, 0, 1, []) := by rw [kc162_eq]; rfl
theorem rw_162_153 : (codeOf 162)[153]? = some (256, .if_icmp .ge 28, 284, 167, 0, 3, []) := by rw [kc162_eq]; rfl
theorem rw_162_154 : (codeOf 162)[154]? = some (259, .aload 0, 0, 0, 3, 1, []) := by rw [kc162_eq]; rfl
theorem rw_162_155 : (codeOf 162)[155]? = some (260, .getfield 29, 9, 9, 3, 3, []) := by rw [kc162_eq]; rfl
theorem rw_162_156 : (codeOf 162)[156]? = some (263, .aload 0, 0, 0, 3, 1, []) := by rw [kc162_eq]; rfl
theorem rw_162_157 : (codeOf 162)[157]? = some (264, .getfield 38, 9, 12, 3, 3, []) := by rw [kc162_eq]; rfl
theorem rw_162_158 : (codeOf 162)[158]? = some (267, .iload 5, 5, 0, 0, 2, []) := by rw [kc162_eq]; rfl
theorem rw_162_159 : (codeOf 162)[159]? = some (269, .iaload, 0, 0, 0, 1, []) := by rw [kc162_eq]; rfl
theorem rw_162_160 : (codeOf 162)[160]? = some (270, .aload 0, 0, 0, 3, 1, []) := by rw [kc162_eq]; rfl
theorem rw_162_161 : (codeOf 162)[161]? = some (271, .getfield 41, 9, 13, 3, 3, []) := by rw [kc162_eq]; rfl
theorem rw_162_162 : (codeOf 162)[162]? = some (274, .iload 5, 5, 0, 0, 2, []) := by rw [kc162_eq]; rfl
theorem rw_162_163 : (codeOf 162)[163]? = some (276, .iaload, 0, 0, 0, 1, []) := by rw [kc162_eq]; rfl
theorem rw_162_164 : (codeOf 162)[164]? = some (277, .iastore, 0, 0, 0, 1, []) := by rw [kc162_eq]; rfl
theorem rw_162_165 : (codeOf 162)[165]? = some (278, .iinc 5 1, 5, 1, 0, 3, []) := by rw [kc162_eq]; rfl
theorem rw_162_166 : (codeOf 162)[166]? = some (281, .goto (-28), 253, 150, 0, 3, []) := by rw [kc162_eq]; rfl
theorem rw_162_167 : (codeOf 162)[167]? = some (284, .return_, 0, 0, 0, 1, []) := by rw [kc162_eq]; rfl
section MJ
variable {d k j : Nat} {lv : List (Option Value)} {st : List Value} {ph : PH} {Q : Option Value → PH → Prop} {B : PH} {p : Nat → Int32} {a : Nat → Nat → Int32} {z : Nat → Int32}
theorem mz_astI (jj : Nat) (R : (Nat → Nat → Int32) → Prop) (hk : k < 186) {pc c b x A n : Nat} {f : Nat → Int32} {e : Int} {y : Int32} {ts : List Nat} (hv : (mh B p a z)[A]? = some (.inl (n, f))) (hA : 2 ≤ A) (hrow : (codeOf k)[j]? = some (pc, .iastore, c, b, x, 1, ts)) (i : Nat) (he : e = (i : Int)) (hi : i < n) (hn : n < 20000) (hs : ∀ g, (mh B p a z).set A (.inl (n, g)) = mh B p (ua a jj g) z) (hR : R (ua a jj (upd f i y))) (h : ∀ b, R b → ZR d k (j + 1) lv st (mh B p b z) Q) : ZR d k j lv (.int y :: .int (iv e) :: .ref A :: st) (mh B p a z) Q :=
  mz_ast hk hv hA hrow i he hi hn (hs _) (h _ hR)
theorem ua_ne {a : Nat → Nat → Int32} {i j : Nat} {g : Nat → Int32} (h : i ≠ j) : ua a j g i = a i := by
  unfold ua
  rw [if_neg h]
theorem ua_eq {a : Nat → Nat → Int32} {j : Nat} {g : Nat → Int32} : ua a j g j = g := by
  unfold ua
  rw [if_pos rfl]
/-- the text and what was read of it stay -/
def K4 (a b : Nat → Nat → Int32) : Prop := ∀ i, i ≤ 4 → b i = a i
theorem K4.id (a : Nat → Nat → Int32) : K4 a a := fun _ _ => rfl
theorem K4.trans {a b c : Nat → Nat → Int32} (h1 : K4 a b) (h2 : K4 b c) : K4 a c := fun i hi => (h2 i hi).trans (h1 i hi)
theorem K4.ua {a b : Nat → Nat → Int32} {jj : Nat} {g : Nat → Int32} (h : K4 a b) (hj : 4 < jj) : K4 a (ua b jj g) := fun i hi => (ua_ne (by omega)).trans (h i hi)
/-- while an amount is divided: the line stays, the heirs are connections -/
def DI (l : Nat → Nat → Int32) (b : Nat → Nat → Int32) (n : Nat) : Prop := (b 7 = l 7 ∧ K4 l b) ∧ ∀ j, j < n → ∃ h : Nat, h < 10 ∧ b 8 j = iv (h : Int)
theorem DI.set {l : Nat → Nat → Int32} {b : Nat → Nat → Int32} {n jj : Nat} {g : Nat → Int32} (h : DI l b n) (h7 : 7 ≠ jj) (h8 : 8 ≠ jj) (h4 : 4 < jj) : DI l (ua b jj g) n := by
  refine ⟨⟨by rw [ua_ne h7]; exact h.1.1, h.1.2.ua h4⟩, fun j hj => ?_⟩
  rw [ua_ne h8]
  exact h.2 j hj
theorem DI.push {l : Nat → Nat → Int32} {b : Nat → Nat → Int32} {n x : Nat} (h : DI l b n) (hx : x < 10) : DI l (ua b 8 (upd (b 8) n (iv (x : Int)))) (n + 1) := by
  refine ⟨⟨by rw [ua_ne (by decide)]; exact h.1.1, h.1.2.ua (by decide)⟩, fun j hj => ?_⟩
  rw [ua_eq]
  by_cases e : j = n
  · subst e
    exact ⟨x, hx, uq_eq⟩
  · rw [uq_ne e]
    exact h.2 j (by omega)
theorem par0 {p : Nat → Int32} {k c : Nat} (hp : p 2 = iv (-9)) (hc : c < 10) (h : p (21 * k + 2) = iv (c : Int)) : 1 ≤ k := by
  by_cases e : k = 0
  · subst e
    rw [hp] at h
    have := (iv_eq (a := -9) (b := (c : Int)) (by unfold inR; omega) (by unfold inR; omega)).mp h
    omega
  · omega
theorem dv_1 (hB : 87 ≤ B.length) {c : Nat} {l : Nat → Nat → Int32} (hc : c < 10) (hp2 : p 2 = iv (-9)) (hco : CoOK p) (hQ : ∀ (b : Nat → Nat → Int32) (n : Nat) (S : Int), 1 ≤ n → n ≤ 10 → DI l b n → 1 ≤ S → S ≤ 1000 → ZR (d + 2) 162 43 [some (.ref 75), some (.int (iv ((c : Int)))), some (.int (iv ((n : Int)))), some (.int (iv (S))), some (.int (iv (((10 : Nat) : Int))))] [] (mh B p b z) Q) : ∀ (m k n : Nat) (S : Int) (b : Nat → Nat → Int32), k + m = 10 → 1 ≤ n → n ≤ k + 1 → (1 ≤ k → n ≤ k) → DI l b n → 1 ≤ S → S ≤ 9 + 9 * (k : Int) → ZR (d + 2) 162 14 [some (.ref 75), some (.int (iv ((c : Int)))), some (.int (iv ((n : Int)))), some (.int (iv (S))), some (.int (iv ((k : Int))))] [] (mh B p b z) Q := by
  intro m
  induction m with
  | zero =>
    intro k n S b hkm hn1 hn2 hn3 hD hS1 hS2
    refine zr_cut hk_162 rw_162_14 ?_
    refine zr_iload hk_162 rw_162_15 rfl ?_
    refine zi_const hk_162 rw_162_16 (c := 10) rfl ?_
    refine zi_icmp_ge hk_162 rw_162_17 (by unfold inR; omega) (by unfold inR; omega) (fun h17 => ?_) (fun h17 => by omega)
    obtain rfl : k = 10 := by omega
    exact hQ b n S hn1 (by omega) hD hS1 (by omega)
  | succ m ih =>
    intro k n S b hkm hn1 hn2 hn3 hD hS1 hS2
    refine zr_cut hk_162 rw_162_14 ?_
    refine zr_iload hk_162 rw_162_15 rfl ?_
    refine zi_const hk_162 rw_162_16 (c := 10) rfl ?_
    refine zi_icmp_ge hk_162 rw_162_17 (by unfold inR; omega) (by unfold inR; omega) (fun h17 => by omega) (fun h17 => ?_)
    refine zr_aload hk_162 rw_162_18 rfl ?_
    refine zr_iload hk_162 rw_162_19 rfl ?_
    refine c_isOpenN hk_162 hB rw_162_20 (k) (by omega) (by omega) (Nat.le_of_ble_eq_true rfl) (fun h20c => ?_) (fun h20c => ?_)
    · refine zi_if_eq hk_162 rw_162_21 (by unfold inR; omega) (fun h => absurd h (by decide)) (fun _ => ?_)
      refine zr_aload hk_162 rw_162_22 rfl ?_
      refine zr_iload hk_162 rw_162_23 rfl ?_
      refine zi_const hk_162 rw_162_24 (c := 2) rfl ?_
      refine c_of hk_162 hB rw_162_25 (21 * k + 2) (by omega) (by omega) (Nat.le_of_ble_eq_true rfl) ?_
      refine zr_iload hk_162 rw_162_26 rfl ?_
      refine zo_icmp_ne hk_162 rw_162_27 (fun h27 => ?_) (fun h27 => ?_)
      · refine zi_inc hk_162 rw_162_41 rfl rfl inc_1 (lv' := [some (.ref 75), some (.int (iv ((c : Int)))), some (.int (iv ((n : Int)))), some (.int (iv (S))), some (.int (iv ((k : Int) + 1)))]) rfl ?_
        refine zr_goto hk_162 rw_162_42 ?_
        exact ih (k + 1) n S b (by omega) hn1 (by omega) (by omega) hD hS1 (by omega)
      · have hk1 := par0 hp2 hc h27
        obtain ⟨w, hw1, hw2, hw3⟩ := (hco k (by omega)).2.1
        refine zr_aload hk_162 rw_162_28 rfl ?_
        refine mz_getf hk_162 hB rw_162_29 rfl ?_
        refine zr_iload hk_162 rw_162_30 rfl ?_
        refine zr_iload hk_162 rw_162_31 rfl ?_
        refine mz_astI (jj := 8) (R := (fun b => DI l b (n + 1))) hk_162 (mh_a8 hB) (by decide) rw_162_32 (n) (by omega) (by omega) (by decide) (fun g => mh_aS8 hB) (hD.push (by omega)) (fun b hD => ?_)
        refine zi_inc hk_162 rw_162_33 rfl rfl inc_1 (lv' := [some (.ref 75), some (.int (iv ((c : Int)))), some (.int (iv ((n : Int) + 1))), some (.int (iv (S))), some (.int (iv ((k : Int))))]) rfl ?_
        refine zr_iload hk_162 rw_162_34 rfl ?_
        refine zr_aload hk_162 rw_162_35 rfl ?_
        refine zr_iload hk_162 rw_162_36 rfl ?_
        refine zi_const hk_162 rw_162_37 (c := 3) rfl ?_
        refine c_ofE hk_162 hB rw_162_38 (21 * k + 3) (by omega) (by omega) (hw1) (Nat.le_of_ble_eq_true rfl) ?_
        refine zi_add hk_162 rw_162_39 ?_
        refine zi_istore hk_162 rw_162_40 rfl (lv' := [some (.ref 75), some (.int (iv ((c : Int)))), some (.int (iv ((n : Int) + 1))), some (.int (iv (S + w))), some (.int (iv ((k : Int))))]) rfl ?_
        refine zi_inc hk_162 rw_162_41 rfl rfl inc_1 (lv' := [some (.ref 75), some (.int (iv ((c : Int)))), some (.int (iv ((n : Int) + 1))), some (.int (iv (S + w))), some (.int (iv ((k : Int) + 1)))]) rfl ?_
        refine zr_goto hk_162 rw_162_42 ?_
        exact ih (k + 1) (n + 1) (S + w) b (by omega) (by omega) (by omega) (by omega) hD (by omega) (by omega)
    · refine zi_if_eq hk_162 rw_162_21 (by unfold inR; omega) (fun _ => ?_) (fun h => absurd h (by decide))
      refine zi_inc hk_162 rw_162_41 rfl rfl inc_1 (lv' := [some (.ref 75), some (.int (iv ((c : Int)))), some (.int (iv ((n : Int)))), some (.int (iv (S))), some (.int (iv ((k : Int) + 1)))]) rfl ?_
      refine zr_goto hk_162 rw_162_42 ?_
      exact ih (k + 1) n S b (by omega) hn1 (by omega) (by omega) hD hS1 (by omega)
theorem dv_2 (hB : 87 ≤ B.length) {c n : Nat} {S : Int} {l : Nat → Nat → Int32} (hc : c < 10) (hn : n ≤ 10) (hS : ¬ iv S = 0) (hQ : ∀ (b : Nat → Nat → Int32) (L : Int32), DI l b n → ZR (d + 2) 162 99 [some (.ref 75), some (.int (iv ((c : Int)))), some (.int (iv ((n : Int)))), some (.int (iv (S))), some (.int (L))] [] (mh B p b z) Q) : ∀ (m k : Nat) (L : Int32) (b : Nat → Nat → Int32), k + m = n → DI l b n → ZR (d + 2) 162 50 [some (.ref 75), some (.int (iv ((c : Int)))), some (.int (iv ((n : Int)))), some (.int (iv (S))), some (.int (L)), some (.int (iv ((k : Int))))] [] (mh B p b z) Q := by
  intro m
  induction m with
  | zero =>
    intro k L b hkm hD
    refine zr_cut hk_162 rw_162_50 ?_
    refine zr_iload hk_162 rw_162_51 rfl ?_
    refine zr_iload hk_162 rw_162_52 rfl ?_
    refine zi_icmp_ge hk_162 rw_162_53 (by unfold inR; omega) (by unfold inR; omega) (fun h53 => ?_) (fun h53 => by omega)
    exact zr_app (lv := [some (.ref 75), some (.int (iv ((c : Int)))), some (.int (iv ((n : Int)))), some (.int (iv (S))), some (.int (L))]) (ex := [some (.int (iv ((k : Int))))]) (hQ b L hD)
  | succ m ih =>
    intro k L b hkm hD
    refine zr_cut hk_162 rw_162_50 ?_
    refine zr_iload hk_162 rw_162_51 rfl ?_
    refine zr_iload hk_162 rw_162_52 rfl ?_
    refine zi_icmp_ge hk_162 rw_162_53 (by unfold inR; omega) (by unfold inR; omega) (fun h53 => by omega) (fun h53 => ?_)
    obtain ⟨h, h1, h2⟩ := hD.2 k (by omega)
    refine zr_aload hk_162 rw_162_54 rfl ?_
    refine mz_getf hk_162 hB rw_162_55 rfl ?_
    refine zr_iload hk_162 rw_162_56 rfl ?_
    refine zr_aload hk_162 rw_162_57 rfl ?_
    refine mz_getf hk_162 hB rw_162_58 rfl ?_
    refine zr_iload hk_162 rw_162_59 rfl ?_
    refine mz_ald hk_162 (mh_a5 hB) rw_162_60 (c) (by omega) (by omega) (by decide) ?_
    refine zr_aload hk_162 rw_162_61 rfl ?_
    refine zr_aload hk_162 rw_162_62 rfl ?_
    refine mz_getf hk_162 hB rw_162_63 rfl ?_
    refine zr_iload hk_162 rw_162_64 rfl ?_
    refine mz_aldE hk_162 (mh_a8 hB) rw_162_65 (k) (by omega) (by omega) (by decide) (h2) ?_
    refine zi_const hk_162 rw_162_66 (c := 3) rfl ?_
    refine c_of hk_162 hB rw_162_67 (21 * h + 3) (by omega) (by omega) (Nat.le_of_ble_eq_true rfl) ?_
    refine zr_imul hk_162 rw_162_68 ?_
    refine zr_iload hk_162 rw_162_69 rfl ?_
    refine zr_idiv hk_162 rw_162_70 (hS) ?_
    refine mz_astI (jj := 9) (R := (fun b => DI l b n)) hk_162 (mh_a9 hB) (by decide) rw_162_71 (k) (by omega) (by omega) (by decide) (fun g => mh_aS9 hB) (hD.set (by decide) (by decide) (by decide)) (fun b hD => ?_)
    obtain ⟨g, g1, g2⟩ := hD.2 k (by omega)
    refine zr_aload hk_162 rw_162_72 rfl ?_
    refine mz_getf hk_162 hB rw_162_73 rfl ?_
    refine zr_iload hk_162 rw_162_74 rfl ?_
    refine zr_aload hk_162 rw_162_75 rfl ?_
    refine mz_getf hk_162 hB rw_162_76 rfl ?_
    refine zr_iload hk_162 rw_162_77 rfl ?_
    refine mz_ald hk_162 (mh_a5 hB) rw_162_78 (c) (by omega) (by omega) (by decide) ?_
    refine zr_aload hk_162 rw_162_79 rfl ?_
    refine zr_aload hk_162 rw_162_80 rfl ?_
    refine mz_getf hk_162 hB rw_162_81 rfl ?_
    refine zr_iload hk_162 rw_162_82 rfl ?_
    refine mz_aldE hk_162 (mh_a8 hB) rw_162_83 (k) (by omega) (by omega) (by decide) (g2) ?_
    refine zi_const hk_162 rw_162_84 (c := 3) rfl ?_
    refine c_of hk_162 hB rw_162_85 (21 * g + 3) (by omega) (by omega) (Nat.le_of_ble_eq_true rfl) ?_
    refine zr_imul hk_162 rw_162_86 ?_
    refine zr_iload hk_162 rw_162_87 rfl ?_
    refine zr_irem hk_162 rw_162_88 (hS) ?_
    refine mz_astI (jj := 10) (R := (fun b => DI l b n)) hk_162 (mh_a10 hB) (by decide) rw_162_89 (k) (by omega) (by omega) (by decide) (fun g => mh_aS10 hB) (hD.set (by decide) (by decide) (by decide)) (fun b hD => ?_)
    refine zr_iload hk_162 rw_162_90 rfl ?_
    refine zr_aload hk_162 rw_162_91 rfl ?_
    refine mz_getf hk_162 hB rw_162_92 rfl ?_
    refine zr_iload hk_162 rw_162_93 rfl ?_
    refine mz_ald hk_162 (mh_a9 hB) rw_162_94 (k) (by omega) (by omega) (by decide) ?_
    refine zr_isub hk_162 rw_162_95 ?_
    refine zi_istore hk_162 rw_162_96 rfl (lv' := [some (.ref 75), some (.int (iv ((c : Int)))), some (.int (iv ((n : Int)))), some (.int (iv (S))), some (.int ((L) - (_))), some (.int (iv ((k : Int))))]) rfl ?_
    refine zi_inc hk_162 rw_162_97 rfl rfl inc_1 (lv' := [some (.ref 75), some (.int (iv ((c : Int)))), some (.int (iv ((n : Int)))), some (.int (iv (S))), some (.int ((L) - (_))), some (.int (iv ((k : Int) + 1)))]) rfl ?_
    refine zr_goto hk_162 rw_162_98 ?_
    exact ih (k + 1) _ b (by omega) hD
theorem dv_4 (hB : 87 ≤ B.length) {c n : Nat} {S x : Int} {b : Nat → Nat → Int32} (hn : n ≤ 10) (hQ : ∀ t : Nat, t < n → ZR (d + 2) 162 125 [some (.ref 75), some (.int (iv ((c : Int)))), some (.int (iv ((n : Int)))), some (.int (iv (S))), some (.int (iv (x))), some (.int (iv ((t : Int)))), some (.int (iv ((n : Int))))] [] (mh B p b z) Q) : ∀ (m k t : Nat), k + m = n → 1 ≤ k → t < n → ZR (d + 2) 162 106 [some (.ref 75), some (.int (iv ((c : Int)))), some (.int (iv ((n : Int)))), some (.int (iv (S))), some (.int (iv (x))), some (.int (iv ((t : Int)))), some (.int (iv ((k : Int))))] [] (mh B p b z) Q := by
  intro m
  induction m with
  | zero =>
    intro k t hkm hk1 ht
    refine zr_cut hk_162 rw_162_106 ?_
    refine zr_iload hk_162 rw_162_107 rfl ?_
    refine zr_iload hk_162 rw_162_108 rfl ?_
    refine zi_icmp_ge hk_162 rw_162_109 (by unfold inR; omega) (by unfold inR; omega) (fun h109 => ?_) (fun h109 => by omega)
    obtain rfl : k = n := by omega
    exact hQ t ht
  | succ m ih =>
    intro k t hkm hk1 ht
    refine zr_cut hk_162 rw_162_106 ?_
    refine zr_iload hk_162 rw_162_107 rfl ?_
    refine zr_iload hk_162 rw_162_108 rfl ?_
    refine zi_icmp_ge hk_162 rw_162_109 (by unfold inR; omega) (by unfold inR; omega) (fun h109 => by omega) (fun h109 => ?_)
    refine zr_aload hk_162 rw_162_110 rfl ?_
    refine mz_getf hk_162 hB rw_162_111 rfl ?_
    refine zr_iload hk_162 rw_162_112 rfl ?_
    refine mz_ald hk_162 (mh_a10 hB) rw_162_113 (k) (by omega) (by omega) (by decide) ?_
    refine zr_aload hk_162 rw_162_114 rfl ?_
    refine mz_getf hk_162 hB rw_162_115 rfl ?_
    refine zr_iload hk_162 rw_162_116 rfl ?_
    refine mz_ald hk_162 (mh_a10 hB) rw_162_117 (t) (by omega) (by omega) (by decide) ?_
    refine zo_icmp_le hk_162 rw_162_118 (fun h118 => ?_) (fun h118 => ?_)
    · refine zr_iload hk_162 rw_162_121 rfl ?_
      refine zi_istore hk_162 rw_162_122 rfl (lv' := [some (.ref 75), some (.int (iv ((c : Int)))), some (.int (iv ((n : Int)))), some (.int (iv (S))), some (.int (iv (x))), some (.int (iv ((t : Int)))), some (.int (iv ((k : Int))))]) rfl ?_
      refine zi_inc hk_162 rw_162_123 rfl rfl inc_1 (lv' := [some (.ref 75), some (.int (iv ((c : Int)))), some (.int (iv ((n : Int)))), some (.int (iv (S))), some (.int (iv (x))), some (.int (iv ((t : Int)))), some (.int (iv ((k : Int) + 1)))]) rfl ?_
      refine zr_goto hk_162 rw_162_124 ?_
      exact ih (k + 1) t (by omega) (by omega) (by omega)
    · refine zr_iload hk_162 rw_162_119 rfl ?_
      refine zr_goto hk_162 rw_162_120 ?_
      refine zi_istore hk_162 rw_162_122 rfl (lv' := [some (.ref 75), some (.int (iv ((c : Int)))), some (.int (iv ((n : Int)))), some (.int (iv (S))), some (.int (iv (x))), some (.int (iv ((k : Int)))), some (.int (iv ((k : Int))))]) rfl ?_
      refine zi_inc hk_162 rw_162_123 rfl rfl inc_1 (lv' := [some (.ref 75), some (.int (iv ((c : Int)))), some (.int (iv ((n : Int)))), some (.int (iv (S))), some (.int (iv (x))), some (.int (iv ((k : Int)))), some (.int (iv ((k : Int) + 1)))]) rfl ?_
      refine zr_goto hk_162 rw_162_124 ?_
      exact ih (k + 1) k (by omega) (by omega) (by omega)
theorem dv_3 (hB : 87 ≤ B.length) {c n : Nat} {S : Int} {l : Nat → Nat → Int32} (hn1 : 1 ≤ n) (hn : n ≤ 10) (hQ : ∀ (b : Nat → Nat → Int32) (x : Int), DI l b n → ZR (d + 2) 162 140 [some (.ref 75), some (.int (iv ((c : Int)))), some (.int (iv ((n : Int)))), some (.int (iv (S))), some (.int (iv (x)))] [] (mh B p b z) Q) : ∀ (m : Nat) (x : Int) (b : Nat → Nat → Int32), inR x → x ≤ (m : Int) → DI l b n → ZR (d + 2) 162 99 [some (.ref 75), some (.int (iv ((c : Int)))), some (.int (iv ((n : Int)))), some (.int (iv (S))), some (.int (iv (x)))] [] (mh B p b z) Q := by
  intro m
  induction m with
  | zero =>
    intro x b hx hxm hD
    refine zr_cut hk_162 rw_162_99 ?_
    refine zr_iload hk_162 rw_162_100 rfl ?_
    refine zi_if_le hk_162 rw_162_101 (by first | assumption | (unfold inR; omega)) (fun h101 => ?_) (fun h101 => by omega)
    exact hQ b x hD
  | succ m ih =>
    intro x b hx hxm hD
    refine zr_cut hk_162 rw_162_99 ?_
    refine zr_iload hk_162 rw_162_100 rfl ?_
    refine zi_if_le hk_162 rw_162_101 (by first | assumption | (unfold inR; omega)) (fun h101 => ?_) (fun h101 => ?_)
    · exact hQ b x hD
    · refine zi_const hk_162 rw_162_102 (c := 0) rfl ?_
      refine zi_istore hk_162 rw_162_103 rfl (lv' := [some (.ref 75), some (.int (iv ((c : Int)))), some (.int (iv ((n : Int)))), some (.int (iv (S))), some (.int (iv (x))), some (.int (iv (0)))]) rfl ?_
      refine zi_const hk_162 rw_162_104 (c := 1) rfl ?_
      refine zi_istore hk_162 rw_162_105 rfl (lv' := [some (.ref 75), some (.int (iv ((c : Int)))), some (.int (iv ((n : Int)))), some (.int (iv (S))), some (.int (iv (x))), some (.int (iv (0))), some (.int (iv (1)))]) rfl ?_
      refine dv_4 hB hn (fun t ht => ?_) (n - 1) 1 0 (by omega) (by omega) (by omega)
      refine zr_aload hk_162 rw_162_125 rfl ?_
      refine mz_getf hk_162 hB rw_162_126 rfl ?_
      refine zr_iload hk_162 rw_162_127 rfl ?_
      refine zr_dup2 hk_162 rw_162_128 rfl rfl ?_
      refine mz_ald hk_162 (mh_a9 hB) rw_162_129 (t) (by omega) (by omega) (by decide) ?_
      refine zi_const hk_162 rw_162_130 (c := 1) rfl ?_
      refine zr_iadd hk_162 rw_162_131 ?_
      refine mz_astI (jj := 9) (R := (fun b => DI l b n)) hk_162 (mh_a9 hB) (by decide) rw_162_132 (t) (by omega) (by omega) (by decide) (fun g => mh_aS9 hB) (hD.set (by decide) (by decide) (by decide)) (fun b hD => ?_)
      refine zr_aload hk_162 rw_162_133 rfl ?_
      refine mz_getf hk_162 hB rw_162_134 rfl ?_
      refine zr_iload hk_162 rw_162_135 rfl ?_
      refine zi_const hk_162 rw_162_136 (c := -1) rfl ?_
      refine mz_astI (jj := 10) (R := (fun b => DI l b n)) hk_162 (mh_a10 hB) (by decide) rw_162_137 (t) (by omega) (by omega) (by decide) (fun g => mh_aS10 hB) (hD.set (by decide) (by decide) (by decide)) (fun b hD => ?_)
      refine zi_inc hk_162 rw_162_138 rfl rfl inc_m1 (lv' := [some (.ref 75), some (.int (iv ((c : Int)))), some (.int (iv ((n : Int)))), some (.int (iv (S))), some (.int (iv (x + (-1)))), some (.int (iv ((t : Int)))), some (.int (iv ((n : Int))))]) rfl ?_
      refine zr_goto hk_162 rw_162_139 ?_
      exact zr_app (lv := [some (.ref 75), some (.int (iv ((c : Int)))), some (.int (iv ((n : Int)))), some (.int (iv (S))), some (.int (iv (x + (-1))))]) (ex := [some (.int (iv ((t : Int)))), some (.int (iv ((n : Int))))]) (ih (x + (-1)) b (by unfold inR at *; omega) (by omega) hD)
theorem dv_5 (hB : 87 ≤ B.length) {c n : Nat} {S x : Int} {l : Nat → Nat → Int32} (hn : n ≤ 10) : ∀ (m k : Nat) (b : Nat → Nat → Int32), k + m = n → DI l b n → ZR (d + 2) 162 150 [some (.ref 75), some (.int (iv ((c : Int)))), some (.int (iv ((n : Int)))), some (.int (iv (S))), some (.int (iv (x))), some (.int (iv ((k : Int))))] [] (mh B p b z) (fun v ph' => ∃ b, ph' = mh B p b z ∧ v = none ∧ b 7 = l 7 ∧ K4 l b) := by
  intro m
  induction m with
  | zero =>
    intro k b hkm hD
    refine zr_cut hk_162 rw_162_150 ?_
    refine zr_iload hk_162 rw_162_151 rfl ?_
    refine zr_iload hk_162 rw_162_152 rfl ?_
    refine zi_icmp_ge hk_162 rw_162_153 (by unfold inR; omega) (by unfold inR; omega) (fun h153 => ?_) (fun h153 => by omega)
    refine zr_return (a := 0) hk_162 rw_162_167 ?_
    exact ⟨b, rfl, rfl, hD.1.1, hD.1.2⟩
  | succ m ih =>
    intro k b hkm hD
    refine zr_cut hk_162 rw_162_150 ?_
    refine zr_iload hk_162 rw_162_151 rfl ?_
    refine zr_iload hk_162 rw_162_152 rfl ?_
    refine zi_icmp_ge hk_162 rw_162_153 (by unfold inR; omega) (by unfold inR; omega) (fun h153 => by omega) (fun h153 => ?_)
    obtain ⟨h, h1, h2⟩ := hD.2 k (by omega)
    refine zr_aload hk_162 rw_162_154 rfl ?_
    refine mz_getf hk_162 hB rw_162_155 rfl ?_
    refine zr_aload hk_162 rw_162_156 rfl ?_
    refine mz_getf hk_162 hB rw_162_157 rfl ?_
    refine zr_iload hk_162 rw_162_158 rfl ?_
    refine mz_aldE hk_162 (mh_a8 hB) rw_162_159 (k) (by omega) (by omega) (by decide) (h2) ?_
    refine zr_aload hk_162 rw_162_160 rfl ?_
    refine mz_getf hk_162 hB rw_162_161 rfl ?_
    refine zr_iload hk_162 rw_162_162 rfl ?_
    refine mz_ald hk_162 (mh_a9 hB) rw_162_163 (k) (by omega) (by omega) (by decide) ?_
    refine mz_astI (jj := 5) (R := (fun b => DI l b n)) hk_162 (mh_a5 hB) (by decide) rw_162_164 (h) (by omega) (by omega) (by decide) (fun g => mh_aS5 hB) (hD.set (by decide) (by decide) (by decide)) (fun b hD => ?_)
    refine zi_inc hk_162 rw_162_165 rfl rfl inc_1 (lv' := [some (.ref 75), some (.int (iv ((c : Int)))), some (.int (iv ((n : Int)))), some (.int (iv (S))), some (.int (iv (x))), some (.int (iv ((k : Int) + 1)))]) rfl ?_
    refine zr_goto hk_162 rw_162_166 ?_
    exact ih (k + 1) b (by omega) hD
theorem divides_ok (d : Nat) (hB : 87 ≤ B.length) {c : Nat} (hc : c < 10) (hp2 : p 2 = iv (-9)) (hco : CoOK p) (hop : p (21 * c) = iv 1) : ZC (d + 2) 162 [.ref 75, .int (iv (c : Int))] (mh B p a z) (fun v ph' => ∃ b, ph' = mh B p b z ∧ v = none ∧ b 7 = a 7 ∧ K4 a b) := by
  obtain ⟨⟨w, hw1, hw2, hw3⟩, -⟩ := (hco c hc).2.2.2 hop
  refine ZC.of (lv := [some (.ref 75), some (.int (iv ((c : Int))))]) hk_162 (fun i v hv => ?_) ?_
  · match i, hv with
    | 0, hv => cases hv; rfl
    | 1, hv => cases hv; rfl
    | i + 2, hv => simp at hv
  refine zi_const hk_162 rw_162_0 (c := 1) rfl ?_
  refine zi_istore hk_162 rw_162_1 rfl (lv' := [some (.ref 75), some (.int (iv ((c : Int)))), some (.int (iv (1)))]) rfl ?_
  refine zr_aload hk_162 rw_162_2 rfl ?_
  refine mz_getf hk_162 hB rw_162_3 rfl ?_
  refine zi_const hk_162 rw_162_4 (c := 0) rfl ?_
  refine zr_iload hk_162 rw_162_5 rfl ?_
  refine mz_astI (jj := 8) (R := (fun b => DI a b 1)) hk_162 (mh_a8 hB) (by decide) rw_162_6 (0) (by omega) (by omega) (by decide) (fun g => mh_aS8 hB) ((DI.push (n := 0) (l := a) (b := a) ⟨⟨rfl, K4.id a⟩, fun j hj => absurd hj (Nat.not_lt_zero _)⟩ hc)) (fun b hD => ?_)
  refine zr_aload hk_162 rw_162_7 rfl ?_
  refine zr_iload hk_162 rw_162_8 rfl ?_
  refine zi_const hk_162 rw_162_9 (c := 3) rfl ?_
  refine c_ofE hk_162 hB rw_162_10 (21 * c + 3) (by omega) (by omega) (hw1) (Nat.le_of_ble_eq_true rfl) ?_
  refine zi_istore hk_162 rw_162_11 rfl (lv' := [some (.ref 75), some (.int (iv ((c : Int)))), some (.int (iv (1))), some (.int (iv (w)))]) rfl ?_
  refine zi_const hk_162 rw_162_12 (c := 0) rfl ?_
  refine zi_istore hk_162 rw_162_13 rfl (lv' := [some (.ref 75), some (.int (iv ((c : Int)))), some (.int (iv (1))), some (.int (iv (w))), some (.int (iv (0)))]) rfl ?_
  refine dv_1 hB hc hp2 hco (fun b n S hn1 hn hD hS1 hS2 => ?_) 10 0 1 w b (by omega) (by omega) (by omega) (by omega) hD hw2 (by omega)
  refine zr_aload hk_162 rw_162_43 rfl ?_
  refine mz_getf hk_162 hB rw_162_44 rfl ?_
  refine zr_iload hk_162 rw_162_45 rfl ?_
  refine mz_ald hk_162 (mh_a5 hB) rw_162_46 (c) (by omega) (by omega) (by decide) ?_
  refine zi_istore hk_162 rw_162_47 rfl (lv' := [some (.ref 75), some (.int (iv ((c : Int)))), some (.int (iv ((n : Int)))), some (.int (iv (S))), some (.int (_))]) rfl ?_
  refine zi_const hk_162 rw_162_48 (c := 0) rfl ?_
  refine zi_istore hk_162 rw_162_49 rfl (lv' := [some (.ref 75), some (.int (iv ((c : Int)))), some (.int (iv ((n : Int)))), some (.int (iv (S))), some (.int (_)), some (.int (iv (0)))]) rfl ?_
  refine dv_2 hB hc hn (fun e => ?_) (fun b L hD => ?_) n 0 _ b (by omega) hD
  · have := (iv_eq (a := S) (b := 0) (by unfold inR; omega) (by unfold inR; omega)).mp e; omega
  rw [iv_of L]
  refine dv_3 hB hn1 hn (fun b x hD => ?_) L.toInt.toNat L.toInt b (inR_of L) (by omega) hD
  refine zr_aload hk_162 rw_162_140 rfl ?_
  refine mz_getf hk_162 hB rw_162_141 rfl ?_
  refine zr_iload hk_162 rw_162_142 rfl ?_
  refine zr_aload hk_162 rw_162_143 rfl ?_
  refine mz_getf hk_162 hB rw_162_144 rfl ?_
  refine zi_const hk_162 rw_162_145 (c := 0) rfl ?_
  refine mz_ald hk_162 (mh_a9 hB) rw_162_146 (0) (by omega) (by omega) (by decide) ?_
  refine mz_astI (jj := 6) (R := (fun b => DI a b n)) hk_162 (mh_a6 hB) (by decide) rw_162_147 (c) (by omega) (by omega) (by decide) (fun g => mh_aS6 hB) (hD.set (by decide) (by decide) (by decide)) (fun b hD => ?_)
  refine zi_const hk_162 rw_162_148 (c := 1) rfl ?_
  refine zi_istore hk_162 rw_162_149 rfl (lv' := [some (.ref 75), some (.int (iv ((c : Int)))), some (.int (iv ((n : Int)))), some (.int (iv (S))), some (.int (iv (x))), some (.int (iv (1)))]) rfl ?_
  exact dv_5 hB hn (n - 1) 1 b (by omega) hD
theorem c_divides (hk : k < 186) (hB : 87 ≤ B.length) {pc b x ix : Nat} {ts : List Nat} {c : Nat} (hrow : (codeOf k)[j]? = some (pc, .invokevirtual ix, 162, b, x, 3, ts)) (hc : c < 10) (hp2 : p 2 = iv (-9)) (hco : CoOK p) (hop : p (21 * c) = iv 1) (hcat : catS st ≤ 8) (h : ∀ b : Nat → Nat → Int32, b 7 = a 7 → K4 a b → ZR (d + 3) k (j + 1) lv st (mh B p b z) Q) : ZR (d + 3) k j lv (.int (iv (c : Int)) :: .ref 75 :: st) (mh B p a z) Q := by
  refine mz_call (L := 7) (n := 1) (as := [.int (iv (c : Int))]) (r := st) hk hB hrow (by decide) (by decide) ⟨rfl, rfl, rfl, rfl⟩ rfl rfl hcat (Nat.le_of_ble_eq_true rfl) (divides_ok d hB hc hp2 hco hop) ?_
  rintro w ph' ⟨b, rfl, rfl, h1, h2⟩
  exact h b h1 h2
end MJ

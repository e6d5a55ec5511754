/-! ===== by program (wip/gen/m69.py): an acknowledgement comes; a timeout ===== -/
theorem kc147_eq : codeOf 147 = kc147 := rfl
theorem hk_147 : 147 < 186 := by decide
theorem rw_147_0 : (codeOf 147)[0]? = some (0, .aload 0, 0, 0, 3, 1, []) := by rw [kc147_eq]; rfl
theorem rw_147_1 : (codeOf 147)[1]? = some (1, .iload 1, 1, 0, 0, 1, []) := by rw [kc147_eq]; rfl
theorem rw_147_2 : (codeOf 147)[2]? = some (2, .invokevirtual 92, 133, 0, 0, 3, []) := by rw [kc147_eq]; rfl
theorem rw_147_3 : (codeOf 147)[3]? = some (5, .ifCond .eq 24, 29, 16, 0, 3, []) := by rw [kc147_eq]; rfl
theorem rw_147_4 : (codeOf 147)[4]? = some (8, .aload 0, 0, 0, 3, 1, []) := by rw [kc147_eq]; rfl
theorem rw_147_5 : (codeOf 147)[5]? = some (9, .iload 1, 1, 0, 0, 1, []) := by rw [kc147_eq]; rfl
theorem rw_147_6 : (codeOf 147)[6]? = some (10, .iconst 1, 2147483649, 0, 0, 1, []) := by rw [kc147_eq]; rfl
theorem rw_147_7 : (codeOf 147)[7]? = some (11, .invokevirtual 62, 130, 0, 0, 3, []) := by rw [kc147_eq]; rfl
theorem rw_147_8 : (codeOf 147)[8]? = some (14, .iload 2, 2, 0, 0, 1, []) := by rw [kc147_eq]; rfl
theorem rw_147_9 : (codeOf 147)[9]? = some (15, .if_icmp .ne 14, 29, 16, 0, 3, []) := by rw [kc147_eq]; rfl
theorem rw_147_10 : (codeOf 147)[10]? = some (18, .aload 0, 0, 0, 3, 1, []) := by rw [kc147_eq]; rfl
theorem rw_147_11 : (codeOf 147)[11]? = some (19, .iload 1, 1, 0, 0, 1, []) := by rw [kc147_eq]; rfl
theorem rw_147_12 : (codeOf 147)[12]? = some (20, .iload 3, 3, 0, 0, 1, []) := by rw [kc147_eq]; rfl
theorem rw_147_13 : (codeOf 147)[13]? = some (21, .invokevirtual 124, 148, 0, 0, 3, []) := by rw [kc147_eq]; rfl
theorem rw_147_14 : (codeOf 147)[14]? = some (24, .iconst (-9), 2147483639, 0, 0, 2, []) := by rw [kc147_eq]; rfl
theorem rw_147_15 : (codeOf 147)[15]? = some (26, .if_icmp .ne 17, 43, 26, 0, 3, []) := by rw [kc147_eq]; rfl
theorem rw_147_16 : (codeOf 147)[16]? = some (29, .aload 0, 0, 0, 3, 1, []) := by rw [kc147_eq]; rfl
theorem rw_147_17 : (codeOf 147)[17]? = some (30, .getfield 7, 9, 0, 3, 3, []) := by rw [kc147_eq]; rfl
theorem rw_147_18 : (codeOf 147)[18]? = some (33, .iconst 215, 2147483863, 0, 0, 3, []) := by rw [kc147_eq]; rfl
theorem rw_147_19 : (codeOf 147)[19]? = some (36, .dup2, 0, 0, 0, 1, []) := by rw [kc147_eq]; rfl
theorem rw_147_20 : (codeOf 147)[20]? = some (37, .iaload, 0, 0, 0, 1, []) := by rw [kc147_eq]; rfl
theorem rw_147_21 : (codeOf 147)[21]? = some (38, .iconst 1, 2147483649, 0, 0, 1, []) := by rw [kc147_eq]; rfl
theorem rw_147_22 : (codeOf 147)[22]? = some (39, .iadd, 0, 0, 0, 1, []) := by rw [kc147_eq]; rfl
theorem rw_147_23 : (codeOf 147)[23]? = some (40, .iastore, 0, 0, 0, 1, []) := by rw [kc147_eq]; rfl
theorem rw_147_24 : (codeOf 147)[24]? = some (41, .iconst 0, 2147483648, 0, 0, 1, []) := by rw [kc147_eq]; rfl
theorem rw_147_25 : (codeOf 147)[25]? = some (42, .ireturn, 2, 0, 0, 1, []) := by rw [kc147_eq]; rfl
theorem rw_147_26 : (codeOf 147)[26]? = some (43, .aload 0, 0, 0, 3, 1, []) := by rw [kc147_eq]; rfl
theorem rw_147_27 : (codeOf 147)[27]? = some (44, .getfield 7, 9, 0, 3, 3, []) := by rw [kc147_eq]; rfl
theorem rw_147_28 : (codeOf 147)[28]? = some (47, .iconst 220, 2147483868, 0, 0, 3, []) := by rw [kc147_eq]; rfl
theorem rw_147_29 : (codeOf 147)[29]? = some (50, .iconst 3, 2147483651, 0, 0, 1, []) := by rw [kc147_eq]; rfl
theorem rw_147_30 : (codeOf 147)[30]? = some (51, .aload 0, 0, 0, 3, 1, []) := by rw [kc147_eq]; rfl
theorem rw_147_31 : (codeOf 147)[31]? = some (52, .iload 1, 1, 0, 0, 1, []) := by rw [kc147_eq]; rfl
theorem rw_147_32 : (codeOf 147)[32]? = some (53, .invokevirtual 127, 149, 0, 0, 3, []) := by rw [kc147_eq]; rfl
theorem rw_147_33 : (codeOf 147)[33]? = some (56, .imul, 0, 0, 0, 1, []) := by rw [kc147_eq]; rfl
theorem rw_147_34 : (codeOf 147)[34]? = some (57, .iadd, 0, 0, 0, 1, []) := by rw [kc147_eq]; rfl
theorem rw_147_35 : (codeOf 147)[35]? = some (58, .iconst 1, 2147483649, 0, 0, 1, []) := by rw [kc147_eq]; rfl
theorem rw_147_36 : (codeOf 147)[36]? = some (59, .iadd, 0, 0, 0, 1, []) := by rw [kc147_eq]; rfl
theorem rw_147_37 : (codeOf 147)[37]? = some (60, .iaload, 0, 0, 0, 1, []) := by rw [kc147_eq]; rfl
theorem rw_147_38 : (codeOf 147)[38]? = some (61, .istore 4, 4, 0, 0, 2, []) := by rw [kc147_eq]; rfl
theorem rw_147_39 : (codeOf 147)[39]? = some (63, .iload 4, 4, 0, 0, 2, []) := by rw [kc147_eq]; rfl
theorem rw_147_40 : (codeOf 147)[40]? = some (65, .iload 3, 3, 0, 0, 1, []) := by rw [kc147_eq]; rfl
theorem rw_147_41 : (codeOf 147)[41]? = some (66, .if_icmp .eq 7, 73, 44, 0, 3, []) := by rw [kc147_eq]; rfl
theorem rw_147_42 : (codeOf 147)[42]? = some (69, .iconst 1, 2147483649, 0, 0, 1, []) := by rw [kc147_eq]; rfl
theorem rw_147_43 : (codeOf 147)[43]? = some (70, .goto 4, 74, 45, 0, 3, []) := by rw [kc147_eq]; rfl
theorem rw_147_44 : (codeOf 147)[44]? = some (73, .iconst 0, 2147483648, 0, 0, 1, []) := by rw [kc147_eq]; rfl
theorem rw_147_45 : (codeOf 147)[45]? = some (74, .istore 5, 5, 0, 0, 2, []) := by rw [kc147_eq]; rfl
theorem rw_147_46 : (codeOf 147)[46]? = some (76, .monitorexit, 1176, 0, 0, 0, []) := by rw [kc147_eq]; rfl
theorem rw_147_47 : (codeOf 147)[47]? = some (76, .aload 0, 0, 0, 3, 1, []) := by rw [kc147_eq]; rfl
theorem rw_147_48 : (codeOf 147)[48]? = some (77, .getfield 7, 9, 0, 3, 3, []) := by rw [kc147_eq]; rfl
theorem rw_147_49 : (codeOf 147)[49]? = some (80, .iconst 220, 2147483868, 0, 0, 3, []) := by rw [kc147_eq]; rfl
theorem rw_147_50 : (codeOf 147)[50]? = some (83, .iconst 3, 2147483651, 0, 0, 1, []) := by rw [kc147_eq]; rfl
theorem rw_147_51 : (codeOf 147)[51]? = some (84, .aload 0, 0, 0, 3, 1, []) := by rw [kc147_eq]; rfl
theorem rw_147_52 : (codeOf 147)[52]? = some (85, .iload 1, 1, 0, 0, 1, []) := by rw [kc147_eq]; rfl
theorem rw_147_53 : (codeOf 147)[53]? = some (86, .invokevirtual 127, 149, 0, 0, 3, []) := by rw [kc147_eq]; rfl
theorem rw_147_54 : (codeOf 147)[54]? = some (89, .imul, 0, 0, 0, 1, []) := by rw [kc147_eq]; rfl
theorem rw_147_55 : (codeOf 147)[55]? = some (90, .iadd, 0, 0, 0, 1, []) := by rw [kc147_eq]; rfl
theorem rw_147_56 : (codeOf 147)[56]? = some (91, .iconst 1, 2147483649, 0, 0, 1, []) := by rw [kc147_eq]; rfl
theorem rw_147_57 : (codeOf 147)[57]? = some (92, .iadd, 0, 0, 0, 1, []) := by rw [kc147_eq]; rfl
theorem rw_147_58 : (codeOf 147)[58]? = some (93, .iaload, 0, 0, 0, 1, []) := by rw [kc147_eq]; rfl
theorem rw_147_59 : (codeOf 147)[59]? = some (94, .iload 3, 3, 0, 0, 1, []) := by rw [kc147_eq]; rfl
theorem rw_147_60 : (codeOf 147)[60]? = some (95, .if_icmp .eq 16, 111, 68, 0, 3, []) := by rw [kc147_eq]; rfl
theorem rw_147_61 : (codeOf 147)[61]? = some (98, .aload 0, 0, 0, 3, 1, []) := by rw [kc147_eq]; rfl
theorem rw_147_62 : (codeOf 147)[62]? = some (99, .iload 1, 1, 0, 0, 1, []) := by rw [kc147_eq]; rfl
theorem rw_147_63 : (codeOf 147)[63]? = some (100, .aload 0, 0, 0, 3, 1, []) := by rw [kc147_eq]; rfl
theorem rw_147_64 : (codeOf 147)[64]? = some (101, .iload 1, 1, 0, 0, 1, []) := by rw [kc147_eq]; rfl
theorem rw_147_65 : (codeOf 147)[65]? = some (102, .invokevirtual 127, 149, 0, 0, 3, []) := by rw [kc147_eq]; rfl
theorem rw_147_66 : (codeOf 147)[66]? = some (105, .invokevirtual 130, 150, 0, 0, 3, []) := by rw [kc147_eq]; rfl
theorem rw_147_67 : (codeOf 147)[67]? = some (108, .goto (-32), 76, 46, 0, 3, []) := by rw [kc147_eq]; rfl
theorem rw_147_68 : (codeOf 147)[68]? = some (111, .iload 5, 5, 0, 0, 2, []) := by rw [kc147_eq]; rfl
theorem rw_147_69 : (codeOf 147)[69]? = some (113, .ifCond .eq 45, 158, 96, 0, 3, []) := by rw [kc147_eq]; rfl
theorem rw_147_70 : (codeOf 147)[70]? = some (116, .iload 4, 4, 0, 0, 2, []) := by rw [kc147_eq]; rfl
theorem rw_147_71 : (codeOf 147)[71]? = some (118, .aload 0, 0, 0, 3, 1, []) := by rw [kc147_eq]; rfl
theorem rw_147_72 : (codeOf 147)[72]? = some (119, .iload 1, 1, 0, 0, 1, []) := by rw [kc147_eq]; rfl
theorem rw_147_73 : (codeOf 147)[73]? = some (120, .iconst 13, 2147483661, 0, 0, 2, []) := by rw [kc147_eq]; rfl
theorem rw_147_74 : (codeOf 147)[74]? = some (122, .invokevirtual 62, 130, 0, 0, 3, []) := by rw [kc147_eq]; rfl
theorem rw_147_75 : (codeOf 147)[75]? = some (125, .if_icmp .lt 33, 158, 96, 0, 3, []) := by rw [kc147_eq]; rfl
theorem rw_147_76 : (codeOf 147)[76]? = some (128, .aload 0, 0, 0, 3, 1, []) := by rw [kc147_eq]; rfl
theorem rw_147_77 : (codeOf 147)[77]? = some (129, .iload 1, 1, 0, 0, 1, []) := by rw [kc147_eq]; rfl
theorem rw_147_78 : (codeOf 147)[78]? = some (130, .iconst 3, 2147483651, 0, 0, 1, []) := by rw [kc147_eq]; rfl
theorem rw_147_79 : (codeOf 147)[79]? = some (131, .iconst 1, 2147483649, 0, 0, 1, []) := by rw [kc147_eq]; rfl
theorem rw_147_80 : (codeOf 147)[80]? = some (132, .invokevirtual 121, 152, 0, 0, 3, []) := by rw [kc147_eq]; rfl
theorem rw_147_81 : (codeOf 147)[81]? = some (135, .aload 0, 0, 0, 3, 1, []) := by rw [kc147_eq]; rfl
theorem rw_147_82 : (codeOf 147)[82]? = some (136, .iload 1, 1, 0, 0, 1, []) := by rw [kc147_eq]; rfl
theorem rw_147_83 : (codeOf 147)[83]? = some (137, .iconst 2, 2147483650, 0, 0, 1, []) := by rw [kc147_eq]; rfl
theorem rw_147_84 : (codeOf 147)[84]? = some (138, .iconst 1, 2147483649, 0, 0, 1, []) := by rw [kc147_eq]; rfl
theorem rw_147_85 : (codeOf 147)[85]? = some (139, .invokevirtual 133, 153, 0, 0, 3, []) := by rw [kc147_eq]; rfl
theorem rw_147_86 : (codeOf 147)[86]? = some (142, .aload 0, 0, 0, 3, 1, []) := by rw [kc147_eq]; rfl
theorem rw_147_87 : (codeOf 147)[87]? = some (143, .iload 1, 1, 0, 0, 1, []) := by rw [kc147_eq]; rfl
theorem rw_147_88 : (codeOf 147)[88]? = some (144, .iconst 5, 2147483653, 0, 0, 1, []) := by rw [kc147_eq]; rfl
theorem rw_147_89 : (codeOf 147)[89]? = some (145, .iconst 16, 2147483664, 0, 0, 2, []) := by rw [kc147_eq]; rfl
theorem rw_147_90 : (codeOf 147)[90]? = some (147, .aload 0, 0, 0, 3, 1, []) := by rw [kc147_eq]; rfl
theorem rw_147_91 : (codeOf 147)[91]? = some (148, .iload 1, 1, 0, 0, 1, []) := by rw [kc147_eq]; rfl
theorem rw_147_92 : (codeOf 147)[92]? = some (149, .iconst 6, 2147483654, 0, 0, 2, []) := by rw [kc147_eq]; rfl
theorem rw_147_93 : (codeOf 147)[93]? = some (151, .invokevirtual 62, 130, 0, 0, 3, []) := by rw [kc147_eq]; rfl
theorem rw_147_94 : (codeOf 147)[94]? = some (154, .imul, 0, 0, 0, 1, []) := by rw [kc147_eq]; rfl
theorem rw_147_95 : (codeOf 147)[95]? = some (155, .invokevirtual 66, 119, 0, 0, 3, []) := by rw [kc147_eq]; rfl
theorem rw_147_96 : (codeOf 147)[96]? = some (158, .aload 0, 0, 0, 3, 1, []) := by rw [kc147_eq]; rfl
theorem rw_147_97 : (codeOf 147)[97]? = some (159, .iload 1, 1, 0, 0, 1, []) := by rw [kc147_eq]; rfl
theorem rw_147_98 : (codeOf 147)[98]? = some (160, .iload 3, 3, 0, 0, 1, []) := by rw [kc147_eq]; rfl
theorem rw_147_99 : (codeOf 147)[99]? = some (161, .invokevirtual 124, 148, 0, 0, 3, []) := by rw [kc147_eq]; rfl
theorem rw_147_100 : (codeOf 147)[100]? = some (164, .istore 6, 6, 0, 0, 2, []) := by rw [kc147_eq]; rfl
theorem rw_147_101 : (codeOf 147)[101]? = some (166, .aload 0, 0, 0, 3, 1, []) := by rw [kc147_eq]; rfl
theorem rw_147_102 : (codeOf 147)[102]? = some (167, .getfield 7, 9, 0, 3, 3, []) := by rw [kc147_eq]; rfl
theorem rw_147_103 : (codeOf 147)[103]? = some (170, .iconst 214, 2147483862, 0, 0, 3, []) := by rw [kc147_eq]; rfl
theorem rw_147_104 : (codeOf 147)[104]? = some (173, .iaload, 0, 0, 0, 1, []) := by rw [kc147_eq]; rfl
theorem rw_147_105 : (codeOf 147)[105]? = some (174, .aload 0, 0, 0, 3, 1, []) := by rw [kc147_eq]; rfl
theorem rw_147_106 : (codeOf 147)[106]? = some (175, .getfield 7, 9, 0, 3, 3, []) := by rw [kc147_eq]; rfl
theorem rw_147_107 : (codeOf 147)[107]? = some (178, .iconst 220, 2147483868, 0, 0, 3, []) := by rw [kc147_eq]; rfl
theorem rw_147_108 : (codeOf 147)[108]? = some (181, .iconst 3, 2147483651, 0, 0, 1, []) := by rw [kc147_eq]; rfl
theorem rw_147_109 : (codeOf 147)[109]? = some (182, .iload 6, 6, 0, 0, 2, []) := by rw [kc147_eq]; rfl
theorem rw_147_110 : (codeOf 147)[110]? = some (184, .imul, 0, 0, 0, 1, []) := by rw [kc147_eq]; rfl
theorem rw_147_111 : (codeOf 147)[111]? = some (185, .iadd, 0, 0, 0, 1, []) := by rw [kc147_eq]; rfl
theorem rw_147_112 : (codeOf 147)[112]? = some (186, .iconst 2, 2147483650, 0, 0, 1, []) := by rw [kc147_eq]; rfl
theorem rw_147_113 : (codeOf 147)[113]? = some (187, .iadd, 0, 0, 0, 1, []) := by rw [kc147_eq]; rfl
theorem rw_147_114 : (codeOf 147)[114]? = some (188, .iaload, 0, 0, 0, 1, []) := by rw [kc147_eq]; rfl
theorem rw_147_115 : (codeOf 147)[115]? = some (189, .isub, 0, 0, 0, 1, []) := by rw [kc147_eq]; rfl
theorem rw_147_116 : (codeOf 147)[116]? = some (190, .istore 7, 7, 0, 0, 2, []) := by rw [kc147_eq]; rfl
theorem rw_147_117 : (codeOf 147)[117]? = some (192, .aload 0, 0, 0, 3, 1, []) := by rw [kc147_eq]; rfl
theorem rw_147_118 : (codeOf 147)[118]? = some (193, .iload 6, 6, 0, 0, 2, []) := by rw [kc147_eq]; rfl
theorem rw_147_119 : (codeOf 147)[119]? = some (195, .invokevirtual 118, 151, 0, 0, 3, []) := by rw [kc147_eq]; rfl
theorem rw_147_120 : (codeOf 147)[120]? = some (198, .aload 0, 0, 0, 3, 1, []) := by rw [kc147_eq]; rfl
theorem rw_147_121 : (codeOf 147)[121]? = some (199, .iload 1, 1, 0, 0, 1, []) := by rw [kc147_eq]; rfl
theorem rw_147_122 : (codeOf 147)[122]? = some (200, .iconst 1, 2147483649, 0, 0, 1, []) := by rw [kc147_eq]; rfl
theorem rw_147_123 : (codeOf 147)[123]? = some (201, .iconst 1, 2147483649, 0, 0, 1, []) := by rw [kc147_eq]; rfl
theorem rw_147_124 : (codeOf 147)[124]? = some (202, .invokevirtual 121, 152, 0, 0, 3, []) := by rw [kc147_eq]; rfl
theorem rw_147_125 : (codeOf 147)[125]? = some (205, .aload 0, 0, 0, 3, 1, []) := by rw [kc147_eq]; rfl
theorem rw_147_126 : (codeOf 147)[126]? = some (206, .iload 1, 1, 0, 0, 1, []) := by rw [kc147_eq]; rfl
theorem rw_147_127 : (codeOf 147)[127]? = some (207, .iload 7, 7, 0, 0, 2, []) := by rw [kc147_eq]; rfl
theorem rw_147_128 : (codeOf 147)[128]? = some (209, .invokevirtual 136, 156, 0, 0, 3, []) := by rw [kc147_eq]; rfl
theorem rw_147_129 : (codeOf 147)[129]? = some (212, .iload 5, 5, 0, 0, 2, []) := by rw [kc147_eq]; rfl
theorem rw_147_130 : (codeOf 147)[130]? = some (214, .ifCond .ne 8, 222, 134, 0, 3, []) := by rw [kc147_eq]; rfl
theorem rw_147_131 : (codeOf 147)[131]? = some (217, .aload 0, 0, 0, 3, 1, []) := by rw [kc147_eq]; rfl
theorem rw_147_132 : (codeOf 147)[132]? = some (218, .iload 1, 1, 0, 0, 1, []) := by rw [kc147_eq]; rfl
theorem rw_147_133 : (codeOf 147)[133]? = some (219, .invokevirtual 139, 157, 0, 0, 3, []) := by rw [kc147_eq]; rfl
theorem rw_147_134 : (codeOf 147)[134]? = some (222, .iconst 1, 2147483649, 0, 0, 1, []) := by rw [kc147_eq]; rfl
theorem rw_147_135 : (codeOf 147)[135]? = some (223, .ireturn, 2, 0, 0, 1, []) := by rw [kc147_eq]; rfl
theorem kc160_eq : codeOf 160 = kc160 := rfl
theorem hk_160 : 160 < 186 := by decide
theorem rw_160_0 : (codeOf 160)[0]? = some (0, .monitorexit, 1280, 0, 0, 0, []) := by rw [kc160_eq]; rfl
theorem rw_160_1 : (codeOf 160)[1]? = some (0, .aload 0, 0, 0, 3, 1, []) := by rw [kc160_eq]; rfl
theorem rw_160_2 : (codeOf 160)[2]? = some (1, .iload 1, 1, 0, 0, 1, []) := by rw [kc160_eq]; rfl
theorem rw_160_3 : (codeOf 160)[3]? = some (2, .invokevirtual 127, 149, 0, 0, 3, []) := by rw [kc160_eq]; rfl
theorem rw_160_4 : (codeOf 160)[4]? = some (5, .iconst (-9), 2147483639, 0, 0, 2, []) := by rw [kc160_eq]; rfl
theorem rw_160_5 : (codeOf 160)[5]? = some (7, .if_icmp .eq 16, 23, 13, 0, 3, []) := by rw [kc160_eq]; rfl
theorem rw_160_6 : (codeOf 160)[6]? = some (10, .aload 0, 0, 0, 3, 1, []) := by rw [kc160_eq]; rfl
theorem rw_160_7 : (codeOf 160)[7]? = some (11, .iload 1, 1, 0, 0, 1, []) := by rw [kc160_eq]; rfl
theorem rw_160_8 : (codeOf 160)[8]? = some (12, .aload 0, 0, 0, 3, 1, []) := by rw [kc160_eq]; rfl
theorem rw_160_9 : (codeOf 160)[9]? = some (13, .iload 1, 1, 0, 0, 1, []) := by rw [kc160_eq]; rfl
theorem rw_160_10 : (codeOf 160)[10]? = some (14, .invokevirtual 127, 149, 0, 0, 3, []) := by rw [kc160_eq]; rfl
theorem rw_160_11 : (codeOf 160)[11]? = some (17, .invokevirtual 130, 150, 0, 0, 3, []) := by rw [kc160_eq]; rfl
theorem rw_160_12 : (codeOf 160)[12]? = some (20, .goto (-20), 0, 0, 0, 3, []) := by rw [kc160_eq]; rfl
theorem rw_160_13 : (codeOf 160)[13]? = some (23, .aload 0, 0, 0, 3, 1, []) := by rw [kc160_eq]; rfl
theorem rw_160_14 : (codeOf 160)[14]? = some (24, .iload 1, 1, 0, 0, 1, []) := by rw [kc160_eq]; rfl
theorem rw_160_15 : (codeOf 160)[15]? = some (25, .iconst 4, 2147483652, 0, 0, 1, []) := by rw [kc160_eq]; rfl
theorem rw_160_16 : (codeOf 160)[16]? = some (26, .iconst 1, 2147483649, 0, 0, 1, []) := by rw [kc160_eq]; rfl
theorem rw_160_17 : (codeOf 160)[17]? = some (27, .invokevirtual 121, 152, 0, 0, 3, []) := by rw [kc160_eq]; rfl
theorem rw_160_18 : (codeOf 160)[18]? = some (30, .aload 0, 0, 0, 3, 1, []) := by rw [kc160_eq]; rfl
theorem rw_160_19 : (codeOf 160)[19]? = some (31, .iload 1, 1, 0, 0, 1, []) := by rw [kc160_eq]; rfl
theorem rw_160_20 : (codeOf 160)[20]? = some (32, .iconst 4, 2147483652, 0, 0, 1, []) := by rw [kc160_eq]; rfl
theorem rw_160_21 : (codeOf 160)[21]? = some (33, .iconst 2, 2147483650, 0, 0, 1, []) := by rw [kc160_eq]; rfl
theorem rw_160_22 : (codeOf 160)[22]? = some (34, .invokevirtual 133, 153, 0, 0, 3, []) := by rw [kc160_eq]; rfl
theorem rw_160_23 : (codeOf 160)[23]? = some (37, .aload 0, 0, 0, 3, 1, []) := by rw [kc160_eq]; rfl
theorem rw_160_24 : (codeOf 160)[24]? = some (38, .iload 1, 1, 0, 0, 1, []) := by rw [kc160_eq]; rfl
theorem rw_160_25 : (codeOf 160)[25]? = some (39, .iconst 5, 2147483653, 0, 0, 1, []) := by rw [kc160_eq]; rfl
theorem rw_160_26 : (codeOf 160)[26]? = some (40, .iconst 16, 2147483664, 0, 0, 2, []) := by rw [kc160_eq]; rfl
theorem rw_160_27 : (codeOf 160)[27]? = some (42, .invokevirtual 66, 119, 0, 0, 3, []) := by rw [kc160_eq]; rfl
theorem rw_160_28 : (codeOf 160)[28]? = some (45, .aload 0, 0, 0, 3, 1, []) := by rw [kc160_eq]; rfl
theorem rw_160_29 : (codeOf 160)[29]? = some (46, .iload 1, 1, 0, 0, 1, []) := by rw [kc160_eq]; rfl
theorem rw_160_30 : (codeOf 160)[30]? = some (47, .iconst 11, 2147483659, 0, 0, 2, []) := by rw [kc160_eq]; rfl
theorem rw_160_31 : (codeOf 160)[31]? = some (49, .iconst 6, 2147483654, 0, 0, 2, []) := by rw [kc160_eq]; rfl
theorem rw_160_32 : (codeOf 160)[32]? = some (51, .aload 0, 0, 0, 3, 1, []) := by rw [kc160_eq]; rfl
theorem rw_160_33 : (codeOf 160)[33]? = some (52, .iload 1, 1, 0, 0, 1, []) := by rw [kc160_eq]; rfl
theorem rw_160_34 : (codeOf 160)[34]? = some (53, .iconst 11, 2147483659, 0, 0, 2, []) := by rw [kc160_eq]; rfl
theorem rw_160_35 : (codeOf 160)[35]? = some (55, .invokevirtual 62, 130, 0, 0, 3, []) := by rw [kc160_eq]; rfl
theorem rw_160_36 : (codeOf 160)[36]? = some (58, .iconst 1, 2147483649, 0, 0, 1, []) := by rw [kc160_eq]; rfl
theorem rw_160_37 : (codeOf 160)[37]? = some (59, .iadd, 0, 0, 0, 1, []) := by rw [kc160_eq]; rfl
theorem rw_160_38 : (codeOf 160)[38]? = some (60, .invokestatic 96, 137, 0, 0, 3, []) := by rw [kc160_eq]; rfl
theorem rw_160_39 : (codeOf 160)[39]? = some (63, .invokevirtual 66, 119, 0, 0, 3, []) := by rw [kc160_eq]; rfl
theorem rw_160_40 : (codeOf 160)[40]? = some (66, .return_, 0, 0, 0, 1, []) := by rw [kc160_eq]; rfl
section MF
variable {d k j : Nat} {lv : List (Option Value)} {st : List Value} {ph : PH} {Q : Option Value → PH → Prop} {B : PH} {p : Nat → Int32} {a : Nat → Nat → Int32} {z : Nat → Int32}
theorem zr_mono {Q' : Option Value → PH → Prop} (hq : ∀ v ph', Q v ph' → Q' v ph') (h : ZR d k j lv st ph Q) : ZR d k j lv st ph Q' := by
  intro clv nc ns hL
  obtain ⟨e, he, m, v, ph', nc', ns', r1, r2⟩ := h clv nc ns hL
  exact ⟨e, he, m, v, ph', nc', ns', r1, hq v ph' r2⟩
theorem c_countsS (hk : k < 186) (hB : 87 ≤ B.length) {pc b x ix : Nat} {ts : List Nat} {c w : Int} {y : Int32} (hrow : (codeOf k)[j]? = some (pc, .invokevirtual ix, 152, b, x, 3, ts)) (cn wn : Nat) (hc : c = (cn : Int)) (hw : w = (wn : Int)) (hc9 : cn < 10) (hw6 : wn < 6) (hne : wn ≠ 1) (hcat : catS st ≤ 8) (h : ∀ q, Soft p q → ZR (d + 2) k (j + 1) lv st (mh B q a z) Q) : ZR (d + 2) k j lv (.int y :: .int (iv w) :: .int (iv c) :: .ref 75 :: st) (mh B p a z) Q := by
  refine c_counts hk hB hrow (21 * cn + (15 + wn)) (by omega) (by omega) hcat (h _ (Soft.upd hc9 (by omega) (by omega) (by omega) (by omega)))
/-- neither what is counted nor the acknowledgements change -/
def Mild (p q : Nat → Int32) : Prop := (∀ i, 1000 ≤ i → q i = p i) ∧ q 214 = p 214 ∧ q 219 = p 219 ∧ ∀ b, b < 10 → q (21 * b) = p (21 * b) ∧ q (21 * b + 16) = p (21 * b + 16)
theorem Mild.rfl' (p : Nat → Int32) : Mild p p := ⟨fun _ _ => rfl, rfl, rfl, fun _ _ => ⟨rfl, rfl⟩⟩
theorem Mild.trans {p q r : Nat → Int32} (h1 : Mild p q) (h2 : Mild q r) : Mild p r := ⟨fun i hi => (h2.1 i hi).trans (h1.1 i hi), h2.2.1.trans h1.2.1, h2.2.2.1.trans h1.2.2.1, fun b hb => ⟨(h2.2.2.2 b hb).1.trans (h1.2.2.2 b hb).1, (h2.2.2.2 b hb).2.trans (h1.2.2.2 b hb).2⟩⟩
theorem Soft.mild {p q : Nat → Int32} (h : Soft p q) : Mild p q := ⟨fun i hi => h.1 i (by omega), h.1 _ (by omega), h.1 _ (by omega), fun b hb => ⟨(h.2 b hb).1, (h.2 b hb).2.2.2.1⟩⟩
theorem Win.mild {p q : Nat → Int32} (h : Win p q) : Mild p q := ⟨fun i hi => h i (by omega) (by omega) (by omega), h _ (by omega) (by omega) (by omega), h _ (by omega) (by omega) (by omega), fun b hb => ⟨h _ (by omega) (by omega) (by omega), h _ (by omega) (by omega) (by omega)⟩⟩
/-- a packet of c is acknowledged -/
def CmT (c : Nat) (p q : Nat → Int32) : Prop := BaseOK q ∧ (∀ i, 1000 ≤ i → q i = p i) ∧ q 214 = p 214 ∧ q 219 = p 219 ∧ ∀ b, b < 10 → q (21 * b) = p (21 * b) ∧ q (21 * b + 16) = if b = c then p (21 * b + 16) + iv 1 else p (21 * b + 16)
theorem Mild.cmT {c : Nat} {p q r : Nat → Int32} (h : Mild p q) (h2 : CmT c q r) : CmT c p r := by
  obtain ⟨a1, a2, a3, a4, a5⟩ := h2
  refine ⟨a1, fun i hi => (a2 i hi).trans (h.1 i hi), a3.trans h.2.1, a4.trans h.2.2.1, fun b hb => ⟨(a5 b hb).1.trans (h.2.2.2 b hb).1, ?_⟩⟩
  rw [(a5 b hb).2, (h.2.2.2 b hb).2]
theorem BaseOK.eqv {p q : Nat → Int32} (h : BaseOK p) (e : ∀ i, (i < 210 → ∀ b, b < 10 → i ≠ 21 * b + 16) → (i < 214 ∨ i = 217 ∨ i = 218) → q i = p i) : BaseOK q := by
  obtain ⟨h1, h2, h3⟩ := h
  refine ⟨fun c hc => ?_, ?_, h3.of_eq (fun c hc => ⟨e _ (by omega) (by omega), e _ (by omega) (by omega)⟩)⟩
  · obtain ⟨b1, b2, b3, b4⟩ := h1 c hc
    refine ⟨b1.of_eq (e _ (by omega) (by omega)), b2.of_eq (e _ (by omega) (by omega)), b3.of_eq (e _ (by omega) (by omega)), fun ho => ?_⟩
    obtain ⟨c1, c2⟩ := b4 (by rw [← e (21 * c) (by omega) (by omega)]; exact ho)
    exact ⟨c1.of_eq (e _ (by omega) (by omega)), c2.of_eq (e _ (by omega) (by omega))⟩
  · obtain ⟨b1, b2, b3, b4, b5, b6⟩ := h2
    exact ⟨b1.of_eq (e _ (by omega) (by omega)), b2.of_eq (e _ (by omega) (by omega)), b3.of_eq (e _ (by omega) (by omega)), b4.of_eq (e _ (by omega) (by omega)), b5.of_eq (e _ (by omega) (by omega)), b6.of_eq (e _ (by omega) (by omega))⟩
theorem lvF_base {t F : Nat} (hb : BaseOK p) (hF1 : 1 ≤ F) (hF2 : F ≤ 200) : BaseOK (lvF p t F) :=
  hb.win (lvF_win hF2) ⟨_, lvF_217, by omega, by omega⟩ (hb.2.1.2.2.2.2.2.of_eq lvF_218)
theorem ack_base {c t F : Nat} (hb : BaseOK p) (hF1 : 1 ≤ F) (hF2 : F ≤ 200) (hc : c < 10) : BaseOK (upd (lvF p t F) (21 * c + 16) (lvF p t F (21 * c + 16) + iv 1)) :=
  (lvF_base hb hF1 hF2).eqv (fun i h1 h2 => uq_ne (by
    intro e
    by_cases h : i < 210
    · exact h1 h c hc e
    · omega))
theorem cmT_fin {c t F : Nat} {q : Nat → Int32} (hb : BaseOK p) (hF1 : 1 ≤ F) (hF2 : F ≤ 200) (hc : c < 10) (SS : Soft (upd (lvF p t F) (21 * c + 16) (lvF p t F (21 * c + 16) + iv 1)) q) : CmT c p q := by
  have hw := lvF_win (p := p) (t := t) hF2
  refine ⟨(ack_base hb hF1 hF2 hc).soft SS, fun i hi => ?_, ?_, ?_, fun b hb => ⟨?_, ?_⟩⟩
  · rw [SS.1 i (by omega), uq_ne (by omega), hw i (by omega) (by omega) (by omega)]
  · rw [SS.1 _ (by omega), uq_ne (by omega), hw _ (by omega) (by omega) (by omega)]
  · rw [SS.1 _ (by omega), uq_ne (by omega), hw _ (by omega) (by omega) (by omega)]
  · rw [(SS.2 b hb).1, uq_ne (by omega), hw _ (by omega) (by omega) (by omega)]
  · rw [(SS.2 b hb).2.2.2.1]
    by_cases e : b = c
    · subst e
      rw [if_pos rfl, uq_eq, hw _ (by omega) (by omega) (by omega)]
    · rw [if_neg e, uq_ne (by omega), hw _ (by omega) (by omega) (by omega)]
theorem ifL_all {c t F : Nat} (hb : BaseOK p) (hF1 : 1 ≤ F) (hF2 : F ≤ 200) (hc : c < 10) : BaseOK (ifL p c t F) ∧ Mild p (ifL p c t F) ∧ ifL p c t F 217 = iv ((F - 1 : Nat) : Int) ∧ ∀ i, 220 ≤ i → ifL p c t F i = lvF p t F i := by
  obtain ⟨q, hq, hs⟩ := ifL_eq (p := p) (t := t) (F := F) hc
  subst hq
  refine ⟨(lvF_base hb hF1 hF2).soft hs, (lvF_win hF2).mild.trans hs.mild, ?_, fun i hi => hs.1 i (by omega)⟩
  rw [hs.1 _ (by omega), lvF_217]
  congr 1
  omega
theorem cm_tail (hB : 87 ≤ B.length) {c F k0 : Nat} (hc : c < 10) {b m f : Int32} {e : Int} (he : inR e) (hF2 : F ≤ 200) (hF : p 217 = iv (F : Int)) (hb : BaseOK p) (hop : p (21 * c) = iv 1) (hk1 : k0 < F) (hc0 : p (3 * k0 + 220) = iv (c : Int)) (hm0 : p (3 * k0 + 221) = m) : ZR (d + 4) 147 96 [some (.ref 75), some (.int (iv ((c : Int)))), some (.int (b)), some (.int (m)), some (.int (f)), some (.int (iv (e)))] [] (mh B p a z) (fun v ph' => v = some (.int (iv 1)) ∧ ∃ q', ph' = mh B q' a z ∧ CmT c p q') := by
  refine zr_aload hk_147 rw_147_96 rfl ?_
  refine zr_iload hk_147 rw_147_97 rfl ?_
  refine zr_iload hk_147 rw_147_98 rfl ?_
  refine c_placeOf hk_147 hB rw_147_99 hF hF2 (Nat.le_of_ble_eq_true rfl) (fun r hr1 hr2 hr3 => ?_) (fun hno => absurd ⟨hc0, hm0⟩ (hno k0 hk1))
  refine zi_istore hk_147 rw_147_100 rfl (lv' := [some (.ref 75), some (.int (iv ((c : Int)))), some (.int (b)), some (.int (m)), some (.int (f)), some (.int (iv (e))), some (.int (iv ((r : Int))))]) rfl ?_
  refine zr_aload hk_147 rw_147_101 rfl ?_
  refine mz_getf hk_147 hB rw_147_102 rfl ?_
  refine zi_const hk_147 rw_147_103 (c := 214) rfl ?_
  refine mz_pld hk_147 hB rw_147_104 (214) (by omega) (by omega) ?_
  refine zr_aload hk_147 rw_147_105 rfl ?_
  refine mz_getf hk_147 hB rw_147_106 rfl ?_
  refine zi_const hk_147 rw_147_107 (c := 220) rfl ?_
  refine zi_const hk_147 rw_147_108 (c := 3) rfl ?_
  refine zr_iload hk_147 rw_147_109 rfl ?_
  refine zi_mul hk_147 rw_147_110 ?_
  refine zi_add hk_147 rw_147_111 ?_
  refine zi_const hk_147 rw_147_112 (c := 2) rfl ?_
  refine zi_add hk_147 rw_147_113 ?_
  refine mz_pld hk_147 hB rw_147_114 (3 * r + 222) (by omega) (by omega) ?_
  refine zr_isub hk_147 rw_147_115 ?_
  refine zi_istore hk_147 rw_147_116 rfl (lv' := [some (.ref 75), some (.int (iv ((c : Int)))), some (.int (b)), some (.int (m)), some (.int (f)), some (.int (iv (e))), some (.int (iv ((r : Int)))), some (.int ((_) - (_)))]) rfl ?_
  refine zr_aload hk_147 rw_147_117 rfl ?_
  refine zr_iload hk_147 rw_147_118 rfl ?_
  refine c_leavesFlight hk_147 hB rw_147_119 hF (by omega) hF2 hr1 (Nat.le_of_ble_eq_true rfl) ?_
  refine zr_aload hk_147 rw_147_120 rfl ?_
  refine zr_iload hk_147 rw_147_121 rfl ?_
  refine zi_const hk_147 rw_147_122 (c := 1) rfl ?_
  refine zi_const hk_147 rw_147_123 (c := 1) rfl ?_
  refine c_counts hk_147 hB rw_147_124 (21 * c + 16) (by omega) (by omega) (Nat.le_of_ble_eq_true rfl) ?_
  have hb2 := ack_base (t := r) hb (by omega) hF2 hc
  have SS := Soft.rfl' (upd (lvF p r F) (21 * c + 16) (lvF p r F (21 * c + 16) + iv 1))
  have hop2 : upd (lvF p r F) (21 * c + 16) (lvF p r F (21 * c + 16) + iv 1) (21 * c) = iv 1 := by rw [uq_ne (by omega), lvF_win hF2 _ (by omega) (by omega) (by omega)]; exact hop
  refine zr_aload hk_147 rw_147_125 rfl ?_
  refine zr_iload hk_147 rw_147_126 rfl ?_
  refine zr_iload hk_147 rw_147_127 rfl ?_
  refine c_measures hk_147 hB rw_147_128 hc (hb2.1 c hc).2.2.1 (Nat.le_of_ble_eq_true rfl) (fun q S => ?_)
  have SS := SS.trans S
  refine zr_iload hk_147 rw_147_129 rfl ?_
  refine zi_if_ne hk_147 rw_147_130 (by first | assumption | (unfold inR; omega)) (fun h130 => ?_) (fun h130 => ?_)
  · refine zi_const hk_147 rw_147_134 (c := 1) rfl ?_
    refine zr_ireturnB hk_147 rw_147_135 (by decide) ?_
    exact ⟨rfl, _, rfl, cmT_fin hb (by omega) hF2 hc SS⟩
  · refine zr_aload hk_147 rw_147_131 rfl ?_
    refine zr_iload hk_147 rw_147_132 rfl ?_
    refine c_grows hk_147 hB rw_147_133 hc (((hb2.soft SS).1 c hc).2.2.2 ((SS.2 c hc).1.trans hop2)).2 (Nat.le_of_ble_eq_true rfl) (fun q S => ?_)
    have SS := SS.trans S
    refine zi_const hk_147 rw_147_134 (c := 1) rfl ?_
    refine zr_ireturnB hk_147 rw_147_135 (by decide) ?_
    exact ⟨rfl, _, rfl, cmT_fin hb (by omega) hF2 hc SS⟩
theorem cm_loop (hB : 87 ≤ B.length) {c : Nat} (hc : c < 10) {b m f : Int32} {e : Int} (he : inR e) : ∀ (F : Nat) (p : Nat → Int32) (k0 : Nat), F ≤ 200 → p 217 = iv (F : Int) → BaseOK p → p (21 * c) = iv 1 → k0 < F → p (3 * k0 + 220) = iv (c : Int) → p (3 * k0 + 221) = m → ZR (d + 4) 147 46 [some (.ref 75), some (.int (iv ((c : Int)))), some (.int (b)), some (.int (m)), some (.int (f)), some (.int (iv (e)))] [] (mh B p a z) (fun v ph' => v = some (.int (iv 1)) ∧ ∃ q', ph' = mh B q' a z ∧ CmT c p q') := by
  intro F
  induction F using Nat.strongRecOn with
  | _ F ih =>
    intro p k0 hF2 hF hb hop hk1 hc0 hm0
    have SS := Soft.rfl' p
    refine zr_cut hk_147 rw_147_46 ?_
    refine zr_aload hk_147 rw_147_47 rfl ?_
    refine mz_getf hk_147 hB rw_147_48 rfl ?_
    refine zi_const hk_147 rw_147_49 (c := 220) rfl ?_
    refine zi_const hk_147 rw_147_50 (c := 3) rfl ?_
    refine zr_aload hk_147 rw_147_51 rfl ?_
    refine zr_iload hk_147 rw_147_52 rfl ?_
    refine c_firstOf hk_147 hB rw_147_53 hF hF2 (Nat.le_of_ble_eq_true rfl) (fun r hr1 hr2 hr3 => ?_) (fun hno => absurd (by rw [Nat.add_comm]; exact hc0) (hno k0 hk1))
    refine zi_mul hk_147 rw_147_54 ?_
    refine zi_add hk_147 rw_147_55 ?_
    refine zi_const hk_147 rw_147_56 (c := 1) rfl ?_
    refine zi_add hk_147 rw_147_57 ?_
    refine mz_pld hk_147 hB rw_147_58 (3 * r + 221) (by omega) (by omega) ?_
    refine zr_iload hk_147 rw_147_59 rfl ?_
    refine zo_icmp_eq hk_147 rw_147_60 (fun h60 => ?_) (fun h60 => ?_)
    · refine zr_iload hk_147 rw_147_68 rfl ?_
      refine zi_if_eq hk_147 rw_147_69 (by first | assumption | (unfold inR; omega)) (fun h69 => ?_) (fun h69 => ?_)
      · exact zr_mono (fun v ph' ⟨h1, q', h2, h3⟩ => ⟨h1, q', h2, SS.mild.cmT h3⟩) (cm_tail hB hc he hF2 ((SS.1 217 (by omega)).trans hF) (hb.soft SS) ((SS.2 c hc).1.trans hop) hk1 ((SS.1 _ (by omega)).trans hc0) ((SS.1 _ (by omega)).trans hm0))
      · refine zr_iload hk_147 rw_147_70 rfl ?_
        refine zr_aload hk_147 rw_147_71 rfl ?_
        refine zr_iload hk_147 rw_147_72 rfl ?_
        refine zi_const hk_147 rw_147_73 (c := 13) rfl ?_
        refine c_of hk_147 hB rw_147_74 (21 * c + 13) (by omega) (by omega) (Nat.le_of_ble_eq_true rfl) ?_
        refine zo_icmp_lt hk_147 rw_147_75 (fun h75 => ?_) (fun h75 => ?_)
        · exact zr_mono (fun v ph' ⟨h1, q', h2, h3⟩ => ⟨h1, q', h2, SS.mild.cmT h3⟩) (cm_tail hB hc he hF2 ((SS.1 217 (by omega)).trans hF) (hb.soft SS) ((SS.2 c hc).1.trans hop) hk1 ((SS.1 _ (by omega)).trans hc0) ((SS.1 _ (by omega)).trans hm0))
        · refine zr_aload hk_147 rw_147_76 rfl ?_
          refine zr_iload hk_147 rw_147_77 rfl ?_
          refine zi_const hk_147 rw_147_78 (c := 3) rfl ?_
          refine zi_const hk_147 rw_147_79 (c := 1) rfl ?_
          refine c_countsS hk_147 hB rw_147_80 c 3 rfl rfl (by omega) (by decide) (by decide) (Nat.le_of_ble_eq_true rfl) (fun q S => ?_)
          have SS := SS.trans S
          refine zr_aload hk_147 rw_147_81 rfl ?_
          refine zr_iload hk_147 rw_147_82 rfl ?_
          refine zi_const hk_147 rw_147_83 (c := 2) rfl ?_
          refine zi_const hk_147 rw_147_84 (c := 1) rfl ?_
          refine c_suffers hk_147 hB rw_147_85 (by omega) (Nat.le_of_ble_eq_true rfl) (fun q S => ?_)
          have SS := SS.trans S
          refine zr_aload hk_147 rw_147_86 rfl ?_
          refine zr_iload hk_147 rw_147_87 rfl ?_
          refine zi_const hk_147 rw_147_88 (c := 5) rfl ?_
          refine zi_const hk_147 rw_147_89 (c := 16) rfl ?_
          refine zr_aload hk_147 rw_147_90 rfl ?_
          refine zr_iload hk_147 rw_147_91 rfl ?_
          refine zi_const hk_147 rw_147_92 (c := 6) rfl ?_
          refine c_of hk_147 hB rw_147_93 (21 * c + 6) (by omega) (by omega) (Nat.le_of_ble_eq_true rfl) ?_
          refine zr_imul hk_147 rw_147_94 ?_
          refine c_putS hk_147 hB rw_147_95 c 5 rfl rfl (by omega) (by decide) (by decide) (fun e => absurd e (by decide)) (fun e => absurd e (by decide)) (Nat.le_of_ble_eq_true rfl) (fun q S => ?_)
          have SS := SS.trans S
          exact zr_mono (fun v ph' ⟨h1, q', h2, h3⟩ => ⟨h1, q', h2, SS.mild.cmT h3⟩) (cm_tail hB hc he hF2 ((SS.1 217 (by omega)).trans hF) (hb.soft SS) ((SS.2 c hc).1.trans hop) hk1 ((SS.1 _ (by omega)).trans hc0) ((SS.1 _ (by omega)).trans hm0))
    · refine zr_aload hk_147 rw_147_61 rfl ?_
      refine zr_iload hk_147 rw_147_62 rfl ?_
      refine zr_aload hk_147 rw_147_63 rfl ?_
      refine zr_iload hk_147 rw_147_64 rfl ?_
      refine c_firstOf hk_147 hB rw_147_65 hF hF2 (Nat.le_of_ble_eq_true rfl) (fun r2 hr21 hr22 hr23 => ?_) (fun hno => absurd (by rw [Nat.add_comm]; exact hc0) (hno k0 hk1))
      refine c_isFoundLost hk_147 hB rw_147_66 (by omega) hF (by omega) hF2 hr21 (Nat.le_of_ble_eq_true rfl) ?_
      refine zr_goto hk_147 rw_147_67 ?_
      obtain rfl : r = r2 := by
        by_cases hlt : r < r2
        · exact absurd hr2 (hr23 r hlt)
        · by_cases hlt2 : r2 < r
          · exact absurd hr22 (hr3 r2 hlt2)
          · omega
      have hrk : r < k0 := by
        by_cases hlt : k0 < r
        · exact absurd (by rw [Nat.add_comm]; exact hc0) (hr3 k0 hlt)
        · by_cases heq : k0 = r
          · subst heq; exact absurd hm0 h60
          · omega
      obtain ⟨g1, g2, g3, g4⟩ := ifL_all (t := r) hb (by omega) hF2 hc
      refine zr_mono (fun v ph' ⟨h1, q', h2, h3⟩ => ⟨h1, q', h2, g2.cmT h3⟩) (ih (F - 1) (by omega) (ifL p c r F) (k0 - 1) (by omega) g3 g1 ((g2.2.2.2 c hc).1.trans hop) (by omega) ?_ ?_)
      · rw [g4 _ (by omega), show 3 * (k0 - 1) + 220 = 220 + 3 * (k0 - 1) + 0 by omega, lvF_at (by omega) hrk hk1, ← hc0]; congr 1; omega
      · rw [g4 _ (by omega), show 3 * (k0 - 1) + 221 = 220 + 3 * (k0 - 1) + 1 by omega, lvF_at (by omega) hrk hk1, ← hm0]; congr 1; omega
theorem late_ok {x : Int32} (hb : BaseOK p) : BaseOK (upd p 215 x) ∧ Mild p (upd p 215 x) :=
  ⟨hb.eqv (fun i _ h2 => uq_ne (by omega)), fun i hi => uq_ne (by omega), uq_ne (by omega), uq_ne (by omega), fun b hb => ⟨uq_ne (by omega), uq_ne (by omega)⟩⟩
theorem comes_ok (d : Nat) (hB : 87 ≤ B.length) {cc : Int} {b m : Int32} (hcc : inR cc) (hb : BaseOK p) : ZC (d + 4) 147 [.ref 75, .int (iv cc), .int b, .int m] (mh B p a z) (fun v ph' => (v = some (.int (iv 0)) ∧ ∃ q, ph' = mh B q a z ∧ BaseOK q ∧ Mild p q) ∨ (v = some (.int (iv 1)) ∧ ∃ q, ph' = mh B q a z ∧ ∃ c, c < 10 ∧ CmT c p q)) := by
  obtain ⟨F, hF, hF2⟩ := hb.2.1.2.2.2.2.1.nat
  have hF2 : F ≤ 200 := by omega
  refine ZC.of (lv := [some (.ref 75), some (.int (iv (cc))), some (.int (b)), some (.int (m))]) hk_147 (fun i v hv => ?_) ?_
  · match i, hv with
    | 0, hv => cases hv; rfl
    | 1, hv => cases hv; rfl
    | 2, hv => cases hv; rfl
    | 3, hv => cases hv; rfl
    | i + 4, hv => simp at hv
  refine zr_aload hk_147 rw_147_0 rfl ?_
  refine zr_iload hk_147 rw_147_1 rfl ?_
  refine c_isOpen hk_147 hB rw_147_2 hcc (Nat.le_of_ble_eq_true rfl) (fun h2c => ?_) (fun h2c => ?_)
  · obtain ⟨c, rfl, hc9, hop⟩ := h2c
    have hc : c < 10 := by omega
    refine zi_if_eq hk_147 rw_147_3 (by unfold inR; omega) (fun h => absurd h (by decide)) (fun _ => ?_)
    refine zr_aload hk_147 rw_147_4 rfl ?_
    refine zr_iload hk_147 rw_147_5 rfl ?_
    refine zi_const hk_147 rw_147_6 (c := 1) rfl ?_
    refine c_of hk_147 hB rw_147_7 (21 * c + 1) (by omega) (by omega) (Nat.le_of_ble_eq_true rfl) ?_
    refine zr_iload hk_147 rw_147_8 rfl ?_
    refine zo_icmp_ne hk_147 rw_147_9 (fun h9 => ?_) (fun h9 => ?_)
    · refine zr_aload hk_147 rw_147_16 rfl ?_
      refine mz_getf hk_147 hB rw_147_17 rfl ?_
      refine zi_const hk_147 rw_147_18 (c := 215) rfl ?_
      refine zr_dup2 hk_147 rw_147_19 rfl rfl ?_
      refine mz_pld hk_147 hB rw_147_20 (215) (by omega) (by omega) ?_
      refine zi_const hk_147 rw_147_21 (c := 1) rfl ?_
      refine zr_iadd hk_147 rw_147_22 ?_
      refine mz_pst hk_147 hB rw_147_23 (215) (by omega) (by omega) ?_
      refine zi_const hk_147 rw_147_24 (c := 0) rfl ?_
      refine zr_ireturnB hk_147 rw_147_25 (by decide) ?_
      exact Or.inl ⟨rfl, _, rfl, late_ok hb⟩
    · refine zr_aload hk_147 rw_147_10 rfl ?_
      refine zr_iload hk_147 rw_147_11 rfl ?_
      refine zr_iload hk_147 rw_147_12 rfl ?_
      refine c_placeOf hk_147 hB rw_147_13 hF hF2 (Nat.le_of_ble_eq_true rfl) (fun r hr1 hr2 hr3 => ?_) (fun hno => ?_)
      · refine zi_const hk_147 rw_147_14 (c := -9) rfl ?_
        refine zi_icmp_ne hk_147 rw_147_15 (by first | assumption | (unfold inR; omega)) (by first | assumption | (unfold inR; omega)) (fun h15 => ?_) (fun h15 => by omega)
        refine zr_aload hk_147 rw_147_26 rfl ?_
        refine mz_getf hk_147 hB rw_147_27 rfl ?_
        refine zi_const hk_147 rw_147_28 (c := 220) rfl ?_
        refine zi_const hk_147 rw_147_29 (c := 3) rfl ?_
        refine zr_aload hk_147 rw_147_30 rfl ?_
        refine zr_iload hk_147 rw_147_31 rfl ?_
        refine c_firstOf hk_147 hB rw_147_32 hF hF2 (Nat.le_of_ble_eq_true rfl) (fun r2 hr21 hr22 hr23 => ?_) (fun hno => absurd (by rw [Nat.add_comm]; exact hr2) (hno r hr1))
        refine zi_mul hk_147 rw_147_33 ?_
        refine zi_add hk_147 rw_147_34 ?_
        refine zi_const hk_147 rw_147_35 (c := 1) rfl ?_
        refine zi_add hk_147 rw_147_36 ?_
        refine mz_pld hk_147 hB rw_147_37 (3 * r2 + 221) (by omega) (by omega) ?_
        refine zi_istore hk_147 rw_147_38 rfl (lv' := [some (.ref 75), some (.int (iv ((c : Int)))), some (.int (b)), some (.int (m)), some (.int (_))]) rfl ?_
        refine zr_iload hk_147 rw_147_39 rfl ?_
        refine zr_iload hk_147 rw_147_40 rfl ?_
        refine zo_icmp_eq hk_147 rw_147_41 (fun h41 => ?_) (fun h41 => ?_)
        · refine zi_const hk_147 rw_147_44 (c := 0) rfl ?_
          refine zi_istore hk_147 rw_147_45 rfl (lv' := [some (.ref 75), some (.int (iv ((c : Int)))), some (.int (b)), some (.int (m)), some (.int (_)), some (.int (iv (0)))]) rfl ?_
          exact zr_mono (fun v ph' ⟨h1, q', h2, h3⟩ => Or.inr ⟨h1, q', h2, c, hc, h3⟩) (cm_loop hB hc (by unfold inR; omega) F p r hF2 hF hb hop hr1 hr2 hr3)
        · refine zi_const hk_147 rw_147_42 (c := 1) rfl ?_
          refine zr_goto hk_147 rw_147_43 ?_
          refine zi_istore hk_147 rw_147_45 rfl (lv' := [some (.ref 75), some (.int (iv ((c : Int)))), some (.int (b)), some (.int (m)), some (.int (_)), some (.int (iv (1)))]) rfl ?_
          exact zr_mono (fun v ph' ⟨h1, q', h2, h3⟩ => Or.inr ⟨h1, q', h2, c, hc, h3⟩) (cm_loop hB hc (by unfold inR; omega) F p r hF2 hF hb hop hr1 hr2 hr3)
      · refine zi_const hk_147 rw_147_14 (c := -9) rfl ?_
        refine zi_icmp_ne hk_147 rw_147_15 (by first | assumption | (unfold inR; omega)) (by first | assumption | (unfold inR; omega)) (fun h15 => by omega) (fun h15 => ?_)
        refine zr_aload hk_147 rw_147_16 rfl ?_
        refine mz_getf hk_147 hB rw_147_17 rfl ?_
        refine zi_const hk_147 rw_147_18 (c := 215) rfl ?_
        refine zr_dup2 hk_147 rw_147_19 rfl rfl ?_
        refine mz_pld hk_147 hB rw_147_20 (215) (by omega) (by omega) ?_
        refine zi_const hk_147 rw_147_21 (c := 1) rfl ?_
        refine zr_iadd hk_147 rw_147_22 ?_
        refine mz_pst hk_147 hB rw_147_23 (215) (by omega) (by omega) ?_
        refine zi_const hk_147 rw_147_24 (c := 0) rfl ?_
        refine zr_ireturnB hk_147 rw_147_25 (by decide) ?_
        exact Or.inl ⟨rfl, _, rfl, late_ok hb⟩
  · refine zi_if_eq hk_147 rw_147_3 (by unfold inR; omega) (fun _ => ?_) (fun h => absurd h (by decide))
    refine zr_aload hk_147 rw_147_16 rfl ?_
    refine mz_getf hk_147 hB rw_147_17 rfl ?_
    refine zi_const hk_147 rw_147_18 (c := 215) rfl ?_
    refine zr_dup2 hk_147 rw_147_19 rfl rfl ?_
    refine mz_pld hk_147 hB rw_147_20 (215) (by omega) (by omega) ?_
    refine zi_const hk_147 rw_147_21 (c := 1) rfl ?_
    refine zr_iadd hk_147 rw_147_22 ?_
    refine mz_pst hk_147 hB rw_147_23 (215) (by omega) (by omega) ?_
    refine zi_const hk_147 rw_147_24 (c := 0) rfl ?_
    refine zr_ireturnB hk_147 rw_147_25 (by decide) ?_
    exact Or.inl ⟨rfl, _, rfl, late_ok hb⟩
theorem c_comes (hk : k < 186) (hB : 87 ≤ B.length) {pc b x ix : Nat} {ts : List Nat} {c b' m : Int32} (hrow : (codeOf k)[j]? = some (pc, .invokevirtual ix, 147, b, x, 3, ts)) (hb : BaseOK p) (hcat : catS st ≤ 8) (h0 : ∀ q, BaseOK q → Mild p q → ZR (d + 5) k (j + 1) lv (.int (iv 0) :: st) (mh B q a z) Q) (h1 : ∀ q c, c < 10 → CmT c p q → ZR (d + 5) k (j + 1) lv (.int (iv 1) :: st) (mh B q a z) Q) : ZR (d + 5) k j lv (.int m :: .int b' :: .int c :: .ref 75 :: st) (mh B p a z) Q := by
  rw [iv_of c]
  refine mz_call (L := 8) (n := 3) (as := [.int (iv c.toInt), .int b', .int m]) (r := st) hk hB hrow (by decide) (by decide) ⟨rfl, rfl, rfl, rfl⟩ rfl rfl hcat (Nat.le_of_ble_eq_true rfl) (comes_ok d hB (inR_of c) hb) ?_
  rintro w ph' (⟨rfl, q, rfl, h2, h3⟩ | ⟨rfl, q, rfl, c', h2, h3⟩)
  · exact h0 q h2 h3
  · exact h1 q c' h2 h3
theorem to_loop (hB : 87 ≤ B.length) {c : Nat} (hc : c < 10) : ∀ (F : Nat) (p : Nat → Int32), F ≤ 200 → p 217 = iv (F : Int) → BaseOK p → ZR (d + 4) 160 0 [some (.ref 75), some (.int (iv ((c : Int))))] [] (mh B p a z) (fun v ph' => ∃ q', ph' = mh B q' a z ∧ v = none ∧ BaseOK q' ∧ Mild p q') := by
  intro F
  induction F using Nat.strongRecOn with
  | _ F ih =>
    intro p hF2 hF hb
    have SS := Soft.rfl' p
    refine zr_cut hk_160 rw_160_0 ?_
    refine zr_aload hk_160 rw_160_1 rfl ?_
    refine zr_iload hk_160 rw_160_2 rfl ?_
    refine c_firstOf hk_160 hB rw_160_3 hF hF2 (Nat.le_of_ble_eq_true rfl) (fun r hr1 hr2 hr3 => ?_) (fun hno => ?_)
    · refine zi_const hk_160 rw_160_4 (c := -9) rfl ?_
      refine zi_icmp_eq hk_160 rw_160_5 (by unfold inR; omega) (by unfold inR; omega) (fun h5 => by omega) (fun h5 => ?_)
      refine zr_aload hk_160 rw_160_6 rfl ?_
      refine zr_iload hk_160 rw_160_7 rfl ?_
      refine zr_aload hk_160 rw_160_8 rfl ?_
      refine zr_iload hk_160 rw_160_9 rfl ?_
      refine c_firstOf hk_160 hB rw_160_10 hF hF2 (Nat.le_of_ble_eq_true rfl) (fun r2 hr21 hr22 hr23 => ?_) (fun hno => absurd hr2 (hno r hr1))
      refine c_isFoundLost hk_160 hB rw_160_11 (by omega) hF (by omega) hF2 hr21 (Nat.le_of_ble_eq_true rfl) ?_
      refine zr_goto hk_160 rw_160_12 ?_
      obtain ⟨g1, g2, g3, g4⟩ := ifL_all (t := r2) hb (by omega) hF2 hc
      exact zr_mono (fun v ph' ⟨q', h2, h3, h4, h5⟩ => ⟨q', h2, h3, h4, g2.trans h5⟩) (ih (F - 1) (by omega) (ifL p c r2 F) (by omega) g3 g1)
    · refine zi_const hk_160 rw_160_4 (c := -9) rfl ?_
      refine zi_icmp_eq hk_160 rw_160_5 (by unfold inR; omega) (by unfold inR; omega) (fun h5 => ?_) (fun h5 => by omega)
      refine zr_aload hk_160 rw_160_13 rfl ?_
      refine zr_iload hk_160 rw_160_14 rfl ?_
      refine zi_const hk_160 rw_160_15 (c := 4) rfl ?_
      refine zi_const hk_160 rw_160_16 (c := 1) rfl ?_
      refine c_countsS hk_160 hB rw_160_17 c 4 rfl rfl (by omega) (by decide) (by decide) (Nat.le_of_ble_eq_true rfl) (fun q S => ?_)
      have SS := SS.trans S
      refine zr_aload hk_160 rw_160_18 rfl ?_
      refine zr_iload hk_160 rw_160_19 rfl ?_
      refine zi_const hk_160 rw_160_20 (c := 4) rfl ?_
      refine zi_const hk_160 rw_160_21 (c := 2) rfl ?_
      refine c_suffers hk_160 hB rw_160_22 (by omega) (Nat.le_of_ble_eq_true rfl) (fun q S => ?_)
      have SS := SS.trans S
      refine zr_aload hk_160 rw_160_23 rfl ?_
      refine zr_iload hk_160 rw_160_24 rfl ?_
      refine zi_const hk_160 rw_160_25 (c := 5) rfl ?_
      refine zi_const hk_160 rw_160_26 (c := 16) rfl ?_
      refine c_putS hk_160 hB rw_160_27 c 5 rfl rfl (by omega) (by decide) (by decide) (fun e => absurd e (by decide)) (fun e => absurd e (by decide)) (Nat.le_of_ble_eq_true rfl) (fun q S => ?_)
      have SS := SS.trans S
      refine zr_aload hk_160 rw_160_28 rfl ?_
      refine zr_iload hk_160 rw_160_29 rfl ?_
      refine zi_const hk_160 rw_160_30 (c := 11) rfl ?_
      refine zi_const hk_160 rw_160_31 (c := 6) rfl ?_
      refine zr_aload hk_160 rw_160_32 rfl ?_
      refine zr_iload hk_160 rw_160_33 rfl ?_
      refine zi_const hk_160 rw_160_34 (c := 11) rfl ?_
      refine c_of hk_160 hB rw_160_35 (21 * c + 11) (by omega) (by omega) (Nat.le_of_ble_eq_true rfl) ?_
      refine zi_const hk_160 rw_160_36 (c := 1) rfl ?_
      refine zr_iadd hk_160 rw_160_37 ?_
      refine c_least hk_160 hB rw_160_38 (Nat.le_of_ble_eq_true rfl) ?_
      refine c_putS hk_160 hB rw_160_39 c 11 rfl rfl (by omega) (by decide) (by decide) (fun e => absurd e (by decide)) (fun e => absurd e (by decide)) (Nat.le_of_ble_eq_true rfl) (fun q S => ?_)
      have SS := SS.trans S
      refine zr_return (a := 0) hk_160 rw_160_40 ?_
      exact ⟨_, rfl, rfl, hb.soft SS, SS.mild⟩
theorem timesOut_ok (d : Nat) (hB : 87 ≤ B.length) {c : Nat} (hc : c < 10) (hb : BaseOK p) : ZC (d + 4) 160 [.ref 75, .int (iv (c : Int))] (mh B p a z) (fun v ph' => ∃ q', ph' = mh B q' a z ∧ v = none ∧ BaseOK q' ∧ Mild p q') := by
  obtain ⟨F, hF, hF2⟩ := hb.2.1.2.2.2.2.1.nat
  refine ZC.of (lv := [some (.ref 75), some (.int (iv ((c : Int))))]) hk_160 (fun i v hv => ?_) (to_loop hB hc F p (by omega) hF hb)
  · match i, hv with
    | 0, hv => cases hv; rfl
    | 1, hv => cases hv; rfl
    | i + 2, hv => simp at hv
theorem c_timesOut (hk : k < 186) (hB : 87 ≤ B.length) {pc b x ix : Nat} {ts : List Nat} {c : Nat} (hrow : (codeOf k)[j]? = some (pc, .invokevirtual ix, 160, b, x, 3, ts)) (hc : c < 10) (hb : BaseOK p) (hcat : catS st ≤ 8) (h : ∀ q, BaseOK q → Mild p q → ZR (d + 5) k (j + 1) lv st (mh B q a z) Q) : ZR (d + 5) k j lv (.int (iv (c : Int)) :: .ref 75 :: st) (mh B p a z) Q := by
  refine mz_call (L := 2) (n := 1) (as := [.int (iv (c : Int))]) (r := st) hk hB hrow (by decide) (by decide) ⟨rfl, rfl, rfl, rfl⟩ rfl rfl hcat (Nat.le_of_ble_eq_true rfl) (timesOut_ok d hB hc hb) ?_
  rintro w ph' ⟨q, rfl, rfl, h2, h3⟩
  exact h q h2 h3
end MF

/-! ===== by program (wip/gen/gen96.py): the law's cases ===== -/
theorem kc0_eq : codeOf 0 = kc0 := rfl
theorem hk_0 : 0 < 186 := by decide
theorem rw_0_23 : (codeOf 0)[23]? = some (152, .aload 1, 1, 0, 3, 1, []) := by rw [kc0_eq]; rfl
theorem rw_0_24 : (codeOf 0)[24]? = some (153, .aload 0, 0, 0, 3, 1, []) := by rw [kc0_eq]; rfl
theorem rw_0_25 : (codeOf 0)[25]? = some (154, .iload 3, 3, 0, 0, 1, []) := by rw [kc0_eq]; rfl
theorem rw_0_26 : (codeOf 0)[26]? = some (155, .iconst 1, 2147483649, 0, 0, 1, []) := by rw [kc0_eq]; rfl
theorem rw_0_27 : (codeOf 0)[27]? = some (156, .iadd, 0, 0, 0, 1, []) := by rw [kc0_eq]; rfl
theorem rw_0_28 : (codeOf 0)[28]? = some (157, .iaload, 0, 0, 0, 1, []) := by rw [kc0_eq]; rfl
theorem rw_0_29 : (codeOf 0)[29]? = some (158, .invokevirtual 13, 21, 0, 0, 3, []) := by rw [kc0_eq]; rfl
theorem rw_0_30 : (codeOf 0)[30]? = some (161, .pop, 0, 0, 0, 1, []) := by rw [kc0_eq]; rfl
theorem rw_0_31 : (codeOf 0)[31]? = some (162, .aload 2, 2, 0, 3, 1, []) := by rw [kc0_eq]; rfl
theorem rw_0_32 : (codeOf 0)[32]? = some (163, .aload 0, 0, 0, 3, 1, []) := by rw [kc0_eq]; rfl
theorem rw_0_33 : (codeOf 0)[33]? = some (164, .iload 3, 3, 0, 0, 1, []) := by rw [kc0_eq]; rfl
theorem rw_0_34 : (codeOf 0)[34]? = some (165, .iconst 1, 2147483649, 0, 0, 1, []) := by rw [kc0_eq]; rfl
theorem rw_0_35 : (codeOf 0)[35]? = some (166, .iadd, 0, 0, 0, 1, []) := by rw [kc0_eq]; rfl
theorem rw_0_36 : (codeOf 0)[36]? = some (167, .iaload, 0, 0, 0, 1, []) := by rw [kc0_eq]; rfl
theorem rw_0_37 : (codeOf 0)[37]? = some (168, .invokevirtual 17, 120, 0, 0, 3, []) := by rw [kc0_eq]; rfl
theorem rw_0_38 : (codeOf 0)[38]? = some (171, .pop, 0, 0, 0, 1, []) := by rw [kc0_eq]; rfl
theorem rw_0_39 : (codeOf 0)[39]? = some (172, .goto 648, 820, 535, 0, 3, []) := by rw [kc0_eq]; rfl
theorem rw_0_40 : (codeOf 0)[40]? = some (175, .aload 1, 1, 0, 3, 1, []) := by rw [kc0_eq]; rfl
theorem rw_0_41 : (codeOf 0)[41]? = some (176, .invokevirtual 18, 23, 0, 0, 3, []) := by rw [kc0_eq]; rfl
theorem rw_0_42 : (codeOf 0)[42]? = some (179, .pop, 0, 0, 0, 1, []) := by rw [kc0_eq]; rfl
theorem rw_0_43 : (codeOf 0)[43]? = some (180, .aload 2, 2, 0, 3, 1, []) := by rw [kc0_eq]; rfl
theorem rw_0_44 : (codeOf 0)[44]? = some (181, .invokevirtual 22, 122, 0, 0, 3, []) := by rw [kc0_eq]; rfl
theorem rw_0_45 : (codeOf 0)[45]? = some (184, .pop, 0, 0, 0, 1, []) := by rw [kc0_eq]; rfl
theorem rw_0_46 : (codeOf 0)[46]? = some (185, .goto 635, 820, 535, 0, 3, []) := by rw [kc0_eq]; rfl
theorem rw_0_47 : (codeOf 0)[47]? = some (188, .aload 1, 1, 0, 3, 1, []) := by rw [kc0_eq]; rfl
theorem rw_0_48 : (codeOf 0)[48]? = some (189, .invokevirtual 23, 24, 0, 0, 3, []) := by rw [kc0_eq]; rfl
theorem rw_0_49 : (codeOf 0)[49]? = some (192, .pop, 0, 0, 0, 1, []) := by rw [kc0_eq]; rfl
theorem rw_0_50 : (codeOf 0)[50]? = some (193, .aload 2, 2, 0, 3, 1, []) := by rw [kc0_eq]; rfl
theorem rw_0_51 : (codeOf 0)[51]? = some (194, .invokevirtual 26, 123, 0, 0, 3, []) := by rw [kc0_eq]; rfl
theorem rw_0_52 : (codeOf 0)[52]? = some (197, .pop, 0, 0, 0, 1, []) := by rw [kc0_eq]; rfl
theorem rw_0_53 : (codeOf 0)[53]? = some (198, .goto 622, 820, 535, 0, 3, []) := by rw [kc0_eq]; rfl
theorem rw_0_54 : (codeOf 0)[54]? = some (201, .aload 1, 1, 0, 3, 1, []) := by rw [kc0_eq]; rfl
theorem rw_0_55 : (codeOf 0)[55]? = some (202, .invokevirtual 27, 44, 0, 0, 3, []) := by rw [kc0_eq]; rfl
theorem rw_0_56 : (codeOf 0)[56]? = some (205, .aload 2, 2, 0, 3, 1, []) := by rw [kc0_eq]; rfl
theorem rw_0_57 : (codeOf 0)[57]? = some (206, .invokevirtual 30, 131, 0, 0, 3, []) := by rw [kc0_eq]; rfl
theorem rw_0_58 : (codeOf 0)[58]? = some (209, .if_icmp .eq 611, 820, 535, 0, 3, []) := by rw [kc0_eq]; rfl
theorem rw_0_61 : (codeOf 0)[61]? = some (214, .aload 1, 1, 0, 3, 1, []) := by rw [kc0_eq]; rfl
theorem rw_0_62 : (codeOf 0)[62]? = some (215, .aload 0, 0, 0, 3, 1, []) := by rw [kc0_eq]; rfl
theorem rw_0_63 : (codeOf 0)[63]? = some (216, .iload 3, 3, 0, 0, 1, []) := by rw [kc0_eq]; rfl
theorem rw_0_64 : (codeOf 0)[64]? = some (217, .iconst 1, 2147483649, 0, 0, 1, []) := by rw [kc0_eq]; rfl
theorem rw_0_65 : (codeOf 0)[65]? = some (218, .iadd, 0, 0, 0, 1, []) := by rw [kc0_eq]; rfl
theorem rw_0_66 : (codeOf 0)[66]? = some (219, .iaload, 0, 0, 0, 1, []) := by rw [kc0_eq]; rfl
theorem rw_0_67 : (codeOf 0)[67]? = some (220, .aload 0, 0, 0, 3, 1, []) := by rw [kc0_eq]; rfl
theorem rw_0_68 : (codeOf 0)[68]? = some (221, .iload 3, 3, 0, 0, 1, []) := by rw [kc0_eq]; rfl
theorem rw_0_69 : (codeOf 0)[69]? = some (222, .iconst 2, 2147483650, 0, 0, 1, []) := by rw [kc0_eq]; rfl
theorem rw_0_70 : (codeOf 0)[70]? = some (223, .iadd, 0, 0, 0, 1, []) := by rw [kc0_eq]; rfl
theorem rw_0_71 : (codeOf 0)[71]? = some (224, .iaload, 0, 0, 0, 1, []) := by rw [kc0_eq]; rfl
theorem rw_0_72 : (codeOf 0)[72]? = some (225, .invokevirtual 31, 45, 0, 0, 3, []) := by rw [kc0_eq]; rfl
theorem rw_0_73 : (codeOf 0)[73]? = some (228, .pop, 0, 0, 0, 1, []) := by rw [kc0_eq]; rfl
theorem rw_0_74 : (codeOf 0)[74]? = some (229, .aload 2, 2, 0, 3, 1, []) := by rw [kc0_eq]; rfl
theorem rw_0_75 : (codeOf 0)[75]? = some (230, .aload 0, 0, 0, 3, 1, []) := by rw [kc0_eq]; rfl
theorem rw_0_76 : (codeOf 0)[76]? = some (231, .iload 3, 3, 0, 0, 1, []) := by rw [kc0_eq]; rfl
theorem rw_0_77 : (codeOf 0)[77]? = some (232, .iconst 1, 2147483649, 0, 0, 1, []) := by rw [kc0_eq]; rfl
theorem rw_0_78 : (codeOf 0)[78]? = some (233, .iadd, 0, 0, 0, 1, []) := by rw [kc0_eq]; rfl
theorem rw_0_79 : (codeOf 0)[79]? = some (234, .iaload, 0, 0, 0, 1, []) := by rw [kc0_eq]; rfl
theorem rw_0_80 : (codeOf 0)[80]? = some (235, .aload 0, 0, 0, 3, 1, []) := by rw [kc0_eq]; rfl
theorem rw_0_81 : (codeOf 0)[81]? = some (236, .iload 3, 3, 0, 0, 1, []) := by rw [kc0_eq]; rfl
theorem rw_0_82 : (codeOf 0)[82]? = some (237, .iconst 2, 2147483650, 0, 0, 1, []) := by rw [kc0_eq]; rfl
theorem rw_0_83 : (codeOf 0)[83]? = some (238, .iadd, 0, 0, 0, 1, []) := by rw [kc0_eq]; rfl
theorem rw_0_84 : (codeOf 0)[84]? = some (239, .iaload, 0, 0, 0, 1, []) := by rw [kc0_eq]; rfl
theorem rw_0_85 : (codeOf 0)[85]? = some (240, .invokevirtual 35, 132, 0, 0, 3, []) := by rw [kc0_eq]; rfl
theorem rw_0_86 : (codeOf 0)[86]? = some (243, .pop, 0, 0, 0, 1, []) := by rw [kc0_eq]; rfl
theorem rw_0_87 : (codeOf 0)[87]? = some (244, .goto 576, 820, 535, 0, 3, []) := by rw [kc0_eq]; rfl
theorem rw_0_88 : (codeOf 0)[88]? = some (247, .aload 1, 1, 0, 3, 1, []) := by rw [kc0_eq]; rfl
theorem rw_0_89 : (codeOf 0)[89]? = some (248, .aload 0, 0, 0, 3, 1, []) := by rw [kc0_eq]; rfl
theorem rw_0_90 : (codeOf 0)[90]? = some (249, .iload 3, 3, 0, 0, 1, []) := by rw [kc0_eq]; rfl
theorem rw_0_91 : (codeOf 0)[91]? = some (250, .iconst 1, 2147483649, 0, 0, 1, []) := by rw [kc0_eq]; rfl
theorem rw_0_92 : (codeOf 0)[92]? = some (251, .iadd, 0, 0, 0, 1, []) := by rw [kc0_eq]; rfl
theorem rw_0_93 : (codeOf 0)[93]? = some (252, .iaload, 0, 0, 0, 1, []) := by rw [kc0_eq]; rfl
theorem rw_0_94 : (codeOf 0)[94]? = some (253, .invokevirtual 36, 47, 0, 0, 3, []) := by rw [kc0_eq]; rfl
theorem rw_0_95 : (codeOf 0)[95]? = some (256, .pop, 0, 0, 0, 1, []) := by rw [kc0_eq]; rfl
theorem rw_0_96 : (codeOf 0)[96]? = some (257, .aload 2, 2, 0, 3, 1, []) := by rw [kc0_eq]; rfl
theorem rw_0_97 : (codeOf 0)[97]? = some (258, .aload 0, 0, 0, 3, 1, []) := by rw [kc0_eq]; rfl
theorem rw_0_98 : (codeOf 0)[98]? = some (259, .iload 3, 3, 0, 0, 1, []) := by rw [kc0_eq]; rfl
theorem rw_0_99 : (codeOf 0)[99]? = some (260, .iconst 1, 2147483649, 0, 0, 1, []) := by rw [kc0_eq]; rfl
theorem rw_0_100 : (codeOf 0)[100]? = some (261, .iadd, 0, 0, 0, 1, []) := by rw [kc0_eq]; rfl
theorem rw_0_101 : (codeOf 0)[101]? = some (262, .iaload, 0, 0, 0, 1, []) := by rw [kc0_eq]; rfl
theorem rw_0_102 : (codeOf 0)[102]? = some (263, .invokevirtual 39, 134, 0, 0, 3, []) := by rw [kc0_eq]; rfl
theorem rw_0_103 : (codeOf 0)[103]? = some (266, .pop, 0, 0, 0, 1, []) := by rw [kc0_eq]; rfl
theorem rw_0_104 : (codeOf 0)[104]? = some (267, .goto 553, 820, 535, 0, 3, []) := by rw [kc0_eq]; rfl
theorem rw_0_105 : (codeOf 0)[105]? = some (270, .aload 1, 1, 0, 3, 1, []) := by rw [kc0_eq]; rfl
theorem rw_0_106 : (codeOf 0)[106]? = some (271, .aload 0, 0, 0, 3, 1, []) := by rw [kc0_eq]; rfl
theorem rw_0_107 : (codeOf 0)[107]? = some (272, .iload 3, 3, 0, 0, 1, []) := by rw [kc0_eq]; rfl
theorem rw_0_108 : (codeOf 0)[108]? = some (273, .iconst 1, 2147483649, 0, 0, 1, []) := by rw [kc0_eq]; rfl
theorem rw_0_109 : (codeOf 0)[109]? = some (274, .iadd, 0, 0, 0, 1, []) := by rw [kc0_eq]; rfl
theorem rw_0_110 : (codeOf 0)[110]? = some (275, .iaload, 0, 0, 0, 1, []) := by rw [kc0_eq]; rfl
theorem rw_0_111 : (codeOf 0)[111]? = some (276, .aload 0, 0, 0, 3, 1, []) := by rw [kc0_eq]; rfl
theorem rw_0_112 : (codeOf 0)[112]? = some (277, .iload 3, 3, 0, 0, 1, []) := by rw [kc0_eq]; rfl
theorem rw_0_113 : (codeOf 0)[113]? = some (278, .iconst 2, 2147483650, 0, 0, 1, []) := by rw [kc0_eq]; rfl
theorem rw_0_114 : (codeOf 0)[114]? = some (279, .iadd, 0, 0, 0, 1, []) := by rw [kc0_eq]; rfl
theorem rw_0_115 : (codeOf 0)[115]? = some (280, .iaload, 0, 0, 0, 1, []) := by rw [kc0_eq]; rfl
theorem rw_0_116 : (codeOf 0)[116]? = some (281, .invokevirtual 40, 52, 0, 0, 3, []) := by rw [kc0_eq]; rfl
theorem rw_0_117 : (codeOf 0)[117]? = some (284, .pop, 0, 0, 0, 1, []) := by rw [kc0_eq]; rfl
theorem rw_0_118 : (codeOf 0)[118]? = some (285, .aload 2, 2, 0, 3, 1, []) := by rw [kc0_eq]; rfl
theorem rw_0_119 : (codeOf 0)[119]? = some (286, .aload 0, 0, 0, 3, 1, []) := by rw [kc0_eq]; rfl
theorem rw_0_120 : (codeOf 0)[120]? = some (287, .iload 3, 3, 0, 0, 1, []) := by rw [kc0_eq]; rfl
theorem rw_0_121 : (codeOf 0)[121]? = some (288, .iconst 1, 2147483649, 0, 0, 1, []) := by rw [kc0_eq]; rfl
theorem rw_0_122 : (codeOf 0)[122]? = some (289, .iadd, 0, 0, 0, 1, []) := by rw [kc0_eq]; rfl
theorem rw_0_123 : (codeOf 0)[123]? = some (290, .iaload, 0, 0, 0, 1, []) := by rw [kc0_eq]; rfl
theorem rw_0_124 : (codeOf 0)[124]? = some (291, .aload 0, 0, 0, 3, 1, []) := by rw [kc0_eq]; rfl
theorem rw_0_125 : (codeOf 0)[125]? = some (292, .iload 3, 3, 0, 0, 1, []) := by rw [kc0_eq]; rfl
theorem rw_0_126 : (codeOf 0)[126]? = some (293, .iconst 2, 2147483650, 0, 0, 1, []) := by rw [kc0_eq]; rfl
theorem rw_0_127 : (codeOf 0)[127]? = some (294, .iadd, 0, 0, 0, 1, []) := by rw [kc0_eq]; rfl
theorem rw_0_128 : (codeOf 0)[128]? = some (295, .iaload, 0, 0, 0, 1, []) := by rw [kc0_eq]; rfl
theorem rw_0_129 : (codeOf 0)[129]? = some (296, .invokevirtual 43, 139, 0, 0, 3, []) := by rw [kc0_eq]; rfl
theorem rw_0_130 : (codeOf 0)[130]? = some (299, .pop, 0, 0, 0, 1, []) := by rw [kc0_eq]; rfl
theorem rw_0_131 : (codeOf 0)[131]? = some (300, .goto 520, 820, 535, 0, 3, []) := by rw [kc0_eq]; rfl
theorem rw_0_132 : (codeOf 0)[132]? = some (303, .aload 1, 1, 0, 3, 1, []) := by rw [kc0_eq]; rfl
theorem rw_0_133 : (codeOf 0)[133]? = some (304, .aload 0, 0, 0, 3, 1, []) := by rw [kc0_eq]; rfl
theorem rw_0_134 : (codeOf 0)[134]? = some (305, .iload 3, 3, 0, 0, 1, []) := by rw [kc0_eq]; rfl
theorem rw_0_135 : (codeOf 0)[135]? = some (306, .iconst 1, 2147483649, 0, 0, 1, []) := by rw [kc0_eq]; rfl
theorem rw_0_136 : (codeOf 0)[136]? = some (307, .iadd, 0, 0, 0, 1, []) := by rw [kc0_eq]; rfl
theorem rw_0_137 : (codeOf 0)[137]? = some (308, .iaload, 0, 0, 0, 1, []) := by rw [kc0_eq]; rfl
theorem rw_0_138 : (codeOf 0)[138]? = some (309, .aload 0, 0, 0, 3, 1, []) := by rw [kc0_eq]; rfl
theorem rw_0_139 : (codeOf 0)[139]? = some (310, .iload 3, 3, 0, 0, 1, []) := by rw [kc0_eq]; rfl
theorem rw_0_140 : (codeOf 0)[140]? = some (311, .iconst 2, 2147483650, 0, 0, 1, []) := by rw [kc0_eq]; rfl
theorem rw_0_141 : (codeOf 0)[141]? = some (312, .iadd, 0, 0, 0, 1, []) := by rw [kc0_eq]; rfl
theorem rw_0_142 : (codeOf 0)[142]? = some (313, .iaload, 0, 0, 0, 1, []) := by rw [kc0_eq]; rfl
theorem rw_0_143 : (codeOf 0)[143]? = some (314, .invokevirtual 44, 53, 0, 0, 3, []) := by rw [kc0_eq]; rfl
theorem rw_0_144 : (codeOf 0)[144]? = some (317, .pop, 0, 0, 0, 1, []) := by rw [kc0_eq]; rfl
theorem rw_0_145 : (codeOf 0)[145]? = some (318, .aload 2, 2, 0, 3, 1, []) := by rw [kc0_eq]; rfl
theorem rw_0_146 : (codeOf 0)[146]? = some (319, .aload 0, 0, 0, 3, 1, []) := by rw [kc0_eq]; rfl
theorem rw_0_147 : (codeOf 0)[147]? = some (320, .iload 3, 3, 0, 0, 1, []) := by rw [kc0_eq]; rfl
theorem rw_0_148 : (codeOf 0)[148]? = some (321, .iconst 1, 2147483649, 0, 0, 1, []) := by rw [kc0_eq]; rfl
theorem rw_0_149 : (codeOf 0)[149]? = some (322, .iadd, 0, 0, 0, 1, []) := by rw [kc0_eq]; rfl
theorem rw_0_150 : (codeOf 0)[150]? = some (323, .iaload, 0, 0, 0, 1, []) := by rw [kc0_eq]; rfl
theorem rw_0_151 : (codeOf 0)[151]? = some (324, .aload 0, 0, 0, 3, 1, []) := by rw [kc0_eq]; rfl
theorem rw_0_152 : (codeOf 0)[152]? = some (325, .iload 3, 3, 0, 0, 1, []) := by rw [kc0_eq]; rfl
theorem rw_0_153 : (codeOf 0)[153]? = some (326, .iconst 2, 2147483650, 0, 0, 1, []) := by rw [kc0_eq]; rfl
theorem rw_0_154 : (codeOf 0)[154]? = some (327, .iadd, 0, 0, 0, 1, []) := by rw [kc0_eq]; rfl
theorem rw_0_155 : (codeOf 0)[155]? = some (328, .iaload, 0, 0, 0, 1, []) := by rw [kc0_eq]; rfl
theorem rw_0_156 : (codeOf 0)[156]? = some (329, .invokevirtual 47, 140, 0, 0, 3, []) := by rw [kc0_eq]; rfl
theorem rw_0_157 : (codeOf 0)[157]? = some (332, .pop, 0, 0, 0, 1, []) := by rw [kc0_eq]; rfl
theorem rw_0_158 : (codeOf 0)[158]? = some (333, .goto 487, 820, 535, 0, 3, []) := by rw [kc0_eq]; rfl
theorem rw_0_159 : (codeOf 0)[159]? = some (336, .aload 1, 1, 0, 3, 1, []) := by rw [kc0_eq]; rfl
theorem rw_0_160 : (codeOf 0)[160]? = some (337, .aload 0, 0, 0, 3, 1, []) := by rw [kc0_eq]; rfl
theorem rw_0_161 : (codeOf 0)[161]? = some (338, .iload 3, 3, 0, 0, 1, []) := by rw [kc0_eq]; rfl
theorem rw_0_162 : (codeOf 0)[162]? = some (339, .iconst 1, 2147483649, 0, 0, 1, []) := by rw [kc0_eq]; rfl
theorem rw_0_163 : (codeOf 0)[163]? = some (340, .iadd, 0, 0, 0, 1, []) := by rw [kc0_eq]; rfl
theorem rw_0_164 : (codeOf 0)[164]? = some (341, .iaload, 0, 0, 0, 1, []) := by rw [kc0_eq]; rfl
theorem rw_0_165 : (codeOf 0)[165]? = some (342, .invokevirtual 48, 54, 0, 0, 3, []) := by rw [kc0_eq]; rfl
theorem rw_0_166 : (codeOf 0)[166]? = some (345, .pop, 0, 0, 0, 1, []) := by rw [kc0_eq]; rfl
theorem rw_0_167 : (codeOf 0)[167]? = some (346, .aload 2, 2, 0, 3, 1, []) := by rw [kc0_eq]; rfl
theorem rw_0_168 : (codeOf 0)[168]? = some (347, .aload 0, 0, 0, 3, 1, []) := by rw [kc0_eq]; rfl
theorem rw_0_169 : (codeOf 0)[169]? = some (348, .iload 3, 3, 0, 0, 1, []) := by rw [kc0_eq]; rfl
theorem rw_0_170 : (codeOf 0)[170]? = some (349, .iconst 1, 2147483649, 0, 0, 1, []) := by rw [kc0_eq]; rfl
theorem rw_0_171 : (codeOf 0)[171]? = some (350, .iadd, 0, 0, 0, 1, []) := by rw [kc0_eq]; rfl
theorem rw_0_172 : (codeOf 0)[172]? = some (351, .iaload, 0, 0, 0, 1, []) := by rw [kc0_eq]; rfl
theorem rw_0_173 : (codeOf 0)[173]? = some (352, .invokevirtual 51, 141, 0, 0, 3, []) := by rw [kc0_eq]; rfl
theorem rw_0_174 : (codeOf 0)[174]? = some (355, .pop, 0, 0, 0, 1, []) := by rw [kc0_eq]; rfl
theorem rw_0_175 : (codeOf 0)[175]? = some (356, .goto 464, 820, 535, 0, 3, []) := by rw [kc0_eq]; rfl
theorem rw_0_176 : (codeOf 0)[176]? = some (359, .aload 1, 1, 0, 3, 1, []) := by rw [kc0_eq]; rfl
theorem rw_0_177 : (codeOf 0)[177]? = some (360, .aload 0, 0, 0, 3, 1, []) := by rw [kc0_eq]; rfl
theorem rw_0_178 : (codeOf 0)[178]? = some (361, .iload 3, 3, 0, 0, 1, []) := by rw [kc0_eq]; rfl
theorem rw_0_179 : (codeOf 0)[179]? = some (362, .iconst 1, 2147483649, 0, 0, 1, []) := by rw [kc0_eq]; rfl
theorem rw_0_180 : (codeOf 0)[180]? = some (363, .iadd, 0, 0, 0, 1, []) := by rw [kc0_eq]; rfl
theorem rw_0_181 : (codeOf 0)[181]? = some (364, .iaload, 0, 0, 0, 1, []) := by rw [kc0_eq]; rfl
theorem rw_0_182 : (codeOf 0)[182]? = some (365, .aload 0, 0, 0, 3, 1, []) := by rw [kc0_eq]; rfl
theorem rw_0_183 : (codeOf 0)[183]? = some (366, .iload 3, 3, 0, 0, 1, []) := by rw [kc0_eq]; rfl
theorem rw_0_184 : (codeOf 0)[184]? = some (367, .iconst 2, 2147483650, 0, 0, 1, []) := by rw [kc0_eq]; rfl
theorem rw_0_185 : (codeOf 0)[185]? = some (368, .iadd, 0, 0, 0, 1, []) := by rw [kc0_eq]; rfl
theorem rw_0_186 : (codeOf 0)[186]? = some (369, .iaload, 0, 0, 0, 1, []) := by rw [kc0_eq]; rfl
theorem rw_0_187 : (codeOf 0)[187]? = some (370, .invokevirtual 52, 58, 0, 0, 3, []) := by rw [kc0_eq]; rfl
theorem rw_0_188 : (codeOf 0)[188]? = some (373, .pop, 0, 0, 0, 1, []) := by rw [kc0_eq]; rfl
theorem rw_0_189 : (codeOf 0)[189]? = some (374, .aload 2, 2, 0, 3, 1, []) := by rw [kc0_eq]; rfl
theorem rw_0_190 : (codeOf 0)[190]? = some (375, .aload 0, 0, 0, 3, 1, []) := by rw [kc0_eq]; rfl
theorem rw_0_191 : (codeOf 0)[191]? = some (376, .iload 3, 3, 0, 0, 1, []) := by rw [kc0_eq]; rfl
theorem rw_0_192 : (codeOf 0)[192]? = some (377, .iconst 1, 2147483649, 0, 0, 1, []) := by rw [kc0_eq]; rfl
theorem rw_0_193 : (codeOf 0)[193]? = some (378, .iadd, 0, 0, 0, 1, []) := by rw [kc0_eq]; rfl
theorem rw_0_194 : (codeOf 0)[194]? = some (379, .iaload, 0, 0, 0, 1, []) := by rw [kc0_eq]; rfl
theorem rw_0_195 : (codeOf 0)[195]? = some (380, .aload 0, 0, 0, 3, 1, []) := by rw [kc0_eq]; rfl
theorem rw_0_196 : (codeOf 0)[196]? = some (381, .iload 3, 3, 0, 0, 1, []) := by rw [kc0_eq]; rfl
theorem rw_0_197 : (codeOf 0)[197]? = some (382, .iconst 2, 2147483650, 0, 0, 1, []) := by rw [kc0_eq]; rfl
theorem rw_0_198 : (codeOf 0)[198]? = some (383, .iadd, 0, 0, 0, 1, []) := by rw [kc0_eq]; rfl
theorem rw_0_199 : (codeOf 0)[199]? = some (384, .iaload, 0, 0, 0, 1, []) := by rw [kc0_eq]; rfl
theorem rw_0_200 : (codeOf 0)[200]? = some (385, .invokevirtual 55, 142, 0, 0, 3, []) := by rw [kc0_eq]; rfl
theorem rw_0_201 : (codeOf 0)[201]? = some (388, .pop, 0, 0, 0, 1, []) := by rw [kc0_eq]; rfl
theorem rw_0_202 : (codeOf 0)[202]? = some (389, .goto 431, 820, 535, 0, 3, []) := by rw [kc0_eq]; rfl
theorem rw_0_203 : (codeOf 0)[203]? = some (392, .aload 1, 1, 0, 3, 1, []) := by rw [kc0_eq]; rfl
theorem rw_0_204 : (codeOf 0)[204]? = some (393, .aload 0, 0, 0, 3, 1, []) := by rw [kc0_eq]; rfl
theorem rw_0_205 : (codeOf 0)[205]? = some (394, .iload 3, 3, 0, 0, 1, []) := by rw [kc0_eq]; rfl
theorem rw_0_206 : (codeOf 0)[206]? = some (395, .iconst 1, 2147483649, 0, 0, 1, []) := by rw [kc0_eq]; rfl
theorem rw_0_207 : (codeOf 0)[207]? = some (396, .iadd, 0, 0, 0, 1, []) := by rw [kc0_eq]; rfl
theorem rw_0_208 : (codeOf 0)[208]? = some (397, .iaload, 0, 0, 0, 1, []) := by rw [kc0_eq]; rfl
theorem rw_0_209 : (codeOf 0)[209]? = some (398, .invokevirtual 56, 61, 0, 0, 3, []) := by rw [kc0_eq]; rfl
theorem rw_0_210 : (codeOf 0)[210]? = some (401, .pop, 0, 0, 0, 1, []) := by rw [kc0_eq]; rfl
theorem rw_0_211 : (codeOf 0)[211]? = some (402, .aload 2, 2, 0, 3, 1, []) := by rw [kc0_eq]; rfl
theorem rw_0_212 : (codeOf 0)[212]? = some (403, .aload 0, 0, 0, 3, 1, []) := by rw [kc0_eq]; rfl
theorem rw_0_213 : (codeOf 0)[213]? = some (404, .iload 3, 3, 0, 0, 1, []) := by rw [kc0_eq]; rfl
theorem rw_0_214 : (codeOf 0)[214]? = some (405, .iconst 1, 2147483649, 0, 0, 1, []) := by rw [kc0_eq]; rfl
theorem rw_0_215 : (codeOf 0)[215]? = some (406, .iadd, 0, 0, 0, 1, []) := by rw [kc0_eq]; rfl
theorem rw_0_216 : (codeOf 0)[216]? = some (407, .iaload, 0, 0, 0, 1, []) := by rw [kc0_eq]; rfl
theorem rw_0_217 : (codeOf 0)[217]? = some (408, .invokevirtual 59, 143, 0, 0, 3, []) := by rw [kc0_eq]; rfl
theorem rw_0_218 : (codeOf 0)[218]? = some (411, .pop, 0, 0, 0, 1, []) := by rw [kc0_eq]; rfl
theorem rw_0_219 : (codeOf 0)[219]? = some (412, .goto 408, 820, 535, 0, 3, []) := by rw [kc0_eq]; rfl
theorem rw_0_220 : (codeOf 0)[220]? = some (415, .aload 1, 1, 0, 3, 1, []) := by rw [kc0_eq]; rfl
theorem rw_0_221 : (codeOf 0)[221]? = some (416, .aload 0, 0, 0, 3, 1, []) := by rw [kc0_eq]; rfl
theorem rw_0_222 : (codeOf 0)[222]? = some (417, .iload 3, 3, 0, 0, 1, []) := by rw [kc0_eq]; rfl
theorem rw_0_223 : (codeOf 0)[223]? = some (418, .iconst 1, 2147483649, 0, 0, 1, []) := by rw [kc0_eq]; rfl
theorem rw_0_224 : (codeOf 0)[224]? = some (419, .iadd, 0, 0, 0, 1, []) := by rw [kc0_eq]; rfl
theorem rw_0_225 : (codeOf 0)[225]? = some (420, .iaload, 0, 0, 0, 1, []) := by rw [kc0_eq]; rfl
theorem rw_0_226 : (codeOf 0)[226]? = some (421, .aload 0, 0, 0, 3, 1, []) := by rw [kc0_eq]; rfl
theorem rw_0_227 : (codeOf 0)[227]? = some (422, .iload 3, 3, 0, 0, 1, []) := by rw [kc0_eq]; rfl
theorem rw_0_228 : (codeOf 0)[228]? = some (423, .iconst 2, 2147483650, 0, 0, 1, []) := by rw [kc0_eq]; rfl
theorem rw_0_229 : (codeOf 0)[229]? = some (424, .iadd, 0, 0, 0, 1, []) := by rw [kc0_eq]; rfl
theorem rw_0_230 : (codeOf 0)[230]? = some (425, .iaload, 0, 0, 0, 1, []) := by rw [kc0_eq]; rfl
theorem rw_0_231 : (codeOf 0)[231]? = some (426, .invokevirtual 60, 92, 0, 0, 3, []) := by rw [kc0_eq]; rfl
theorem rw_0_232 : (codeOf 0)[232]? = some (429, .pop, 0, 0, 0, 1, []) := by rw [kc0_eq]; rfl
theorem rw_0_233 : (codeOf 0)[233]? = some (430, .aload 2, 2, 0, 3, 1, []) := by rw [kc0_eq]; rfl
theorem rw_0_234 : (codeOf 0)[234]? = some (431, .aload 0, 0, 0, 3, 1, []) := by rw [kc0_eq]; rfl
theorem rw_0_235 : (codeOf 0)[235]? = some (432, .iload 3, 3, 0, 0, 1, []) := by rw [kc0_eq]; rfl
theorem rw_0_236 : (codeOf 0)[236]? = some (433, .iconst 1, 2147483649, 0, 0, 1, []) := by rw [kc0_eq]; rfl
theorem rw_0_237 : (codeOf 0)[237]? = some (434, .iadd, 0, 0, 0, 1, []) := by rw [kc0_eq]; rfl
theorem rw_0_238 : (codeOf 0)[238]? = some (435, .iaload, 0, 0, 0, 1, []) := by rw [kc0_eq]; rfl
theorem rw_0_239 : (codeOf 0)[239]? = some (436, .aload 0, 0, 0, 3, 1, []) := by rw [kc0_eq]; rfl
theorem rw_0_240 : (codeOf 0)[240]? = some (437, .iload 3, 3, 0, 0, 1, []) := by rw [kc0_eq]; rfl
theorem rw_0_241 : (codeOf 0)[241]? = some (438, .iconst 2, 2147483650, 0, 0, 1, []) := by rw [kc0_eq]; rfl
theorem rw_0_242 : (codeOf 0)[242]? = some (439, .iadd, 0, 0, 0, 1, []) := by rw [kc0_eq]; rfl
theorem rw_0_243 : (codeOf 0)[243]? = some (440, .iaload, 0, 0, 0, 1, []) := by rw [kc0_eq]; rfl
theorem rw_0_244 : (codeOf 0)[244]? = some (441, .invokevirtual 63, 166, 0, 0, 3, []) := by rw [kc0_eq]; rfl
theorem rw_0_245 : (codeOf 0)[245]? = some (444, .pop, 0, 0, 0, 1, []) := by rw [kc0_eq]; rfl
theorem rw_0_246 : (codeOf 0)[246]? = some (445, .goto 375, 820, 535, 0, 3, []) := by rw [kc0_eq]; rfl
theorem rw_0_247 : (codeOf 0)[247]? = some (448, .aload 1, 1, 0, 3, 1, []) := by rw [kc0_eq]; rfl
theorem rw_0_248 : (codeOf 0)[248]? = some (449, .aload 0, 0, 0, 3, 1, []) := by rw [kc0_eq]; rfl
theorem rw_0_249 : (codeOf 0)[249]? = some (450, .iload 3, 3, 0, 0, 1, []) := by rw [kc0_eq]; rfl
theorem rw_0_250 : (codeOf 0)[250]? = some (451, .iconst 1, 2147483649, 0, 0, 1, []) := by rw [kc0_eq]; rfl
theorem rw_0_251 : (codeOf 0)[251]? = some (452, .iadd, 0, 0, 0, 1, []) := by rw [kc0_eq]; rfl
theorem rw_0_252 : (codeOf 0)[252]? = some (453, .iaload, 0, 0, 0, 1, []) := by rw [kc0_eq]; rfl
theorem rw_0_253 : (codeOf 0)[253]? = some (454, .aload 0, 0, 0, 3, 1, []) := by rw [kc0_eq]; rfl
theorem rw_0_254 : (codeOf 0)[254]? = some (455, .iload 3, 3, 0, 0, 1, []) := by rw [kc0_eq]; rfl
theorem rw_0_255 : (codeOf 0)[255]? = some (456, .iconst 2, 2147483650, 0, 0, 1, []) := by rw [kc0_eq]; rfl
theorem rw_0_256 : (codeOf 0)[256]? = some (457, .iadd, 0, 0, 0, 1, []) := by rw [kc0_eq]; rfl
theorem rw_0_257 : (codeOf 0)[257]? = some (458, .iaload, 0, 0, 0, 1, []) := by rw [kc0_eq]; rfl
theorem rw_0_258 : (codeOf 0)[258]? = some (459, .invokevirtual 64, 94, 0, 0, 3, []) := by rw [kc0_eq]; rfl
theorem rw_0_259 : (codeOf 0)[259]? = some (462, .pop, 0, 0, 0, 1, []) := by rw [kc0_eq]; rfl
theorem rw_0_260 : (codeOf 0)[260]? = some (463, .aload 2, 2, 0, 3, 1, []) := by rw [kc0_eq]; rfl
theorem rw_0_261 : (codeOf 0)[261]? = some (464, .aload 0, 0, 0, 3, 1, []) := by rw [kc0_eq]; rfl
theorem rw_0_262 : (codeOf 0)[262]? = some (465, .iload 3, 3, 0, 0, 1, []) := by rw [kc0_eq]; rfl
theorem rw_0_263 : (codeOf 0)[263]? = some (466, .iconst 1, 2147483649, 0, 0, 1, []) := by rw [kc0_eq]; rfl
theorem rw_0_264 : (codeOf 0)[264]? = some (467, .iadd, 0, 0, 0, 1, []) := by rw [kc0_eq]; rfl
theorem rw_0_265 : (codeOf 0)[265]? = some (468, .iaload, 0, 0, 0, 1, []) := by rw [kc0_eq]; rfl
theorem rw_0_266 : (codeOf 0)[266]? = some (469, .aload 0, 0, 0, 3, 1, []) := by rw [kc0_eq]; rfl
theorem rw_0_267 : (codeOf 0)[267]? = some (470, .iload 3, 3, 0, 0, 1, []) := by rw [kc0_eq]; rfl
theorem rw_0_268 : (codeOf 0)[268]? = some (471, .iconst 2, 2147483650, 0, 0, 1, []) := by rw [kc0_eq]; rfl
theorem rw_0_269 : (codeOf 0)[269]? = some (472, .iadd, 0, 0, 0, 1, []) := by rw [kc0_eq]; rfl
theorem rw_0_270 : (codeOf 0)[270]? = some (473, .iaload, 0, 0, 0, 1, []) := by rw [kc0_eq]; rfl
theorem rw_0_271 : (codeOf 0)[271]? = some (474, .invokevirtual 67, 168, 0, 0, 3, []) := by rw [kc0_eq]; rfl
theorem rw_0_272 : (codeOf 0)[272]? = some (477, .pop, 0, 0, 0, 1, []) := by rw [kc0_eq]; rfl
theorem rw_0_273 : (codeOf 0)[273]? = some (478, .goto 342, 820, 535, 0, 3, []) := by rw [kc0_eq]; rfl
theorem rw_0_274 : (codeOf 0)[274]? = some (481, .aload 1, 1, 0, 3, 1, []) := by rw [kc0_eq]; rfl
theorem rw_0_275 : (codeOf 0)[275]? = some (482, .aload 0, 0, 0, 3, 1, []) := by rw [kc0_eq]; rfl
theorem rw_0_276 : (codeOf 0)[276]? = some (483, .iload 3, 3, 0, 0, 1, []) := by rw [kc0_eq]; rfl
theorem rw_0_277 : (codeOf 0)[277]? = some (484, .iconst 1, 2147483649, 0, 0, 1, []) := by rw [kc0_eq]; rfl
theorem rw_0_278 : (codeOf 0)[278]? = some (485, .iadd, 0, 0, 0, 1, []) := by rw [kc0_eq]; rfl
theorem rw_0_279 : (codeOf 0)[279]? = some (486, .iaload, 0, 0, 0, 1, []) := by rw [kc0_eq]; rfl
theorem rw_0_280 : (codeOf 0)[280]? = some (487, .invokevirtual 68, 96, 0, 0, 3, []) := by rw [kc0_eq]; rfl
theorem rw_0_281 : (codeOf 0)[281]? = some (490, .pop, 0, 0, 0, 1, []) := by rw [kc0_eq]; rfl
theorem rw_0_282 : (codeOf 0)[282]? = some (491, .aload 2, 2, 0, 3, 1, []) := by rw [kc0_eq]; rfl
theorem rw_0_283 : (codeOf 0)[283]? = some (492, .aload 0, 0, 0, 3, 1, []) := by rw [kc0_eq]; rfl
theorem rw_0_284 : (codeOf 0)[284]? = some (493, .iload 3, 3, 0, 0, 1, []) := by rw [kc0_eq]; rfl
theorem rw_0_285 : (codeOf 0)[285]? = some (494, .iconst 1, 2147483649, 0, 0, 1, []) := by rw [kc0_eq]; rfl
theorem rw_0_286 : (codeOf 0)[286]? = some (495, .iadd, 0, 0, 0, 1, []) := by rw [kc0_eq]; rfl
theorem rw_0_287 : (codeOf 0)[287]? = some (496, .iaload, 0, 0, 0, 1, []) := by rw [kc0_eq]; rfl
theorem rw_0_288 : (codeOf 0)[288]? = some (497, .invokevirtual 71, 169, 0, 0, 3, []) := by rw [kc0_eq]; rfl
theorem rw_0_289 : (codeOf 0)[289]? = some (500, .pop, 0, 0, 0, 1, []) := by rw [kc0_eq]; rfl
theorem rw_0_290 : (codeOf 0)[290]? = some (501, .goto 319, 820, 535, 0, 3, []) := by rw [kc0_eq]; rfl
theorem rw_0_291 : (codeOf 0)[291]? = some (504, .aload 1, 1, 0, 3, 1, []) := by rw [kc0_eq]; rfl
theorem rw_0_292 : (codeOf 0)[292]? = some (505, .aload 0, 0, 0, 3, 1, []) := by rw [kc0_eq]; rfl
theorem rw_0_293 : (codeOf 0)[293]? = some (506, .iload 3, 3, 0, 0, 1, []) := by rw [kc0_eq]; rfl
theorem rw_0_294 : (codeOf 0)[294]? = some (507, .iconst 1, 2147483649, 0, 0, 1, []) := by rw [kc0_eq]; rfl
theorem rw_0_295 : (codeOf 0)[295]? = some (508, .iadd, 0, 0, 0, 1, []) := by rw [kc0_eq]; rfl
theorem rw_0_296 : (codeOf 0)[296]? = some (509, .iaload, 0, 0, 0, 1, []) := by rw [kc0_eq]; rfl
theorem rw_0_297 : (codeOf 0)[297]? = some (510, .aload 0, 0, 0, 3, 1, []) := by rw [kc0_eq]; rfl
theorem rw_0_298 : (codeOf 0)[298]? = some (511, .iload 3, 3, 0, 0, 1, []) := by rw [kc0_eq]; rfl
theorem rw_0_299 : (codeOf 0)[299]? = some (512, .iconst 2, 2147483650, 0, 0, 1, []) := by rw [kc0_eq]; rfl
theorem rw_0_300 : (codeOf 0)[300]? = some (513, .iadd, 0, 0, 0, 1, []) := by rw [kc0_eq]; rfl
theorem rw_0_301 : (codeOf 0)[301]? = some (514, .iaload, 0, 0, 0, 1, []) := by rw [kc0_eq]; rfl
theorem rw_0_302 : (codeOf 0)[302]? = some (515, .invokevirtual 72, 99, 0, 0, 3, []) := by rw [kc0_eq]; rfl
theorem rw_0_303 : (codeOf 0)[303]? = some (518, .pop, 0, 0, 0, 1, []) := by rw [kc0_eq]; rfl
theorem rw_0_304 : (codeOf 0)[304]? = some (519, .aload 2, 2, 0, 3, 1, []) := by rw [kc0_eq]; rfl
theorem rw_0_305 : (codeOf 0)[305]? = some (520, .aload 0, 0, 0, 3, 1, []) := by rw [kc0_eq]; rfl
theorem rw_0_306 : (codeOf 0)[306]? = some (521, .iload 3, 3, 0, 0, 1, []) := by rw [kc0_eq]; rfl
theorem rw_0_307 : (codeOf 0)[307]? = some (522, .iconst 1, 2147483649, 0, 0, 1, []) := by rw [kc0_eq]; rfl
theorem rw_0_308 : (codeOf 0)[308]? = some (523, .iadd, 0, 0, 0, 1, []) := by rw [kc0_eq]; rfl
theorem rw_0_309 : (codeOf 0)[309]? = some (524, .iaload, 0, 0, 0, 1, []) := by rw [kc0_eq]; rfl
theorem rw_0_310 : (codeOf 0)[310]? = some (525, .aload 0, 0, 0, 3, 1, []) := by rw [kc0_eq]; rfl
theorem rw_0_311 : (codeOf 0)[311]? = some (526, .iload 3, 3, 0, 0, 1, []) := by rw [kc0_eq]; rfl
theorem rw_0_312 : (codeOf 0)[312]? = some (527, .iconst 2, 2147483650, 0, 0, 1, []) := by rw [kc0_eq]; rfl
theorem rw_0_313 : (codeOf 0)[313]? = some (528, .iadd, 0, 0, 0, 1, []) := by rw [kc0_eq]; rfl
theorem rw_0_314 : (codeOf 0)[314]? = some (529, .iaload, 0, 0, 0, 1, []) := by rw [kc0_eq]; rfl
theorem rw_0_315 : (codeOf 0)[315]? = some (530, .invokevirtual 75, 171, 0, 0, 3, []) := by rw [kc0_eq]; rfl
theorem rw_0_316 : (codeOf 0)[316]? = some (533, .pop, 0, 0, 0, 1, []) := by rw [kc0_eq]; rfl
theorem rw_0_317 : (codeOf 0)[317]? = some (534, .goto 286, 820, 535, 0, 3, []) := by rw [kc0_eq]; rfl
theorem rw_0_318 : (codeOf 0)[318]? = some (537, .aload 1, 1, 0, 3, 1, []) := by rw [kc0_eq]; rfl
theorem rw_0_319 : (codeOf 0)[319]? = some (538, .aload 0, 0, 0, 3, 1, []) := by rw [kc0_eq]; rfl
theorem rw_0_320 : (codeOf 0)[320]? = some (539, .iload 3, 3, 0, 0, 1, []) := by rw [kc0_eq]; rfl
theorem rw_0_321 : (codeOf 0)[321]? = some (540, .iconst 1, 2147483649, 0, 0, 1, []) := by rw [kc0_eq]; rfl
theorem rw_0_322 : (codeOf 0)[322]? = some (541, .iadd, 0, 0, 0, 1, []) := by rw [kc0_eq]; rfl
theorem rw_0_323 : (codeOf 0)[323]? = some (542, .iaload, 0, 0, 0, 1, []) := by rw [kc0_eq]; rfl
theorem rw_0_324 : (codeOf 0)[324]? = some (543, .invokevirtual 76, 100, 0, 0, 3, []) := by rw [kc0_eq]; rfl
theorem rw_0_325 : (codeOf 0)[325]? = some (546, .pop, 0, 0, 0, 1, []) := by rw [kc0_eq]; rfl
theorem rw_0_326 : (codeOf 0)[326]? = some (547, .aload 2, 2, 0, 3, 1, []) := by rw [kc0_eq]; rfl
theorem rw_0_327 : (codeOf 0)[327]? = some (548, .aload 0, 0, 0, 3, 1, []) := by rw [kc0_eq]; rfl
theorem rw_0_328 : (codeOf 0)[328]? = some (549, .iload 3, 3, 0, 0, 1, []) := by rw [kc0_eq]; rfl
theorem rw_0_329 : (codeOf 0)[329]? = some (550, .iconst 1, 2147483649, 0, 0, 1, []) := by rw [kc0_eq]; rfl
theorem rw_0_330 : (codeOf 0)[330]? = some (551, .iadd, 0, 0, 0, 1, []) := by rw [kc0_eq]; rfl
theorem rw_0_331 : (codeOf 0)[331]? = some (552, .iaload, 0, 0, 0, 1, []) := by rw [kc0_eq]; rfl
theorem rw_0_332 : (codeOf 0)[332]? = some (553, .invokevirtual 79, 172, 0, 0, 3, []) := by rw [kc0_eq]; rfl
theorem rw_0_333 : (codeOf 0)[333]? = some (556, .pop, 0, 0, 0, 1, []) := by rw [kc0_eq]; rfl
theorem rw_0_334 : (codeOf 0)[334]? = some (557, .goto 263, 820, 535, 0, 3, []) := by rw [kc0_eq]; rfl
theorem rw_0_335 : (codeOf 0)[335]? = some (560, .aload 1, 1, 0, 3, 1, []) := by rw [kc0_eq]; rfl
theorem rw_0_336 : (codeOf 0)[336]? = some (561, .aload 0, 0, 0, 3, 1, []) := by rw [kc0_eq]; rfl
theorem rw_0_337 : (codeOf 0)[337]? = some (562, .iload 3, 3, 0, 0, 1, []) := by rw [kc0_eq]; rfl
theorem rw_0_338 : (codeOf 0)[338]? = some (563, .iconst 1, 2147483649, 0, 0, 1, []) := by rw [kc0_eq]; rfl
theorem rw_0_339 : (codeOf 0)[339]? = some (564, .iadd, 0, 0, 0, 1, []) := by rw [kc0_eq]; rfl
theorem rw_0_340 : (codeOf 0)[340]? = some (565, .iaload, 0, 0, 0, 1, []) := by rw [kc0_eq]; rfl
theorem rw_0_341 : (codeOf 0)[341]? = some (566, .aload 0, 0, 0, 3, 1, []) := by rw [kc0_eq]; rfl
theorem rw_0_342 : (codeOf 0)[342]? = some (567, .iload 3, 3, 0, 0, 1, []) := by rw [kc0_eq]; rfl
theorem rw_0_343 : (codeOf 0)[343]? = some (568, .iconst 2, 2147483650, 0, 0, 1, []) := by rw [kc0_eq]; rfl
theorem rw_0_344 : (codeOf 0)[344]? = some (569, .iadd, 0, 0, 0, 1, []) := by rw [kc0_eq]; rfl
theorem rw_0_345 : (codeOf 0)[345]? = some (570, .iaload, 0, 0, 0, 1, []) := by rw [kc0_eq]; rfl
theorem rw_0_346 : (codeOf 0)[346]? = some (571, .invokevirtual 80, 102, 0, 0, 3, []) := by rw [kc0_eq]; rfl
theorem rw_0_347 : (codeOf 0)[347]? = some (574, .pop, 0, 0, 0, 1, []) := by rw [kc0_eq]; rfl
theorem rw_0_348 : (codeOf 0)[348]? = some (575, .aload 2, 2, 0, 3, 1, []) := by rw [kc0_eq]; rfl
theorem rw_0_349 : (codeOf 0)[349]? = some (576, .aload 0, 0, 0, 3, 1, []) := by rw [kc0_eq]; rfl
theorem rw_0_350 : (codeOf 0)[350]? = some (577, .iload 3, 3, 0, 0, 1, []) := by rw [kc0_eq]; rfl
theorem rw_0_351 : (codeOf 0)[351]? = some (578, .iconst 1, 2147483649, 0, 0, 1, []) := by rw [kc0_eq]; rfl
theorem rw_0_352 : (codeOf 0)[352]? = some (579, .iadd, 0, 0, 0, 1, []) := by rw [kc0_eq]; rfl
theorem rw_0_353 : (codeOf 0)[353]? = some (580, .iaload, 0, 0, 0, 1, []) := by rw [kc0_eq]; rfl
theorem rw_0_354 : (codeOf 0)[354]? = some (581, .aload 0, 0, 0, 3, 1, []) := by rw [kc0_eq]; rfl
theorem rw_0_355 : (codeOf 0)[355]? = some (582, .iload 3, 3, 0, 0, 1, []) := by rw [kc0_eq]; rfl
theorem rw_0_356 : (codeOf 0)[356]? = some (583, .iconst 2, 2147483650, 0, 0, 1, []) := by rw [kc0_eq]; rfl
theorem rw_0_357 : (codeOf 0)[357]? = some (584, .iadd, 0, 0, 0, 1, []) := by rw [kc0_eq]; rfl
theorem rw_0_358 : (codeOf 0)[358]? = some (585, .iaload, 0, 0, 0, 1, []) := by rw [kc0_eq]; rfl
theorem rw_0_359 : (codeOf 0)[359]? = some (586, .invokevirtual 83, 173, 0, 0, 3, []) := by rw [kc0_eq]; rfl
theorem rw_0_360 : (codeOf 0)[360]? = some (589, .pop, 0, 0, 0, 1, []) := by rw [kc0_eq]; rfl
theorem rw_0_361 : (codeOf 0)[361]? = some (590, .goto 230, 820, 535, 0, 3, []) := by rw [kc0_eq]; rfl
theorem rw_0_362 : (codeOf 0)[362]? = some (593, .aload 1, 1, 0, 3, 1, []) := by rw [kc0_eq]; rfl
theorem rw_0_363 : (codeOf 0)[363]? = some (594, .aload 0, 0, 0, 3, 1, []) := by rw [kc0_eq]; rfl
theorem rw_0_364 : (codeOf 0)[364]? = some (595, .iload 3, 3, 0, 0, 1, []) := by rw [kc0_eq]; rfl
theorem rw_0_365 : (codeOf 0)[365]? = some (596, .iconst 1, 2147483649, 0, 0, 1, []) := by rw [kc0_eq]; rfl
theorem rw_0_366 : (codeOf 0)[366]? = some (597, .iadd, 0, 0, 0, 1, []) := by rw [kc0_eq]; rfl
theorem rw_0_367 : (codeOf 0)[367]? = some (598, .iaload, 0, 0, 0, 1, []) := by rw [kc0_eq]; rfl
theorem rw_0_368 : (codeOf 0)[368]? = some (599, .aload 0, 0, 0, 3, 1, []) := by rw [kc0_eq]; rfl
theorem rw_0_369 : (codeOf 0)[369]? = some (600, .iload 3, 3, 0, 0, 1, []) := by rw [kc0_eq]; rfl
theorem rw_0_370 : (codeOf 0)[370]? = some (601, .iconst 2, 2147483650, 0, 0, 1, []) := by rw [kc0_eq]; rfl
theorem rw_0_371 : (codeOf 0)[371]? = some (602, .iadd, 0, 0, 0, 1, []) := by rw [kc0_eq]; rfl
theorem rw_0_372 : (codeOf 0)[372]? = some (603, .iaload, 0, 0, 0, 1, []) := by rw [kc0_eq]; rfl
theorem rw_0_373 : (codeOf 0)[373]? = some (604, .aload 0, 0, 0, 3, 1, []) := by rw [kc0_eq]; rfl
theorem rw_0_374 : (codeOf 0)[374]? = some (605, .iload 3, 3, 0, 0, 1, []) := by rw [kc0_eq]; rfl
theorem rw_0_375 : (codeOf 0)[375]? = some (606, .iconst 3, 2147483651, 0, 0, 1, []) := by rw [kc0_eq]; rfl
theorem rw_0_376 : (codeOf 0)[376]? = some (607, .iadd, 0, 0, 0, 1, []) := by rw [kc0_eq]; rfl
theorem rw_0_377 : (codeOf 0)[377]? = some (608, .iaload, 0, 0, 0, 1, []) := by rw [kc0_eq]; rfl
theorem rw_0_378 : (codeOf 0)[378]? = some (609, .invokevirtual 84, 105, 0, 0, 3, []) := by rw [kc0_eq]; rfl
theorem rw_0_379 : (codeOf 0)[379]? = some (612, .pop, 0, 0, 0, 1, []) := by rw [kc0_eq]; rfl
theorem rw_0_380 : (codeOf 0)[380]? = some (613, .aload 2, 2, 0, 3, 1, []) := by rw [kc0_eq]; rfl
theorem rw_0_381 : (codeOf 0)[381]? = some (614, .aload 0, 0, 0, 3, 1, []) := by rw [kc0_eq]; rfl
theorem rw_0_382 : (codeOf 0)[382]? = some (615, .iload 3, 3, 0, 0, 1, []) := by rw [kc0_eq]; rfl
theorem rw_0_383 : (codeOf 0)[383]? = some (616, .iconst 1, 2147483649, 0, 0, 1, []) := by rw [kc0_eq]; rfl
theorem rw_0_384 : (codeOf 0)[384]? = some (617, .iadd, 0, 0, 0, 1, []) := by rw [kc0_eq]; rfl
theorem rw_0_385 : (codeOf 0)[385]? = some (618, .iaload, 0, 0, 0, 1, []) := by rw [kc0_eq]; rfl
theorem rw_0_386 : (codeOf 0)[386]? = some (619, .aload 0, 0, 0, 3, 1, []) := by rw [kc0_eq]; rfl
theorem rw_0_387 : (codeOf 0)[387]? = some (620, .iload 3, 3, 0, 0, 1, []) := by rw [kc0_eq]; rfl
theorem rw_0_388 : (codeOf 0)[388]? = some (621, .iconst 2, 2147483650, 0, 0, 1, []) := by rw [kc0_eq]; rfl
theorem rw_0_389 : (codeOf 0)[389]? = some (622, .iadd, 0, 0, 0, 1, []) := by rw [kc0_eq]; rfl
theorem rw_0_390 : (codeOf 0)[390]? = some (623, .iaload, 0, 0, 0, 1, []) := by rw [kc0_eq]; rfl
theorem rw_0_391 : (codeOf 0)[391]? = some (624, .aload 0, 0, 0, 3, 1, []) := by rw [kc0_eq]; rfl
theorem rw_0_392 : (codeOf 0)[392]? = some (625, .iload 3, 3, 0, 0, 1, []) := by rw [kc0_eq]; rfl
theorem rw_0_393 : (codeOf 0)[393]? = some (626, .iconst 3, 2147483651, 0, 0, 1, []) := by rw [kc0_eq]; rfl
theorem rw_0_394 : (codeOf 0)[394]? = some (627, .iadd, 0, 0, 0, 1, []) := by rw [kc0_eq]; rfl
theorem rw_0_395 : (codeOf 0)[395]? = some (628, .iaload, 0, 0, 0, 1, []) := by rw [kc0_eq]; rfl
theorem rw_0_396 : (codeOf 0)[396]? = some (629, .invokevirtual 88, 175, 0, 0, 3, []) := by rw [kc0_eq]; rfl
theorem rw_0_397 : (codeOf 0)[397]? = some (632, .pop, 0, 0, 0, 1, []) := by rw [kc0_eq]; rfl
theorem rw_0_398 : (codeOf 0)[398]? = some (633, .goto 187, 820, 535, 0, 3, []) := by rw [kc0_eq]; rfl
theorem rw_0_399 : (codeOf 0)[399]? = some (636, .aload 1, 1, 0, 3, 1, []) := by rw [kc0_eq]; rfl
set_option maxRecDepth 4000 in
theorem rw_0_400 : (codeOf 0)[400]? = some (637, .aload 0, 0, 0, 3, 1, []) := by rw [kc0_eq]; rfl
set_option maxRecDepth 4000 in
theorem rw_0_401 : (codeOf 0)[401]? = some (638, .iload 3, 3, 0, 0, 1, []) := by rw [kc0_eq]; rfl
set_option maxRecDepth 4000 in
theorem rw_0_402 : (codeOf 0)[402]? = some (639, .iconst 1, 2147483649, 0, 0, 1, []) := by rw [kc0_eq]; rfl
set_option maxRecDepth 4000 in
theorem rw_0_403 : (codeOf 0)[403]? = some (640, .iadd, 0, 0, 0, 1, []) := by rw [kc0_eq]; rfl
set_option maxRecDepth 4000 in
theorem rw_0_404 : (codeOf 0)[404]? = some (641, .iaload, 0, 0, 0, 1, []) := by rw [kc0_eq]; rfl
set_option maxRecDepth 4000 in
theorem rw_0_405 : (codeOf 0)[405]? = some (642, .invokevirtual 89, 106, 0, 0, 3, []) := by rw [kc0_eq]; rfl
set_option maxRecDepth 4000 in
theorem rw_0_406 : (codeOf 0)[406]? = some (645, .pop, 0, 0, 0, 1, []) := by rw [kc0_eq]; rfl
set_option maxRecDepth 4000 in
theorem rw_0_407 : (codeOf 0)[407]? = some (646, .aload 2, 2, 0, 3, 1, []) := by rw [kc0_eq]; rfl
set_option maxRecDepth 4000 in
theorem rw_0_408 : (codeOf 0)[408]? = some (647, .aload 0, 0, 0, 3, 1, []) := by rw [kc0_eq]; rfl
set_option maxRecDepth 4000 in
theorem rw_0_409 : (codeOf 0)[409]? = some (648, .iload 3, 3, 0, 0, 1, []) := by rw [kc0_eq]; rfl
set_option maxRecDepth 4000 in
theorem rw_0_410 : (codeOf 0)[410]? = some (649, .iconst 1, 2147483649, 0, 0, 1, []) := by rw [kc0_eq]; rfl
set_option maxRecDepth 4000 in
theorem rw_0_411 : (codeOf 0)[411]? = some (650, .iadd, 0, 0, 0, 1, []) := by rw [kc0_eq]; rfl
set_option maxRecDepth 4000 in
theorem rw_0_412 : (codeOf 0)[412]? = some (651, .iaload, 0, 0, 0, 1, []) := by rw [kc0_eq]; rfl
set_option maxRecDepth 4000 in
theorem rw_0_413 : (codeOf 0)[413]? = some (652, .invokevirtual 92, 176, 0, 0, 3, []) := by rw [kc0_eq]; rfl
set_option maxRecDepth 4000 in
theorem rw_0_414 : (codeOf 0)[414]? = some (655, .pop, 0, 0, 0, 1, []) := by rw [kc0_eq]; rfl
set_option maxRecDepth 4000 in
theorem rw_0_415 : (codeOf 0)[415]? = some (656, .goto 164, 820, 535, 0, 3, []) := by rw [kc0_eq]; rfl
set_option maxRecDepth 4000 in
theorem rw_0_416 : (codeOf 0)[416]? = some (659, .aload 1, 1, 0, 3, 1, []) := by rw [kc0_eq]; rfl
set_option maxRecDepth 4000 in
theorem rw_0_417 : (codeOf 0)[417]? = some (660, .aload 0, 0, 0, 3, 1, []) := by rw [kc0_eq]; rfl
set_option maxRecDepth 4000 in
theorem rw_0_418 : (codeOf 0)[418]? = some (661, .iload 3, 3, 0, 0, 1, []) := by rw [kc0_eq]; rfl
set_option maxRecDepth 4000 in
theorem rw_0_419 : (codeOf 0)[419]? = some (662, .iconst 1, 2147483649, 0, 0, 1, []) := by rw [kc0_eq]; rfl
set_option maxRecDepth 4000 in
theorem rw_0_420 : (codeOf 0)[420]? = some (663, .iadd, 0, 0, 0, 1, []) := by rw [kc0_eq]; rfl
set_option maxRecDepth 4000 in
theorem rw_0_421 : (codeOf 0)[421]? = some (664, .iaload, 0, 0, 0, 1, []) := by rw [kc0_eq]; rfl
set_option maxRecDepth 4000 in
theorem rw_0_422 : (codeOf 0)[422]? = some (665, .invokevirtual 93, 107, 0, 0, 3, []) := by rw [kc0_eq]; rfl
set_option maxRecDepth 4000 in
theorem rw_0_423 : (codeOf 0)[423]? = some (668, .pop, 0, 0, 0, 1, []) := by rw [kc0_eq]; rfl
set_option maxRecDepth 4000 in
theorem rw_0_424 : (codeOf 0)[424]? = some (669, .aload 2, 2, 0, 3, 1, []) := by rw [kc0_eq]; rfl
set_option maxRecDepth 4000 in
theorem rw_0_425 : (codeOf 0)[425]? = some (670, .aload 0, 0, 0, 3, 1, []) := by rw [kc0_eq]; rfl
set_option maxRecDepth 4000 in
theorem rw_0_426 : (codeOf 0)[426]? = some (671, .iload 3, 3, 0, 0, 1, []) := by rw [kc0_eq]; rfl
set_option maxRecDepth 4000 in
theorem rw_0_427 : (codeOf 0)[427]? = some (672, .iconst 1, 2147483649, 0, 0, 1, []) := by rw [kc0_eq]; rfl
set_option maxRecDepth 4000 in
theorem rw_0_428 : (codeOf 0)[428]? = some (673, .iadd, 0, 0, 0, 1, []) := by rw [kc0_eq]; rfl
set_option maxRecDepth 4000 in
theorem rw_0_429 : (codeOf 0)[429]? = some (674, .iaload, 0, 0, 0, 1, []) := by rw [kc0_eq]; rfl
set_option maxRecDepth 4000 in
theorem rw_0_430 : (codeOf 0)[430]? = some (675, .invokevirtual 96, 177, 0, 0, 3, []) := by rw [kc0_eq]; rfl
set_option maxRecDepth 4000 in
theorem rw_0_431 : (codeOf 0)[431]? = some (678, .pop, 0, 0, 0, 1, []) := by rw [kc0_eq]; rfl
set_option maxRecDepth 4000 in
theorem rw_0_432 : (codeOf 0)[432]? = some (679, .goto 141, 820, 535, 0, 3, []) := by rw [kc0_eq]; rfl
set_option maxRecDepth 4000 in
theorem rw_0_433 : (codeOf 0)[433]? = some (682, .aload 1, 1, 0, 3, 1, []) := by rw [kc0_eq]; rfl
set_option maxRecDepth 4000 in
theorem rw_0_434 : (codeOf 0)[434]? = some (683, .invokevirtual 97, 108, 0, 0, 3, []) := by rw [kc0_eq]; rfl
set_option maxRecDepth 4000 in
theorem rw_0_435 : (codeOf 0)[435]? = some (686, .pop, 0, 0, 0, 1, []) := by rw [kc0_eq]; rfl
set_option maxRecDepth 4000 in
theorem rw_0_436 : (codeOf 0)[436]? = some (687, .aload 2, 2, 0, 3, 1, []) := by rw [kc0_eq]; rfl
set_option maxRecDepth 4000 in
theorem rw_0_437 : (codeOf 0)[437]? = some (688, .invokevirtual 100, 178, 0, 0, 3, []) := by rw [kc0_eq]; rfl
set_option maxRecDepth 4000 in
theorem rw_0_438 : (codeOf 0)[438]? = some (691, .pop, 0, 0, 0, 1, []) := by rw [kc0_eq]; rfl
set_option maxRecDepth 4000 in
theorem rw_0_439 : (codeOf 0)[439]? = some (692, .goto 128, 820, 535, 0, 3, []) := by rw [kc0_eq]; rfl
set_option maxRecDepth 4000 in
theorem rw_0_440 : (codeOf 0)[440]? = some (695, .aload 1, 1, 0, 3, 1, []) := by rw [kc0_eq]; rfl
set_option maxRecDepth 4000 in
theorem rw_0_441 : (codeOf 0)[441]? = some (696, .aload 0, 0, 0, 3, 1, []) := by rw [kc0_eq]; rfl
set_option maxRecDepth 4000 in
theorem rw_0_442 : (codeOf 0)[442]? = some (697, .iload 3, 3, 0, 0, 1, []) := by rw [kc0_eq]; rfl
set_option maxRecDepth 4000 in
theorem rw_0_443 : (codeOf 0)[443]? = some (698, .iconst 1, 2147483649, 0, 0, 1, []) := by rw [kc0_eq]; rfl
set_option maxRecDepth 4000 in
theorem rw_0_444 : (codeOf 0)[444]? = some (699, .iadd, 0, 0, 0, 1, []) := by rw [kc0_eq]; rfl
set_option maxRecDepth 4000 in
theorem rw_0_445 : (codeOf 0)[445]? = some (700, .iaload, 0, 0, 0, 1, []) := by rw [kc0_eq]; rfl
set_option maxRecDepth 4000 in
theorem rw_0_446 : (codeOf 0)[446]? = some (701, .aload 0, 0, 0, 3, 1, []) := by rw [kc0_eq]; rfl
set_option maxRecDepth 4000 in
theorem rw_0_447 : (codeOf 0)[447]? = some (702, .iload 3, 3, 0, 0, 1, []) := by rw [kc0_eq]; rfl
set_option maxRecDepth 4000 in
theorem rw_0_448 : (codeOf 0)[448]? = some (703, .iconst 2, 2147483650, 0, 0, 1, []) := by rw [kc0_eq]; rfl
set_option maxRecDepth 4000 in
theorem rw_0_449 : (codeOf 0)[449]? = some (704, .iadd, 0, 0, 0, 1, []) := by rw [kc0_eq]; rfl
set_option maxRecDepth 4000 in
theorem rw_0_450 : (codeOf 0)[450]? = some (705, .iaload, 0, 0, 0, 1, []) := by rw [kc0_eq]; rfl
set_option maxRecDepth 4000 in
theorem rw_0_451 : (codeOf 0)[451]? = some (706, .invokevirtual 101, 109, 0, 0, 3, []) := by rw [kc0_eq]; rfl
set_option maxRecDepth 4000 in
theorem rw_0_452 : (codeOf 0)[452]? = some (709, .pop, 0, 0, 0, 1, []) := by rw [kc0_eq]; rfl
set_option maxRecDepth 4000 in
theorem rw_0_453 : (codeOf 0)[453]? = some (710, .aload 2, 2, 0, 3, 1, []) := by rw [kc0_eq]; rfl
set_option maxRecDepth 4000 in
theorem rw_0_454 : (codeOf 0)[454]? = some (711, .aload 0, 0, 0, 3, 1, []) := by rw [kc0_eq]; rfl
set_option maxRecDepth 4000 in
theorem rw_0_455 : (codeOf 0)[455]? = some (712, .iload 3, 3, 0, 0, 1, []) := by rw [kc0_eq]; rfl
set_option maxRecDepth 4000 in
theorem rw_0_456 : (codeOf 0)[456]? = some (713, .iconst 1, 2147483649, 0, 0, 1, []) := by rw [kc0_eq]; rfl
set_option maxRecDepth 4000 in
theorem rw_0_457 : (codeOf 0)[457]? = some (714, .iadd, 0, 0, 0, 1, []) := by rw [kc0_eq]; rfl
set_option maxRecDepth 4000 in
theorem rw_0_458 : (codeOf 0)[458]? = some (715, .iaload, 0, 0, 0, 1, []) := by rw [kc0_eq]; rfl
set_option maxRecDepth 4000 in
theorem rw_0_459 : (codeOf 0)[459]? = some (716, .aload 0, 0, 0, 3, 1, []) := by rw [kc0_eq]; rfl
set_option maxRecDepth 4000 in
theorem rw_0_460 : (codeOf 0)[460]? = some (717, .iload 3, 3, 0, 0, 1, []) := by rw [kc0_eq]; rfl
set_option maxRecDepth 4000 in
theorem rw_0_461 : (codeOf 0)[461]? = some (718, .iconst 2, 2147483650, 0, 0, 1, []) := by rw [kc0_eq]; rfl
set_option maxRecDepth 4000 in
theorem rw_0_462 : (codeOf 0)[462]? = some (719, .iadd, 0, 0, 0, 1, []) := by rw [kc0_eq]; rfl
set_option maxRecDepth 4000 in
theorem rw_0_463 : (codeOf 0)[463]? = some (720, .iaload, 0, 0, 0, 1, []) := by rw [kc0_eq]; rfl
set_option maxRecDepth 4000 in
theorem rw_0_464 : (codeOf 0)[464]? = some (721, .invokevirtual 104, 179, 0, 0, 3, []) := by rw [kc0_eq]; rfl
set_option maxRecDepth 4000 in
theorem rw_0_465 : (codeOf 0)[465]? = some (724, .pop, 0, 0, 0, 1, []) := by rw [kc0_eq]; rfl
set_option maxRecDepth 4000 in
theorem rw_0_466 : (codeOf 0)[466]? = some (725, .goto 95, 820, 535, 0, 3, []) := by rw [kc0_eq]; rfl
set_option maxRecDepth 4000 in
theorem rw_0_467 : (codeOf 0)[467]? = some (728, .aload 1, 1, 0, 3, 1, []) := by rw [kc0_eq]; rfl
set_option maxRecDepth 4000 in
theorem rw_0_468 : (codeOf 0)[468]? = some (729, .aload 0, 0, 0, 3, 1, []) := by rw [kc0_eq]; rfl
set_option maxRecDepth 4000 in
theorem rw_0_469 : (codeOf 0)[469]? = some (730, .iload 3, 3, 0, 0, 1, []) := by rw [kc0_eq]; rfl
set_option maxRecDepth 4000 in
theorem rw_0_470 : (codeOf 0)[470]? = some (731, .iconst 1, 2147483649, 0, 0, 1, []) := by rw [kc0_eq]; rfl
set_option maxRecDepth 4000 in
theorem rw_0_471 : (codeOf 0)[471]? = some (732, .iadd, 0, 0, 0, 1, []) := by rw [kc0_eq]; rfl
set_option maxRecDepth 4000 in
theorem rw_0_472 : (codeOf 0)[472]? = some (733, .iaload, 0, 0, 0, 1, []) := by rw [kc0_eq]; rfl
set_option maxRecDepth 4000 in
theorem rw_0_473 : (codeOf 0)[473]? = some (734, .invokevirtual 105, 111, 0, 0, 3, []) := by rw [kc0_eq]; rfl
set_option maxRecDepth 4000 in
theorem rw_0_474 : (codeOf 0)[474]? = some (737, .pop, 0, 0, 0, 1, []) := by rw [kc0_eq]; rfl
set_option maxRecDepth 4000 in
theorem rw_0_475 : (codeOf 0)[475]? = some (738, .aload 2, 2, 0, 3, 1, []) := by rw [kc0_eq]; rfl
set_option maxRecDepth 4000 in
theorem rw_0_476 : (codeOf 0)[476]? = some (739, .aload 0, 0, 0, 3, 1, []) := by rw [kc0_eq]; rfl
set_option maxRecDepth 4000 in
theorem rw_0_477 : (codeOf 0)[477]? = some (740, .iload 3, 3, 0, 0, 1, []) := by rw [kc0_eq]; rfl
set_option maxRecDepth 4000 in
theorem rw_0_478 : (codeOf 0)[478]? = some (741, .iconst 1, 2147483649, 0, 0, 1, []) := by rw [kc0_eq]; rfl
set_option maxRecDepth 4000 in
theorem rw_0_479 : (codeOf 0)[479]? = some (742, .iadd, 0, 0, 0, 1, []) := by rw [kc0_eq]; rfl
set_option maxRecDepth 4000 in
theorem rw_0_480 : (codeOf 0)[480]? = some (743, .iaload, 0, 0, 0, 1, []) := by rw [kc0_eq]; rfl
set_option maxRecDepth 4000 in
theorem rw_0_481 : (codeOf 0)[481]? = some (744, .invokevirtual 108, 181, 0, 0, 3, []) := by rw [kc0_eq]; rfl
set_option maxRecDepth 4000 in
theorem rw_0_482 : (codeOf 0)[482]? = some (747, .pop, 0, 0, 0, 1, []) := by rw [kc0_eq]; rfl
set_option maxRecDepth 4000 in
theorem rw_0_483 : (codeOf 0)[483]? = some (748, .goto 72, 820, 535, 0, 3, []) := by rw [kc0_eq]; rfl
set_option maxRecDepth 4000 in
theorem rw_0_484 : (codeOf 0)[484]? = some (751, .aload 1, 1, 0, 3, 1, []) := by rw [kc0_eq]; rfl
set_option maxRecDepth 4000 in
theorem rw_0_485 : (codeOf 0)[485]? = some (752, .aload 0, 0, 0, 3, 1, []) := by rw [kc0_eq]; rfl
set_option maxRecDepth 4000 in
theorem rw_0_486 : (codeOf 0)[486]? = some (753, .iload 3, 3, 0, 0, 1, []) := by rw [kc0_eq]; rfl
set_option maxRecDepth 4000 in
theorem rw_0_487 : (codeOf 0)[487]? = some (754, .iconst 1, 2147483649, 0, 0, 1, []) := by rw [kc0_eq]; rfl
set_option maxRecDepth 4000 in
theorem rw_0_488 : (codeOf 0)[488]? = some (755, .iadd, 0, 0, 0, 1, []) := by rw [kc0_eq]; rfl
set_option maxRecDepth 4000 in
theorem rw_0_489 : (codeOf 0)[489]? = some (756, .iaload, 0, 0, 0, 1, []) := by rw [kc0_eq]; rfl
set_option maxRecDepth 4000 in
theorem rw_0_490 : (codeOf 0)[490]? = some (757, .aload 0, 0, 0, 3, 1, []) := by rw [kc0_eq]; rfl
set_option maxRecDepth 4000 in
theorem rw_0_491 : (codeOf 0)[491]? = some (758, .iload 3, 3, 0, 0, 1, []) := by rw [kc0_eq]; rfl
set_option maxRecDepth 4000 in
theorem rw_0_492 : (codeOf 0)[492]? = some (759, .iconst 2, 2147483650, 0, 0, 1, []) := by rw [kc0_eq]; rfl
set_option maxRecDepth 4000 in
theorem rw_0_493 : (codeOf 0)[493]? = some (760, .iadd, 0, 0, 0, 1, []) := by rw [kc0_eq]; rfl
set_option maxRecDepth 4000 in
theorem rw_0_494 : (codeOf 0)[494]? = some (761, .iaload, 0, 0, 0, 1, []) := by rw [kc0_eq]; rfl
set_option maxRecDepth 4000 in
theorem rw_0_495 : (codeOf 0)[495]? = some (762, .aload 0, 0, 0, 3, 1, []) := by rw [kc0_eq]; rfl
set_option maxRecDepth 4000 in
theorem rw_0_496 : (codeOf 0)[496]? = some (763, .iload 3, 3, 0, 0, 1, []) := by rw [kc0_eq]; rfl
set_option maxRecDepth 4000 in
theorem rw_0_497 : (codeOf 0)[497]? = some (764, .iconst 3, 2147483651, 0, 0, 1, []) := by rw [kc0_eq]; rfl
set_option maxRecDepth 4000 in
theorem rw_0_498 : (codeOf 0)[498]? = some (765, .iadd, 0, 0, 0, 1, []) := by rw [kc0_eq]; rfl
set_option maxRecDepth 4000 in
theorem rw_0_499 : (codeOf 0)[499]? = some (766, .iaload, 0, 0, 0, 1, []) := by rw [kc0_eq]; rfl
set_option maxRecDepth 4000 in
theorem rw_0_500 : (codeOf 0)[500]? = some (767, .invokevirtual 109, 112, 0, 0, 3, []) := by rw [kc0_eq]; rfl
set_option maxRecDepth 4000 in
theorem rw_0_501 : (codeOf 0)[501]? = some (770, .pop, 0, 0, 0, 1, []) := by rw [kc0_eq]; rfl
set_option maxRecDepth 4000 in
theorem rw_0_502 : (codeOf 0)[502]? = some (771, .aload 2, 2, 0, 3, 1, []) := by rw [kc0_eq]; rfl
set_option maxRecDepth 4000 in
theorem rw_0_503 : (codeOf 0)[503]? = some (772, .aload 0, 0, 0, 3, 1, []) := by rw [kc0_eq]; rfl
set_option maxRecDepth 4000 in
theorem rw_0_504 : (codeOf 0)[504]? = some (773, .iload 3, 3, 0, 0, 1, []) := by rw [kc0_eq]; rfl
set_option maxRecDepth 4000 in
theorem rw_0_505 : (codeOf 0)[505]? = some (774, .iconst 1, 2147483649, 0, 0, 1, []) := by rw [kc0_eq]; rfl
set_option maxRecDepth 4000 in
theorem rw_0_506 : (codeOf 0)[506]? = some (775, .iadd, 0, 0, 0, 1, []) := by rw [kc0_eq]; rfl
set_option maxRecDepth 4000 in
theorem rw_0_507 : (codeOf 0)[507]? = some (776, .iaload, 0, 0, 0, 1, []) := by rw [kc0_eq]; rfl
set_option maxRecDepth 4000 in
theorem rw_0_508 : (codeOf 0)[508]? = some (777, .aload 0, 0, 0, 3, 1, []) := by rw [kc0_eq]; rfl
set_option maxRecDepth 4000 in
theorem rw_0_509 : (codeOf 0)[509]? = some (778, .iload 3, 3, 0, 0, 1, []) := by rw [kc0_eq]; rfl
set_option maxRecDepth 4000 in
theorem rw_0_510 : (codeOf 0)[510]? = some (779, .iconst 2, 2147483650, 0, 0, 1, []) := by rw [kc0_eq]; rfl
set_option maxRecDepth 4000 in
theorem rw_0_511 : (codeOf 0)[511]? = some (780, .iadd, 0, 0, 0, 1, []) := by rw [kc0_eq]; rfl
set_option maxRecDepth 4000 in
theorem rw_0_512 : (codeOf 0)[512]? = some (781, .iaload, 0, 0, 0, 1, []) := by rw [kc0_eq]; rfl
set_option maxRecDepth 4000 in
theorem rw_0_513 : (codeOf 0)[513]? = some (782, .aload 0, 0, 0, 3, 1, []) := by rw [kc0_eq]; rfl
set_option maxRecDepth 4000 in
theorem rw_0_514 : (codeOf 0)[514]? = some (783, .iload 3, 3, 0, 0, 1, []) := by rw [kc0_eq]; rfl
set_option maxRecDepth 4000 in
theorem rw_0_515 : (codeOf 0)[515]? = some (784, .iconst 3, 2147483651, 0, 0, 1, []) := by rw [kc0_eq]; rfl
set_option maxRecDepth 4000 in
theorem rw_0_516 : (codeOf 0)[516]? = some (785, .iadd, 0, 0, 0, 1, []) := by rw [kc0_eq]; rfl
set_option maxRecDepth 4000 in
theorem rw_0_517 : (codeOf 0)[517]? = some (786, .iaload, 0, 0, 0, 1, []) := by rw [kc0_eq]; rfl
set_option maxRecDepth 4000 in
theorem rw_0_518 : (codeOf 0)[518]? = some (787, .invokevirtual 112, 182, 0, 0, 3, []) := by rw [kc0_eq]; rfl
set_option maxRecDepth 4000 in
theorem rw_0_519 : (codeOf 0)[519]? = some (790, .pop, 0, 0, 0, 1, []) := by rw [kc0_eq]; rfl
set_option maxRecDepth 4000 in
theorem rw_0_520 : (codeOf 0)[520]? = some (791, .goto 29, 820, 535, 0, 3, []) := by rw [kc0_eq]; rfl
set_option maxRecDepth 4000 in
theorem rw_0_521 : (codeOf 0)[521]? = some (794, .aload 1, 1, 0, 3, 1, []) := by rw [kc0_eq]; rfl
set_option maxRecDepth 4000 in
theorem rw_0_522 : (codeOf 0)[522]? = some (795, .invokevirtual 113, 113, 0, 0, 3, []) := by rw [kc0_eq]; rfl
set_option maxRecDepth 4000 in
theorem rw_0_523 : (codeOf 0)[523]? = some (798, .pop, 0, 0, 0, 1, []) := by rw [kc0_eq]; rfl
set_option maxRecDepth 4000 in
theorem rw_0_524 : (codeOf 0)[524]? = some (799, .aload 2, 2, 0, 3, 1, []) := by rw [kc0_eq]; rfl
set_option maxRecDepth 4000 in
theorem rw_0_525 : (codeOf 0)[525]? = some (800, .invokevirtual 116, 183, 0, 0, 3, []) := by rw [kc0_eq]; rfl
set_option maxRecDepth 4000 in
theorem rw_0_526 : (codeOf 0)[526]? = some (803, .pop, 0, 0, 0, 1, []) := by rw [kc0_eq]; rfl
set_option maxRecDepth 4000 in
theorem rw_0_527 : (codeOf 0)[527]? = some (804, .goto 16, 820, 535, 0, 3, []) := by rw [kc0_eq]; rfl
set_option maxRecDepth 4000 in
theorem rw_0_528 : (codeOf 0)[528]? = some (807, .aload 1, 1, 0, 3, 1, []) := by rw [kc0_eq]; rfl
set_option maxRecDepth 4000 in
theorem rw_0_529 : (codeOf 0)[529]? = some (808, .invokevirtual 117, 115, 0, 0, 3, []) := by rw [kc0_eq]; rfl
set_option maxRecDepth 4000 in
theorem rw_0_530 : (codeOf 0)[530]? = some (811, .pop2, 0, 0, 0, 1, []) := by rw [kc0_eq]; rfl
set_option maxRecDepth 4000 in
theorem rw_0_531 : (codeOf 0)[531]? = some (812, .aload 2, 2, 0, 3, 1, []) := by rw [kc0_eq]; rfl
set_option maxRecDepth 4000 in
theorem rw_0_532 : (codeOf 0)[532]? = some (813, .invokevirtual 121, 184, 0, 0, 3, []) := by rw [kc0_eq]; rfl
set_option maxRecDepth 4000 in
theorem rw_0_533 : (codeOf 0)[533]? = some (816, .pop2, 0, 0, 0, 1, []) := by rw [kc0_eq]; rfl
set_option maxRecDepth 4000 in
theorem rw_0_534 : (codeOf 0)[534]? = some (817, .goto 3, 820, 535, 0, 3, []) := by rw [kc0_eq]; rfl
theorem ct_24 : ctT[24]? = some (some ([(2, 2, 0)], [some full32], 4722366482869649407976, 6)) := rfl
theorem ct_45 : ctT[45]? = some (some ([(2, 2, 0), full32, full32], [some full32], 4722366482869649407744, 6)) := rfl
theorem ct_47 : ctT[47]? = some (some ([(2, 2, 0), full32], [some full32], 4722366482869649407744, 6)) := rfl
theorem ct_52 : ctT[52]? = some (some ([(2, 2, 0), full32, full32], [some full32], 4722366482869649407744, 6)) := rfl
theorem ct_53 : ctT[53]? = some (some ([(2, 2, 0), full32, full32], [some full32], 4722366482869649407744, 6)) := rfl
theorem ct_54 : ctT[54]? = some (some ([(2, 2, 0), full32], [some full32], 4722366482869649407744, 6)) := rfl
theorem ct_58 : ctT[58]? = some (some ([(2, 2, 0), full32, full32], [some full32], 4722366482869649407744, 6)) := rfl
theorem ct_61 : ctT[61]? = some (some ([(2, 2, 0), full32], [some full32], 4722366482869649407744, 6)) := rfl
theorem ct_92 : ctT[92]? = some (some ([(2, 2, 0), full32, full32], [some full32], 0, 4)) := rfl
theorem ct_94 : ctT[94]? = some (some ([(2, 2, 0), full32, full32], [some full32], 0, 1)) := rfl
theorem ct_96 : ctT[96]? = some (some ([(2, 2, 0), full32], [some full32], 0, 1)) := rfl
theorem ct_99 : ctT[99]? = some (some ([(2, 2, 0), full32, full32], [some full32], 0, 1)) := rfl
theorem ct_100 : ctT[100]? = some (some ([(2, 2, 0), full32], [some full32], 0, 3)) := rfl
theorem ct_102 : ctT[102]? = some (some ([(2, 2, 0), full32, full32], [some full32], 0, 3)) := rfl
theorem ct_105 : ctT[105]? = some (some ([(2, 2, 0), full32, full32, full32], [some full32], 0, 1)) := rfl
theorem ct_106 : ctT[106]? = some (some ([(2, 2, 0), full32], [some full32], 0, 0)) := rfl
theorem ct_107 : ctT[107]? = some (some ([(2, 2, 0), full32], [some full32], 0, 3)) := rfl
theorem ct_108 : ctT[108]? = some (some ([(2, 2, 0)], [some full32], 0, 0)) := rfl
theorem ct_109 : ctT[109]? = some (some ([(2, 2, 0), full32, full32], [some full32], 73786976294842399748, 6)) := rfl
theorem ct_111 : ctT[111]? = some (some ([(2, 2, 0), full32], [some full32], 73786976294842399748, 6)) := rfl
theorem ct_112 : ctT[112]? = some (some ([(2, 2, 0), full32, full32, full32], [some full32], 73786976294842399748, 6)) := rfl
theorem ct_113 : ctT[113]? = some (some ([(2, 2, 0)], [some full32], 4722366482869649407232, 5)) := rfl
theorem ct_115 : ctT[115]? = some (some ([(2, 2, 0)], [some full64], 0, 6)) := rfl
theorem ct_166 : ctT[166]? = some (some ([(2, 22, 0), full32, full32], [some full32], 16911433728, 5)) := rfl
theorem ct_168 : ctT[168]? = some (some ([(2, 22, 0), full32, full32], [some full32], 0, 2)) := rfl
theorem ct_171 : ctT[171]? = some (some ([(2, 22, 0), full32, full32], [some full32], 0, 2)) := rfl
theorem ct_172 : ctT[172]? = some (some ([(2, 22, 0), full32], [some full32], 0, 3)) := rfl
theorem ct_175 : ctT[175]? = some (some ([(2, 22, 0), full32, full32, full32], [some full32], 0, 2)) := rfl
theorem ct_176 : ctT[176]? = some (some ([(2, 22, 0), full32], [some full32], 0, 0)) := rfl
theorem ct_177 : ctT[177]? = some (some ([(2, 22, 0), full32], [some full32], 0, 2)) := rfl
theorem zc_mh {d k : Nat} {as : List Value} {ph : PH} {p z : Nat → Int32} {a : Nat → Nat → Int32} {P : Option Value → PH → Prop} (heq : ph = mh ph p a z) (hz : ZC d k as (mh ph p a z) P) : ZC d k as ph P := by
  rw [← heq] at hz
  exact hz
section LB
variable {kd : Bool} {S0 T N : Nat} {c0 : PE} {ph ph' : PH} {p z t : Nat → Int32} {a : Nat → Nat → Int32} {fs : List Value}
theorem LVx.wt (h : LVx kd S0 c0 T ph p a z N t fs) : WT (mh ph p a z) := by
  rw [← h.eq]
  exact h.1
theorem LVx.gi (h : LVx kd S0 c0 T ph p a z N t fs) : GI S0 0 p z (mh ph p a z) := by
  rw [← h.eq]
  exact h.2.1
/-- the class's load -/
theorem LVx.ld (h : LVx kd S0 c0 T ph p a z N t fs) {mk : Nat} (W : WT ph') (I : GI S0 0 p z ph') (F : Fr mk ph ph') (b0 : Nat.testBit mk 0 = false) (b67 : Nat.testBit mk 67 = false) (b4 : Nat.testBit mk 4 = false) (b24 : Nat.testBit mk 24 = false) : ∃ a' fs', LVx false S0 c0 T ph' p a' z N t fs' := by
  obtain ⟨h1, h2, h3, h4, h5, h6, h7, h8, h9, h10, h11, h12, h13⟩ := h
  obtain ⟨a', hM⟩ := I.2
  have e1 : ph[77]? = some (.inl (60, a 1)) := h3 2 (by omega)
  have e2 : ph'[77]? = some (.inl (60, a' 1)) := hM 2 (by omega)
  have e3 := F.at e1 (by show Nat.testBit mk (psi 77) = false; exact b24)
  rw [e2] at e3
  have e4 : a' 1 = a 1 := by
    injection e3 with e3
    injection e3 with e3
    injection e3
  obtain ⟨c', q1, -, q3⟩ := F.2 3 _ h8
  have q3 := q3 b67
  unfold stay at q3
  rw [show psi 3 = 3 from rfl, ty_3] at q3
  obtain ⟨fs', rfl, -, q5⟩ := q3 fs rfl
  have hlt := (List.getElem?_eq_some_iff.mp q1).1
  obtain ⟨c, hc, fs2, e0, hlen, hfs⟩ := W.get (by omega) hlt (show psi 3 = 3 from rfl) ty_3
  rw [q1] at hc
  cases hc
  cases e0
  obtain ⟨x0, g0, r, rfl, r1, r2, r3⟩ := hfs 0 _ rfl
  obtain rfl := psi_id r3 (by omega)
  exact ⟨a', fs', W, I, hM, h4, F.at h5 b0, h6, h7, q1, g0, (q5 1 (by decide)).trans h10, F.at h11 b4, by rw [e4]; exact h12, fun hk => by cases hk⟩
end LB
theorem law_c0 {kd : Bool} {S0 L T i : Nat} {xs : Nat → Int32} {ph : PH} {Q : Option Value → PH → Prop} (hL : L ≤ 2048) (hi : i + 4 ≤ L) (hT : T ≤ 50000) (hh : LSt kd S0 (.inl (L, xs)) T ph) (hQ : ∀ ph', LSt kd S0 (.inl (L, xs)) (T + 60) ph' → ZR 12 0 535 [some (.ref 0), some (.ref 2), some (.ref 75), some (.int (iv (i : Int)))] [] ph' Q) : ZR 12 0 23 [some (.ref 0), some (.ref 2), some (.ref 75), some (.int (iv (i : Int)))] [] ph Q := by
  obtain ⟨p, a, z, N, t, fs, h⟩ := hh
  refine zr_aload hk_0 rw_0_23 rfl ?_
  refine zr_aload hk_0 rw_0_24 rfl ?_
  refine zr_iload hk_0 rw_0_25 rfl ?_
  refine zi_const hk_0 rw_0_26 (c := 1) rfl ?_
  refine zi_add hk_0 rw_0_27 ?_
  refine mz_ald hk_0 h.2.2.2.2.1 rw_0_28 (i + 1) (by omega) (by omega) (by omega) ?_
  obtain ⟨y2, hc2⟩ := h.c2
  have hfl := h.fl
  refine zr_virtual (L := 2) (n := 1) (as := [.int (xs (i + 1))]) (r := []) hk_0 rw_0_29 (by decide) (by decide) ⟨rfl, rfl, rfl, rfl⟩ hc2 (by decide) rfl rfl (by decide) (Nat.le_of_ble_eq_true rfl) (by rw [iv_of (xs (i + 1))]; exact ctype_ok 10 (inR_of _) h.2.2.2.2.2.1 hc2 h.2.2.2.2.2.2.2.1 hfl h.2.2.2.2.2.2.2.2.1 h.2.2.2.2.2.2.2.2.2.1 h.2.2.2.2.2.2.2.2.2.2.1) ?_
  rintro w1 ph1 ⟨rfl, hw⟩
  refine zr_pop hk_0 rw_0_30 rfl ?_
  rcases hw with ⟨hn, rfl⟩ | ⟨hx, hn, rfl⟩
  ·
    have hB2 := h.len
    have hM2 := h.2.2.1
    have hc0 := h.2.2.2.2.1
    refine zr_aload hk_0 rw_0_31 rfl ?_
    refine zr_aload hk_0 rw_0_32 rfl ?_
    refine zr_iload hk_0 rw_0_33 rfl ?_
    refine zi_const hk_0 rw_0_34 (c := 1) rfl ?_
    refine zi_add hk_0 rw_0_35 ?_
    refine mz_ald hk_0 hc0 rw_0_36 (i + 1) (by omega) (by omega) (by omega) ?_
    refine zr_virtual (L := 2) (n := 1) (as := [.int (xs (i + 1))]) (r := []) hk_0 rw_0_37 (by decide) (by decide) ⟨rfl, rfl, rfl, rfl⟩ (hM2 0 (by omega)) (by decide) rfl rfl (Nat.le_of_ble_eq_true rfl) (Nat.le_of_ble_eq_true rfl) (zc_mh (hM2.eq hB2) (by rw [iv_of (xs (i + 1))]; exact type_ok 10 hB2 (inR_of _) h.2.2.2.2.2.1 h.2.2.2.2.2.2.1)) ?_
    rintro w2 ph2 ⟨a', z', rfl, rfl, hw2⟩
    refine zr_pop hk_0 rw_0_38 rfl ?_
    refine zr_goto hk_0 rw_0_39 ?_
    refine hQ _ ?_
    rcases hw2 with ⟨-, rfl, rfl⟩ | ⟨g1, g2, g3, -, -⟩
    · rw [← hM2.eq hB2]; exact ⟨p, _, _, N, t, fs, h.up (by omega)⟩
    · exact absurd ⟨g1, g2, g3⟩ hn
  ·
    have hB2 : 87 ≤ ((ph.set 4 (.inl (60, upd t N (iv (xs (i + 1)).toInt)))).set 3 (.inr (.inr (1, fs.set 1 (.int (iv ((N + 1 : Nat) : Int))))))).length := by rw [List.length_set, List.length_set]; exact h.len
    have hM2 : MH ((ph.set 4 (.inl (60, upd t N (iv (xs (i + 1)).toInt)))).set 3 (.inr (.inr (1, fs.set 1 (.int (iv ((N + 1 : Nat) : Int))))))) p a z := (h.2.2.1.set (by decide)).set (by decide)
    have hc0 : ((ph.set 4 (.inl (60, upd t N (iv (xs (i + 1)).toInt)))).set 3 (.inr (.inr (1, fs.set 1 (.int (iv ((N + 1 : Nat) : Int)))))))[0]? = some (.inl (L, xs)) := by rw [List.getElem?_set_ne (by decide), List.getElem?_set_ne (by decide)]; exact h.2.2.2.2.1
    have hap := h.app (x := iv (xs (i + 1)).toInt)
    generalize hH : (ph.set 4 (.inl (60, upd t N (iv (xs (i + 1)).toInt)))).set 3 (.inr (.inr (1, fs.set 1 (.int (iv ((N + 1 : Nat) : Int)))))) = H at *
    refine zr_aload hk_0 rw_0_31 rfl ?_
    refine zr_aload hk_0 rw_0_32 rfl ?_
    refine zr_iload hk_0 rw_0_33 rfl ?_
    refine zi_const hk_0 rw_0_34 (c := 1) rfl ?_
    refine zi_add hk_0 rw_0_35 ?_
    refine mz_ald hk_0 hc0 rw_0_36 (i + 1) (by omega) (by omega) (by omega) ?_
    refine zr_virtual (L := 2) (n := 1) (as := [.int (xs (i + 1))]) (r := []) hk_0 rw_0_37 (by decide) (by decide) ⟨rfl, rfl, rfl, rfl⟩ (hM2 0 (by omega)) (by decide) rfl rfl (Nat.le_of_ble_eq_true rfl) (Nat.le_of_ble_eq_true rfl) (zc_mh (hM2.eq hB2) (by rw [iv_of (xs (i + 1))]; exact type_ok 10 hB2 (inR_of _) h.2.2.2.2.2.1 h.2.2.2.2.2.2.1)) ?_
    rintro w2 ph2 ⟨a', z', rfl, rfl, hw2⟩
    refine zr_pop hk_0 rw_0_38 rfl ?_
    refine zr_goto hk_0 rw_0_39 ?_
    refine hQ _ ?_
    rcases hw2 with ⟨hno, rfl, rfl⟩ | ⟨g1, g2, g3, rfl, rfl⟩
    · exact absurd ⟨hx.1, hx.2, hn⟩ hno
    · exact ⟨p, _, _, N + 1, _, _, (hap g3).up (by omega)⟩
theorem law_c1 {kd : Bool} {S0 L T i : Nat} {xs : Nat → Int32} {ph : PH} {Q : Option Value → PH → Prop} (hL : L ≤ 2048) (hi : i + 4 ≤ L) (hT : T ≤ 50000) (hh : LSt kd S0 (.inl (L, xs)) T ph) (hQ : ∀ ph', LSt kd S0 (.inl (L, xs)) (T + 60) ph' → ZR 12 0 535 [some (.ref 0), some (.ref 2), some (.ref 75), some (.int (iv (i : Int)))] [] ph' Q) : ZR 12 0 40 [some (.ref 0), some (.ref 2), some (.ref 75), some (.int (iv (i : Int)))] [] ph Q := by
  obtain ⟨p, a, z, N, t, fs, h⟩ := hh
  refine zr_aload hk_0 rw_0_40 rfl ?_
  obtain ⟨y2, hc2⟩ := h.c2
  have hfl := h.fl
  refine zr_virtual (L := 2) (n := 0) (as := []) (r := []) hk_0 rw_0_41 (by decide) (by decide) ⟨rfl, rfl, rfl, rfl⟩ hc2 (by decide) rfl rfl (by decide) (Nat.le_of_ble_eq_true rfl) (cclear_ok 11 hc2 h.2.2.2.2.2.2.2.1 hfl h.2.2.2.2.2.2.2.2.2.1) ?_
  rintro w1 ph1 ⟨rfl, rfl⟩
  refine zr_pop hk_0 rw_0_42 rfl ?_
  have hB2 : 87 ≤ (ph.set 3 (.inr (.inr (1, fs.set 1 (.int (iv ((0 : Nat) : Int))))))).length := by rw [List.length_set]; exact h.len
  have hM2 : MH (ph.set 3 (.inr (.inr (1, fs.set 1 (.int (iv ((0 : Nat) : Int))))))) p a z := h.2.2.1.set (by decide)
  have hcl := h.clr
  generalize (ph.set 3 (.inr (.inr (1, fs.set 1 (.int (iv ((0 : Nat) : Int))))))) = H at *
  refine zr_aload hk_0 rw_0_43 rfl ?_
  refine zr_virtual (L := 2) (n := 0) (as := []) (r := []) hk_0 rw_0_44 (by decide) (by decide) ⟨rfl, rfl, rfl, rfl⟩ (hM2 0 (by omega)) (by decide) rfl rfl (Nat.le_of_ble_eq_true rfl) (Nat.le_of_ble_eq_true rfl) (zc_mh (hM2.eq hB2) (clear_ok 11 hB2)) ?_
  rintro w2 ph2 ⟨rfl, rfl⟩
  refine zr_pop hk_0 rw_0_45 rfl ?_
  refine zr_goto hk_0 rw_0_46 ?_
  exact hQ _ ⟨_, _, _, _, _, _, hcl.up (by omega)⟩
theorem law_c2 {S0 L T i : Nat} {xs : Nat → Int32} {ph : PH} {Q : Option Value → PH → Prop} (hL : L ≤ 2048) (hi : i + 4 ≤ L) (hT : T ≤ 50000) (hh : LSt true S0 (.inl (L, xs)) T ph) (hQ : ∀ ph', LSt true S0 (.inl (L, xs)) (T + 60) ph' → ZR 12 0 535 [some (.ref 0), some (.ref 2), some (.ref 75), some (.int (iv (i : Int)))] [] ph' Q) : ZR 12 0 47 [some (.ref 0), some (.ref 2), some (.ref 75), some (.int (iv (i : Int)))] [] ph Q := by
  obtain ⟨p, a, z, N, t, fs, h⟩ := hh
  refine zr_aload hk_0 rw_0_47 rfl ?_
  obtain ⟨y2, hc2⟩ := h.c2
  refine zr_virtual (L := 2) (n := 0) (as := []) (r := []) hk_0 rw_0_48 (by decide) (by decide) ⟨rfl, rfl, rfl, rfl⟩ hc2 (by decide) rfl rfl (by decide) (Nat.le_of_ble_eq_true rfl) (ZC.and (cload_ok h) (zc_ct (ct_full h.page 7) ct_24 (by show 6 < 7; omega) (by show 6 ≤ 11; omega) h.1 h.2.1 ⟨fit_ref (by decide) (by have := h.len; omega) (by decide), trivial⟩)) ?_
  rintro w1 ph1 ⟨⟨fs3, k3, hv1⟩, W1, I1, F1, -⟩
  obtain ⟨a1, fs1, h1⟩ := h.ld W1 I1 F1 (by decide) (by decide) (by decide) (by decide)
  have ef : fs3 = fs1 := by
    have e3 := h1.2.2.2.2.2.2.2.1
    rw [k3] at e3
    cases e3
    rfl
  rw [ef] at hv1
  have hrd : rdR (a1 1) N 0 0 0 0 = rdR t N 0 0 0 0 := rdR_eq h1.2.2.2.2.2.2.2.2.2.2.2.1 N 0 0 0 0 (by have := h.2.2.2.2.2.1; omega)
  obtain ⟨x1, rfl⟩ : ∃ x : Int32, w1 = some (.int x) := by
    rcases hv1 with ⟨_, _, -, rfl, -⟩ | ⟨_, -, rfl, -⟩ <;> exact ⟨_, rfl⟩
  refine zr_pop hk_0 rw_0_49 rfl ?_
  refine zr_aload hk_0 rw_0_50 rfl ?_
  refine zr_virtual (L := 3) (n := 0) (as := []) (r := []) hk_0 rw_0_51 (by decide) (by decide) ⟨rfl, rfl, rfl, rfl⟩ h1.c75 (by decide) rfl rfl (Nat.le_of_ble_eq_true rfl) (Nat.le_of_ble_eq_true rfl) (zc_mh h1.eq (load_ok 8 h1.len h1.2.2.2.2.2.1 h1.2.2.2.2.2.2.1 h1.2.2.2.1)) ?_
  rintro w2 ph2 ⟨p', a', z', rfl, hM2, e1, e2, hv⟩
  rw [hrd] at hv
  have hb : w2 = some (.int x1) ∧ fs1[5]? = some (.int (z' 2)) := by
    rcases hv1 with ⟨q1, s1, r1, u1, t1⟩ | ⟨m1, r1, u1, t1⟩
    · rcases hv with ⟨q2, s2, r2, u2, t2⟩ | ⟨m2, r2, u2, t2⟩
      · rw [r1] at r2; cases r2; exact ⟨u2.trans u1.symm, by rw [t2]; exact t1⟩
      · rw [r1] at r2; cases r2
    · rcases hv with ⟨q2, s2, r2, u2, t2⟩ | ⟨m2, r2, u2, t2⟩
      · rw [r1] at r2; cases r2
      · rw [r1] at r2; cases r2; exact ⟨u2.trans u1.symm, by rw [t2]; exact t1⟩
  obtain ⟨rfl, h5⟩ := hb
  refine zr_pop hk_0 rw_0_52 rfl ?_
  refine zr_goto hk_0 rw_0_53 ?_
  exact hQ _ ⟨_, _, _, _, _, _, (h1.mdl hM2 e1 (fun hk => by cases hk) e2).kds h5⟩
theorem law_c3 {S0 L T i : Nat} {xs : Nat → Int32} {ph : PH} {Q : Option Value → PH → Prop} (hL : L ≤ 2048) (hi : i + 4 ≤ L) (hT : T ≤ 50000) (hh : LSt true S0 (.inl (L, xs)) T ph) (hQ : ∀ ph', LSt true S0 (.inl (L, xs)) (T + 60) ph' → ZR 12 0 535 [some (.ref 0), some (.ref 2), some (.ref 75), some (.int (iv (i : Int)))] [] ph' Q) : ZR 12 0 54 [some (.ref 0), some (.ref 2), some (.ref 75), some (.int (iv (i : Int)))] [] ph Q := by
  obtain ⟨p, a, z, N, t, fs, h⟩ := hh
  refine zr_aload hk_0 rw_0_54 rfl ?_
  obtain ⟨y2, hc2⟩ := h.c2
  refine zr_virtual (L := 1) (n := 0) (as := []) (r := []) hk_0 rw_0_55 (by decide) (by decide) ⟨rfl, rfl, rfl, rfl⟩ hc2 (by decide) rfl rfl (by decide) (Nat.le_of_ble_eq_true rfl) (cfault_ok 11 hc2 h.2.2.2.2.2.2.2.1 (h.2.2.2.2.2.2.2.2.2.2.2.2 rfl)) ?_
  rintro w1 ph1 ⟨rfl, rfl⟩
  refine zr_aload hk_0 rw_0_56 rfl ?_
  refine zr_virtual (L := 1) (n := 0) (as := []) (r := [.int (z 2)]) hk_0 rw_0_57 (by decide) (by decide) ⟨rfl, rfl, rfl, rfl⟩ h.c75 (by decide) rfl rfl (Nat.le_of_ble_eq_true rfl) (Nat.le_of_ble_eq_true rfl) (zc_mh h.eq (fault_ok 11 h.len)) ?_
  rintro w2 ph2 ⟨rfl, rfl⟩
  refine zo_icmp_eq hk_0 rw_0_58 (fun _ => ?_) (fun hne => absurd rfl hne)
  rw [← h.eq]
  exact hQ _ ⟨_, _, _, _, _, _, h.up (by omega)⟩
theorem law_c4 {kd : Bool} {S0 L T i : Nat} {xs : Nat → Int32} {ph : PH} {Q : Option Value → PH → Prop} (hL : L ≤ 2048) (hi : i + 4 ≤ L) (hT : T ≤ 50000) (hh : LSt kd S0 (.inl (L, xs)) T ph) (hQ : ∀ ph', LSt kd S0 (.inl (L, xs)) (T + 60) ph' → ZR 12 0 535 [some (.ref 0), some (.ref 2), some (.ref 75), some (.int (iv (i : Int)))] [] ph' Q) : ZR 12 0 61 [some (.ref 0), some (.ref 2), some (.ref 75), some (.int (iv (i : Int)))] [] ph Q := by
  obtain ⟨p, a, z, N, t, fs, h⟩ := hh
  refine zr_aload hk_0 rw_0_61 rfl ?_
  refine zr_aload hk_0 rw_0_62 rfl ?_
  refine zr_iload hk_0 rw_0_63 rfl ?_
  refine zi_const hk_0 rw_0_64 (c := 1) rfl ?_
  refine zi_add hk_0 rw_0_65 ?_
  refine mz_ald hk_0 h.2.2.2.2.1 rw_0_66 (i + 1) (by omega) (by omega) (by omega) ?_
  refine zr_aload hk_0 rw_0_67 rfl ?_
  refine zr_iload hk_0 rw_0_68 rfl ?_
  refine zi_const hk_0 rw_0_69 (c := 2) rfl ?_
  refine zi_add hk_0 rw_0_70 ?_
  refine mz_ald hk_0 h.2.2.2.2.1 rw_0_71 (i + 2) (by omega) (by omega) (by omega) ?_
  obtain ⟨y2, hc2⟩ := h.c2
  refine zr_virtual (L := 4) (n := 2) (as := [.int (xs (i + 1)), .int (xs (i + 2))]) (r := []) hk_0 rw_0_72 (by decide) (by decide) ⟨rfl, rfl, rfl, rfl⟩ hc2 (by decide) rfl rfl (by decide) (Nat.le_of_ble_eq_true rfl) (zc_ct (ct_full h.page 7) ct_45 (by show 6 < 7; omega) (by show 6 ≤ 11; omega) h.1 h.2.1 ⟨fit_ref (by decide) (by have := h.len; omega) (by decide), fit_full _ _, fit_full _ _, trivial⟩) ?_
  rintro w1 ph1 ⟨W1, I1, F1, v1⟩
  obtain ⟨x1, rfl⟩ := int_of v1
  obtain ⟨a1, h1⟩ := h.cls W1 I1 F1 (by decide) (by decide) (by decide) (by decide)
  refine zr_pop hk_0 rw_0_73 rfl ?_
  refine zr_aload hk_0 rw_0_74 rfl ?_
  refine zr_aload hk_0 rw_0_75 rfl ?_
  refine zr_iload hk_0 rw_0_76 rfl ?_
  refine zi_const hk_0 rw_0_77 (c := 1) rfl ?_
  refine zi_add hk_0 rw_0_78 ?_
  refine mz_ald hk_0 h1.2.2.2.2.1 rw_0_79 (i + 1) (by omega) (by omega) (by omega) ?_
  refine zr_aload hk_0 rw_0_80 rfl ?_
  refine zr_iload hk_0 rw_0_81 rfl ?_
  refine zi_const hk_0 rw_0_82 (c := 2) rfl ?_
  refine zi_add hk_0 rw_0_83 ?_
  refine mz_ald hk_0 h1.2.2.2.2.1 rw_0_84 (i + 2) (by omega) (by omega) (by omega) ?_
  refine zr_virtual (L := 3) (n := 2) (as := [.int (xs (i + 1)), .int (xs (i + 2))]) (r := []) hk_0 rw_0_85 (by decide) (by decide) ⟨rfl, rfl, rfl, rfl⟩ h1.c75 (by decide) rfl rfl (by decide) (Nat.le_of_ble_eq_true rfl) (P := PubQ ph1 T a1 z) (zc_mh h1.eq (by rw [iv_of (xs (i + 1)), iv_of (xs (i + 2))]; exact open_ok 8 h1.len (inR_of _) (inR_of _) h1.2.2.2.1)) ?_
  rintro w2 ph2 hq
  obtain ⟨⟨x2, rfl⟩, h2⟩ := h1.pub hq
  refine zr_pop hk_0 rw_0_86 rfl ?_
  refine zr_goto hk_0 rw_0_87 ?_
  exact hQ _ h2
theorem law_c5 {kd : Bool} {S0 L T i : Nat} {xs : Nat → Int32} {ph : PH} {Q : Option Value → PH → Prop} (hL : L ≤ 2048) (hi : i + 4 ≤ L) (hT : T ≤ 50000) (hh : LSt kd S0 (.inl (L, xs)) T ph) (hQ : ∀ ph', LSt kd S0 (.inl (L, xs)) (T + 60) ph' → ZR 12 0 535 [some (.ref 0), some (.ref 2), some (.ref 75), some (.int (iv (i : Int)))] [] ph' Q) : ZR 12 0 88 [some (.ref 0), some (.ref 2), some (.ref 75), some (.int (iv (i : Int)))] [] ph Q := by
  obtain ⟨p, a, z, N, t, fs, h⟩ := hh
  refine zr_aload hk_0 rw_0_88 rfl ?_
  refine zr_aload hk_0 rw_0_89 rfl ?_
  refine zr_iload hk_0 rw_0_90 rfl ?_
  refine zi_const hk_0 rw_0_91 (c := 1) rfl ?_
  refine zi_add hk_0 rw_0_92 ?_
  refine mz_ald hk_0 h.2.2.2.2.1 rw_0_93 (i + 1) (by omega) (by omega) (by omega) ?_
  obtain ⟨y2, hc2⟩ := h.c2
  refine zr_virtual (L := 3) (n := 1) (as := [.int (xs (i + 1))]) (r := []) hk_0 rw_0_94 (by decide) (by decide) ⟨rfl, rfl, rfl, rfl⟩ hc2 (by decide) rfl rfl (by decide) (Nat.le_of_ble_eq_true rfl) (zc_ct (ct_full h.page 7) ct_47 (by show 6 < 7; omega) (by show 6 ≤ 11; omega) h.1 h.2.1 ⟨fit_ref (by decide) (by have := h.len; omega) (by decide), fit_full _ _, trivial⟩) ?_
  rintro w1 ph1 ⟨W1, I1, F1, v1⟩
  obtain ⟨x1, rfl⟩ := int_of v1
  obtain ⟨a1, h1⟩ := h.cls W1 I1 F1 (by decide) (by decide) (by decide) (by decide)
  refine zr_pop hk_0 rw_0_95 rfl ?_
  refine zr_aload hk_0 rw_0_96 rfl ?_
  refine zr_aload hk_0 rw_0_97 rfl ?_
  refine zr_iload hk_0 rw_0_98 rfl ?_
  refine zi_const hk_0 rw_0_99 (c := 1) rfl ?_
  refine zi_add hk_0 rw_0_100 ?_
  refine mz_ald hk_0 h1.2.2.2.2.1 rw_0_101 (i + 1) (by omega) (by omega) (by omega) ?_
  refine zr_virtual (L := 3) (n := 1) (as := [.int (xs (i + 1))]) (r := []) hk_0 rw_0_102 (by decide) (by decide) ⟨rfl, rfl, rfl, rfl⟩ h1.c75 (by decide) rfl rfl (by decide) (Nat.le_of_ble_eq_true rfl) (P := PubQ ph1 T a1 z) (zc_mh h1.eq (by rw [iv_of (xs (i + 1))]; exact close_ok 8 h1.len (inR_of _) h1.2.2.2.1)) ?_
  rintro w2 ph2 hq
  obtain ⟨⟨x2, rfl⟩, h2⟩ := h1.pub hq
  refine zr_pop hk_0 rw_0_103 rfl ?_
  refine zr_goto hk_0 rw_0_104 ?_
  exact hQ _ h2
theorem law_c6 {kd : Bool} {S0 L T i : Nat} {xs : Nat → Int32} {ph : PH} {Q : Option Value → PH → Prop} (hL : L ≤ 2048) (hi : i + 4 ≤ L) (hT : T ≤ 50000) (hh : LSt kd S0 (.inl (L, xs)) T ph) (hQ : ∀ ph', LSt kd S0 (.inl (L, xs)) (T + 60) ph' → ZR 12 0 535 [some (.ref 0), some (.ref 2), some (.ref 75), some (.int (iv (i : Int)))] [] ph' Q) : ZR 12 0 105 [some (.ref 0), some (.ref 2), some (.ref 75), some (.int (iv (i : Int)))] [] ph Q := by
  obtain ⟨p, a, z, N, t, fs, h⟩ := hh
  refine zr_aload hk_0 rw_0_105 rfl ?_
  refine zr_aload hk_0 rw_0_106 rfl ?_
  refine zr_iload hk_0 rw_0_107 rfl ?_
  refine zi_const hk_0 rw_0_108 (c := 1) rfl ?_
  refine zi_add hk_0 rw_0_109 ?_
  refine mz_ald hk_0 h.2.2.2.2.1 rw_0_110 (i + 1) (by omega) (by omega) (by omega) ?_
  refine zr_aload hk_0 rw_0_111 rfl ?_
  refine zr_iload hk_0 rw_0_112 rfl ?_
  refine zi_const hk_0 rw_0_113 (c := 2) rfl ?_
  refine zi_add hk_0 rw_0_114 ?_
  refine mz_ald hk_0 h.2.2.2.2.1 rw_0_115 (i + 2) (by omega) (by omega) (by omega) ?_
  obtain ⟨y2, hc2⟩ := h.c2
  refine zr_virtual (L := 3) (n := 2) (as := [.int (xs (i + 1)), .int (xs (i + 2))]) (r := []) hk_0 rw_0_116 (by decide) (by decide) ⟨rfl, rfl, rfl, rfl⟩ hc2 (by decide) rfl rfl (by decide) (Nat.le_of_ble_eq_true rfl) (zc_ct (ct_full h.page 7) ct_52 (by show 6 < 7; omega) (by show 6 ≤ 11; omega) h.1 h.2.1 ⟨fit_ref (by decide) (by have := h.len; omega) (by decide), fit_full _ _, fit_full _ _, trivial⟩) ?_
  rintro w1 ph1 ⟨W1, I1, F1, v1⟩
  obtain ⟨x1, rfl⟩ := int_of v1
  obtain ⟨a1, h1⟩ := h.cls W1 I1 F1 (by decide) (by decide) (by decide) (by decide)
  refine zr_pop hk_0 rw_0_117 rfl ?_
  refine zr_aload hk_0 rw_0_118 rfl ?_
  refine zr_aload hk_0 rw_0_119 rfl ?_
  refine zr_iload hk_0 rw_0_120 rfl ?_
  refine zi_const hk_0 rw_0_121 (c := 1) rfl ?_
  refine zi_add hk_0 rw_0_122 ?_
  refine mz_ald hk_0 h1.2.2.2.2.1 rw_0_123 (i + 1) (by omega) (by omega) (by omega) ?_
  refine zr_aload hk_0 rw_0_124 rfl ?_
  refine zr_iload hk_0 rw_0_125 rfl ?_
  refine zi_const hk_0 rw_0_126 (c := 2) rfl ?_
  refine zi_add hk_0 rw_0_127 ?_
  refine mz_ald hk_0 h1.2.2.2.2.1 rw_0_128 (i + 2) (by omega) (by omega) (by omega) ?_
  refine zr_virtual (L := 3) (n := 2) (as := [.int (xs (i + 1)), .int (xs (i + 2))]) (r := []) hk_0 rw_0_129 (by decide) (by decide) ⟨rfl, rfl, rfl, rfl⟩ h1.c75 (by decide) rfl rfl (by decide) (Nat.le_of_ble_eq_true rfl) (P := PubQ ph1 T a1 z) (zc_mh h1.eq (by rw [iv_of (xs (i + 1)), iv_of (xs (i + 2))]; exact give_ok 9 h1.len (inR_of _) (inR_of _) h1.2.2.2.1)) ?_
  rintro w2 ph2 hq
  obtain ⟨⟨x2, rfl⟩, h2⟩ := h1.pub hq
  refine zr_pop hk_0 rw_0_130 rfl ?_
  refine zr_goto hk_0 rw_0_131 ?_
  exact hQ _ h2
theorem law_c7 {kd : Bool} {S0 L T i : Nat} {xs : Nat → Int32} {ph : PH} {Q : Option Value → PH → Prop} (hL : L ≤ 2048) (hi : i + 4 ≤ L) (hT : T ≤ 50000) (hh : LSt kd S0 (.inl (L, xs)) T ph) (hQ : ∀ ph', LSt kd S0 (.inl (L, xs)) (T + 60) ph' → ZR 12 0 535 [some (.ref 0), some (.ref 2), some (.ref 75), some (.int (iv (i : Int)))] [] ph' Q) : ZR 12 0 132 [some (.ref 0), some (.ref 2), some (.ref 75), some (.int (iv (i : Int)))] [] ph Q := by
  obtain ⟨p, a, z, N, t, fs, h⟩ := hh
  refine zr_aload hk_0 rw_0_132 rfl ?_
  refine zr_aload hk_0 rw_0_133 rfl ?_
  refine zr_iload hk_0 rw_0_134 rfl ?_
  refine zi_const hk_0 rw_0_135 (c := 1) rfl ?_
  refine zi_add hk_0 rw_0_136 ?_
  refine mz_ald hk_0 h.2.2.2.2.1 rw_0_137 (i + 1) (by omega) (by omega) (by omega) ?_
  refine zr_aload hk_0 rw_0_138 rfl ?_
  refine zr_iload hk_0 rw_0_139 rfl ?_
  refine zi_const hk_0 rw_0_140 (c := 2) rfl ?_
  refine zi_add hk_0 rw_0_141 ?_
  refine mz_ald hk_0 h.2.2.2.2.1 rw_0_142 (i + 2) (by omega) (by omega) (by omega) ?_
  obtain ⟨y2, hc2⟩ := h.c2
  refine zr_virtual (L := 4) (n := 2) (as := [.int (xs (i + 1)), .int (xs (i + 2))]) (r := []) hk_0 rw_0_143 (by decide) (by decide) ⟨rfl, rfl, rfl, rfl⟩ hc2 (by decide) rfl rfl (by decide) (Nat.le_of_ble_eq_true rfl) (zc_ct (ct_full h.page 7) ct_53 (by show 6 < 7; omega) (by show 6 ≤ 11; omega) h.1 h.2.1 ⟨fit_ref (by decide) (by have := h.len; omega) (by decide), fit_full _ _, fit_full _ _, trivial⟩) ?_
  rintro w1 ph1 ⟨W1, I1, F1, v1⟩
  obtain ⟨x1, rfl⟩ := int_of v1
  obtain ⟨a1, h1⟩ := h.cls W1 I1 F1 (by decide) (by decide) (by decide) (by decide)
  refine zr_pop hk_0 rw_0_144 rfl ?_
  refine zr_aload hk_0 rw_0_145 rfl ?_
  refine zr_aload hk_0 rw_0_146 rfl ?_
  refine zr_iload hk_0 rw_0_147 rfl ?_
  refine zi_const hk_0 rw_0_148 (c := 1) rfl ?_
  refine zi_add hk_0 rw_0_149 ?_
  refine mz_ald hk_0 h1.2.2.2.2.1 rw_0_150 (i + 1) (by omega) (by omega) (by omega) ?_
  refine zr_aload hk_0 rw_0_151 rfl ?_
  refine zr_iload hk_0 rw_0_152 rfl ?_
  refine zi_const hk_0 rw_0_153 (c := 2) rfl ?_
  refine zi_add hk_0 rw_0_154 ?_
  refine mz_ald hk_0 h1.2.2.2.2.1 rw_0_155 (i + 2) (by omega) (by omega) (by omega) ?_
  refine zr_virtual (L := 4) (n := 2) (as := [.int (xs (i + 1)), .int (xs (i + 2))]) (r := []) hk_0 rw_0_156 (by decide) (by decide) ⟨rfl, rfl, rfl, rfl⟩ h1.c75 (by decide) rfl rfl (by decide) (Nat.le_of_ble_eq_true rfl) (P := PubQ ph1 T a1 z) (zc_mh h1.eq (by rw [iv_of (xs (i + 1)), iv_of (xs (i + 2))]; exact setWeight_ok 9 h1.len (inR_of _) (inR_of _) h1.2.2.2.1)) ?_
  rintro w2 ph2 hq
  obtain ⟨⟨x2, rfl⟩, h2⟩ := h1.pub hq
  refine zr_pop hk_0 rw_0_157 rfl ?_
  refine zr_goto hk_0 rw_0_158 ?_
  exact hQ _ h2
theorem law_c8 {kd : Bool} {S0 L T i : Nat} {xs : Nat → Int32} {ph : PH} {Q : Option Value → PH → Prop} (hL : L ≤ 2048) (hi : i + 4 ≤ L) (hT : T ≤ 50000) (hh : LSt kd S0 (.inl (L, xs)) T ph) (hQ : ∀ ph', LSt kd S0 (.inl (L, xs)) (T + 60) ph' → ZR 12 0 535 [some (.ref 0), some (.ref 2), some (.ref 75), some (.int (iv (i : Int)))] [] ph' Q) : ZR 12 0 159 [some (.ref 0), some (.ref 2), some (.ref 75), some (.int (iv (i : Int)))] [] ph Q := by
  obtain ⟨p, a, z, N, t, fs, h⟩ := hh
  refine zr_aload hk_0 rw_0_159 rfl ?_
  refine zr_aload hk_0 rw_0_160 rfl ?_
  refine zr_iload hk_0 rw_0_161 rfl ?_
  refine zi_const hk_0 rw_0_162 (c := 1) rfl ?_
  refine zi_add hk_0 rw_0_163 ?_
  refine mz_ald hk_0 h.2.2.2.2.1 rw_0_164 (i + 1) (by omega) (by omega) (by omega) ?_
  obtain ⟨y2, hc2⟩ := h.c2
  refine zr_virtual (L := 3) (n := 1) (as := [.int (xs (i + 1))]) (r := []) hk_0 rw_0_165 (by decide) (by decide) ⟨rfl, rfl, rfl, rfl⟩ hc2 (by decide) rfl rfl (by decide) (Nat.le_of_ble_eq_true rfl) (zc_ct (ct_full h.page 7) ct_54 (by show 6 < 7; omega) (by show 6 ≤ 11; omega) h.1 h.2.1 ⟨fit_ref (by decide) (by have := h.len; omega) (by decide), fit_full _ _, trivial⟩) ?_
  rintro w1 ph1 ⟨W1, I1, F1, v1⟩
  obtain ⟨x1, rfl⟩ := int_of v1
  obtain ⟨a1, h1⟩ := h.cls W1 I1 F1 (by decide) (by decide) (by decide) (by decide)
  refine zr_pop hk_0 rw_0_166 rfl ?_
  refine zr_aload hk_0 rw_0_167 rfl ?_
  refine zr_aload hk_0 rw_0_168 rfl ?_
  refine zr_iload hk_0 rw_0_169 rfl ?_
  refine zi_const hk_0 rw_0_170 (c := 1) rfl ?_
  refine zi_add hk_0 rw_0_171 ?_
  refine mz_ald hk_0 h1.2.2.2.2.1 rw_0_172 (i + 1) (by omega) (by omega) (by omega) ?_
  refine zr_virtual (L := 3) (n := 1) (as := [.int (xs (i + 1))]) (r := []) hk_0 rw_0_173 (by decide) (by decide) ⟨rfl, rfl, rfl, rfl⟩ h1.c75 (by decide) rfl rfl (by decide) (Nat.le_of_ble_eq_true rfl) (P := PubQ ph1 T a1 z) (zc_mh h1.eq (by rw [iv_of (xs (i + 1))]; exact setBudget_ok 9 h1.len (inR_of _) h1.2.2.2.1)) ?_
  rintro w2 ph2 hq
  obtain ⟨⟨x2, rfl⟩, h2⟩ := h1.pub hq
  refine zr_pop hk_0 rw_0_174 rfl ?_
  refine zr_goto hk_0 rw_0_175 ?_
  exact hQ _ h2
theorem law_c9 {kd : Bool} {S0 L T i : Nat} {xs : Nat → Int32} {ph : PH} {Q : Option Value → PH → Prop} (hL : L ≤ 2048) (hi : i + 4 ≤ L) (hT : T ≤ 50000) (hh : LSt kd S0 (.inl (L, xs)) T ph) (hQ : ∀ ph', LSt kd S0 (.inl (L, xs)) (T + 60) ph' → ZR 12 0 535 [some (.ref 0), some (.ref 2), some (.ref 75), some (.int (iv (i : Int)))] [] ph' Q) : ZR 12 0 176 [some (.ref 0), some (.ref 2), some (.ref 75), some (.int (iv (i : Int)))] [] ph Q := by
  obtain ⟨p, a, z, N, t, fs, h⟩ := hh
  refine zr_aload hk_0 rw_0_176 rfl ?_
  refine zr_aload hk_0 rw_0_177 rfl ?_
  refine zr_iload hk_0 rw_0_178 rfl ?_
  refine zi_const hk_0 rw_0_179 (c := 1) rfl ?_
  refine zi_add hk_0 rw_0_180 ?_
  refine mz_ald hk_0 h.2.2.2.2.1 rw_0_181 (i + 1) (by omega) (by omega) (by omega) ?_
  refine zr_aload hk_0 rw_0_182 rfl ?_
  refine zr_iload hk_0 rw_0_183 rfl ?_
  refine zi_const hk_0 rw_0_184 (c := 2) rfl ?_
  refine zi_add hk_0 rw_0_185 ?_
  refine mz_ald hk_0 h.2.2.2.2.1 rw_0_186 (i + 2) (by omega) (by omega) (by omega) ?_
  obtain ⟨y2, hc2⟩ := h.c2
  refine zr_virtual (L := 3) (n := 2) (as := [.int (xs (i + 1)), .int (xs (i + 2))]) (r := []) hk_0 rw_0_187 (by decide) (by decide) ⟨rfl, rfl, rfl, rfl⟩ hc2 (by decide) rfl rfl (by decide) (Nat.le_of_ble_eq_true rfl) (zc_ct (ct_full h.page 7) ct_58 (by show 6 < 7; omega) (by show 6 ≤ 11; omega) h.1 h.2.1 ⟨fit_ref (by decide) (by have := h.len; omega) (by decide), fit_full _ _, fit_full _ _, trivial⟩) ?_
  rintro w1 ph1 ⟨W1, I1, F1, v1⟩
  obtain ⟨x1, rfl⟩ := int_of v1
  obtain ⟨a1, h1⟩ := h.cls W1 I1 F1 (by decide) (by decide) (by decide) (by decide)
  refine zr_pop hk_0 rw_0_188 rfl ?_
  refine zr_aload hk_0 rw_0_189 rfl ?_
  refine zr_aload hk_0 rw_0_190 rfl ?_
  refine zr_iload hk_0 rw_0_191 rfl ?_
  refine zi_const hk_0 rw_0_192 (c := 1) rfl ?_
  refine zi_add hk_0 rw_0_193 ?_
  refine mz_ald hk_0 h1.2.2.2.2.1 rw_0_194 (i + 1) (by omega) (by omega) (by omega) ?_
  refine zr_aload hk_0 rw_0_195 rfl ?_
  refine zr_iload hk_0 rw_0_196 rfl ?_
  refine zi_const hk_0 rw_0_197 (c := 2) rfl ?_
  refine zi_add hk_0 rw_0_198 ?_
  refine mz_ald hk_0 h1.2.2.2.2.1 rw_0_199 (i + 2) (by omega) (by omega) (by omega) ?_
  refine zr_virtual (L := 4) (n := 2) (as := [.int (xs (i + 1)), .int (xs (i + 2))]) (r := []) hk_0 rw_0_200 (by decide) (by decide) ⟨rfl, rfl, rfl, rfl⟩ h1.c75 (by decide) rfl rfl (by decide) (Nat.le_of_ble_eq_true rfl) (P := PubQ ph1 T a1 z) (zc_mh h1.eq (by rw [iv_of (xs (i + 1)), iv_of (xs (i + 2))]; exact setLink_ok 9 h1.len (inR_of _) (inR_of _) h1.2.2.2.1)) ?_
  rintro w2 ph2 hq
  obtain ⟨⟨x2, rfl⟩, h2⟩ := h1.pub hq
  refine zr_pop hk_0 rw_0_201 rfl ?_
  refine zr_goto hk_0 rw_0_202 ?_
  exact hQ _ h2
theorem law_c10 {kd : Bool} {S0 L T i : Nat} {xs : Nat → Int32} {ph : PH} {Q : Option Value → PH → Prop} (hL : L ≤ 2048) (hi : i + 4 ≤ L) (hT : T ≤ 50000) (hh : LSt kd S0 (.inl (L, xs)) T ph) (hQ : ∀ ph', LSt kd S0 (.inl (L, xs)) (T + 60) ph' → ZR 12 0 535 [some (.ref 0), some (.ref 2), some (.ref 75), some (.int (iv (i : Int)))] [] ph' Q) : ZR 12 0 203 [some (.ref 0), some (.ref 2), some (.ref 75), some (.int (iv (i : Int)))] [] ph Q := by
  obtain ⟨p, a, z, N, t, fs, h⟩ := hh
  refine zr_aload hk_0 rw_0_203 rfl ?_
  refine zr_aload hk_0 rw_0_204 rfl ?_
  refine zr_iload hk_0 rw_0_205 rfl ?_
  refine zi_const hk_0 rw_0_206 (c := 1) rfl ?_
  refine zi_add hk_0 rw_0_207 ?_
  refine mz_ald hk_0 h.2.2.2.2.1 rw_0_208 (i + 1) (by omega) (by omega) (by omega) ?_
  obtain ⟨y2, hc2⟩ := h.c2
  refine zr_virtual (L := 2) (n := 1) (as := [.int (xs (i + 1))]) (r := []) hk_0 rw_0_209 (by decide) (by decide) ⟨rfl, rfl, rfl, rfl⟩ hc2 (by decide) rfl rfl (by decide) (Nat.le_of_ble_eq_true rfl) (zc_ct (ct_full h.page 7) ct_61 (by show 6 < 7; omega) (by show 6 ≤ 11; omega) h.1 h.2.1 ⟨fit_ref (by decide) (by have := h.len; omega) (by decide), fit_full _ _, trivial⟩) ?_
  rintro w1 ph1 ⟨W1, I1, F1, v1⟩
  obtain ⟨x1, rfl⟩ := int_of v1
  obtain ⟨a1, h1⟩ := h.cls W1 I1 F1 (by decide) (by decide) (by decide) (by decide)
  refine zr_pop hk_0 rw_0_210 rfl ?_
  refine zr_aload hk_0 rw_0_211 rfl ?_
  refine zr_aload hk_0 rw_0_212 rfl ?_
  refine zr_iload hk_0 rw_0_213 rfl ?_
  refine zi_const hk_0 rw_0_214 (c := 1) rfl ?_
  refine zi_add hk_0 rw_0_215 ?_
  refine mz_ald hk_0 h1.2.2.2.2.1 rw_0_216 (i + 1) (by omega) (by omega) (by omega) ?_
  refine zr_virtual (L := 2) (n := 1) (as := [.int (xs (i + 1))]) (r := []) hk_0 rw_0_217 (by decide) (by decide) ⟨rfl, rfl, rfl, rfl⟩ h1.c75 (by decide) rfl rfl (by decide) (Nat.le_of_ble_eq_true rfl) (P := PubQ ph1 T a1 z) (zc_mh h1.eq (by rw [iv_of (xs (i + 1))]; exact mrun_ok 3 h1.len (inR_of _) (by omega) h1.2.2.2.1)) ?_
  rintro w2 ph2 hq
  obtain ⟨⟨x2, rfl⟩, h2⟩ := h1.pub hq
  refine zr_pop hk_0 rw_0_218 rfl ?_
  refine zr_goto hk_0 rw_0_219 ?_
  exact hQ _ h2
theorem law_c11 {kd : Bool} {S0 L T i : Nat} {xs : Nat → Int32} {ph : PH} {Q : Option Value → PH → Prop} (hL : L ≤ 2048) (hi : i + 4 ≤ L) (hT : T ≤ 50000) (hh : LSt kd S0 (.inl (L, xs)) T ph) (hQ : ∀ ph', LSt kd S0 (.inl (L, xs)) (T + 60) ph' → ZR 12 0 535 [some (.ref 0), some (.ref 2), some (.ref 75), some (.int (iv (i : Int)))] [] ph' Q) : ZR 12 0 220 [some (.ref 0), some (.ref 2), some (.ref 75), some (.int (iv (i : Int)))] [] ph Q := by
  obtain ⟨p, a, z, N, t, fs, h⟩ := hh
  refine zr_aload hk_0 rw_0_220 rfl ?_
  refine zr_aload hk_0 rw_0_221 rfl ?_
  refine zr_iload hk_0 rw_0_222 rfl ?_
  refine zi_const hk_0 rw_0_223 (c := 1) rfl ?_
  refine zi_add hk_0 rw_0_224 ?_
  refine mz_ald hk_0 h.2.2.2.2.1 rw_0_225 (i + 1) (by omega) (by omega) (by omega) ?_
  refine zr_aload hk_0 rw_0_226 rfl ?_
  refine zr_iload hk_0 rw_0_227 rfl ?_
  refine zi_const hk_0 rw_0_228 (c := 2) rfl ?_
  refine zi_add hk_0 rw_0_229 ?_
  refine mz_ald hk_0 h.2.2.2.2.1 rw_0_230 (i + 2) (by omega) (by omega) (by omega) ?_
  obtain ⟨y2, hc2⟩ := h.c2
  refine zr_virtual (L := 3) (n := 2) (as := [.int (xs (i + 1)), .int (xs (i + 2))]) (r := []) hk_0 rw_0_231 (by decide) (by decide) ⟨rfl, rfl, rfl, rfl⟩ hc2 (by decide) rfl rfl (by decide) (Nat.le_of_ble_eq_true rfl) (zc_ct (ct_full h.page 7) ct_92 (by show 4 < 7; omega) (by show 4 ≤ 11; omega) h.1 h.2.1 ⟨fit_ref (by decide) (by have := h.len; omega) (by decide), fit_full _ _, fit_full _ _, trivial⟩) ?_
  rintro w1 ph1 ⟨W1, I1, F1, v1⟩
  obtain ⟨x1, rfl⟩ := int_of v1
  obtain ⟨a1, h1⟩ := h.cls W1 I1 F1 (by decide) (by decide) (by decide) (by decide)
  refine zr_pop hk_0 rw_0_232 rfl ?_
  refine zr_aload hk_0 rw_0_233 rfl ?_
  refine zr_aload hk_0 rw_0_234 rfl ?_
  refine zr_iload hk_0 rw_0_235 rfl ?_
  refine zi_const hk_0 rw_0_236 (c := 1) rfl ?_
  refine zi_add hk_0 rw_0_237 ?_
  refine mz_ald hk_0 h1.2.2.2.2.1 rw_0_238 (i + 1) (by omega) (by omega) (by omega) ?_
  refine zr_aload hk_0 rw_0_239 rfl ?_
  refine zr_iload hk_0 rw_0_240 rfl ?_
  refine zi_const hk_0 rw_0_241 (c := 2) rfl ?_
  refine zi_add hk_0 rw_0_242 ?_
  refine mz_ald hk_0 h1.2.2.2.2.1 rw_0_243 (i + 2) (by omega) (by omega) (by omega) ?_
  refine zr_virtual (L := 3) (n := 2) (as := [.int (xs (i + 1)), .int (xs (i + 2))]) (r := []) hk_0 rw_0_244 (by decide) (by decide) ⟨rfl, rfl, rfl, rfl⟩ h1.c75 (by decide) rfl rfl (by decide) (Nat.le_of_ble_eq_true rfl) (P := PubQ ph1 T a1 z) (zc_mh h1.eq (rd_pub h1.len h1.2.2.2.1 h1.wt h1.gi ct_166 (by show 5 ≤ 11; omega) (by decide) rfl ⟨fit_75 h1.len, fit_full _ _, fit_full _ _, trivial⟩)) ?_
  rintro w2 ph2 hq
  obtain ⟨⟨x2, rfl⟩, h2⟩ := h1.pub hq
  refine zr_pop hk_0 rw_0_245 rfl ?_
  refine zr_goto hk_0 rw_0_246 ?_
  exact hQ _ h2
theorem law_c12 {kd : Bool} {S0 L T i : Nat} {xs : Nat → Int32} {ph : PH} {Q : Option Value → PH → Prop} (hL : L ≤ 2048) (hi : i + 4 ≤ L) (hT : T ≤ 50000) (hh : LSt kd S0 (.inl (L, xs)) T ph) (hQ : ∀ ph', LSt kd S0 (.inl (L, xs)) (T + 60) ph' → ZR 12 0 535 [some (.ref 0), some (.ref 2), some (.ref 75), some (.int (iv (i : Int)))] [] ph' Q) : ZR 12 0 247 [some (.ref 0), some (.ref 2), some (.ref 75), some (.int (iv (i : Int)))] [] ph Q := by
  obtain ⟨p, a, z, N, t, fs, h⟩ := hh
  refine zr_aload hk_0 rw_0_247 rfl ?_
  refine zr_aload hk_0 rw_0_248 rfl ?_
  refine zr_iload hk_0 rw_0_249 rfl ?_
  refine zi_const hk_0 rw_0_250 (c := 1) rfl ?_
  refine zi_add hk_0 rw_0_251 ?_
  refine mz_ald hk_0 h.2.2.2.2.1 rw_0_252 (i + 1) (by omega) (by omega) (by omega) ?_
  refine zr_aload hk_0 rw_0_253 rfl ?_
  refine zr_iload hk_0 rw_0_254 rfl ?_
  refine zi_const hk_0 rw_0_255 (c := 2) rfl ?_
  refine zi_add hk_0 rw_0_256 ?_
  refine mz_ald hk_0 h.2.2.2.2.1 rw_0_257 (i + 2) (by omega) (by omega) (by omega) ?_
  obtain ⟨y2, hc2⟩ := h.c2
  refine zr_virtual (L := 3) (n := 2) (as := [.int (xs (i + 1)), .int (xs (i + 2))]) (r := []) hk_0 rw_0_258 (by decide) (by decide) ⟨rfl, rfl, rfl, rfl⟩ hc2 (by decide) rfl rfl (by decide) (Nat.le_of_ble_eq_true rfl) (zc_ct (ct_full h.page 7) ct_94 (by show 1 < 7; omega) (by show 1 ≤ 11; omega) h.1 h.2.1 ⟨fit_ref (by decide) (by have := h.len; omega) (by decide), fit_full _ _, fit_full _ _, trivial⟩) ?_
  rintro w1 ph1 ⟨W1, I1, F1, v1⟩
  obtain ⟨x1, rfl⟩ := int_of v1
  obtain ⟨a1, h1⟩ := h.cls W1 I1 F1 (by decide) (by decide) (by decide) (by decide)
  refine zr_pop hk_0 rw_0_259 rfl ?_
  refine zr_aload hk_0 rw_0_260 rfl ?_
  refine zr_aload hk_0 rw_0_261 rfl ?_
  refine zr_iload hk_0 rw_0_262 rfl ?_
  refine zi_const hk_0 rw_0_263 (c := 1) rfl ?_
  refine zi_add hk_0 rw_0_264 ?_
  refine mz_ald hk_0 h1.2.2.2.2.1 rw_0_265 (i + 1) (by omega) (by omega) (by omega) ?_
  refine zr_aload hk_0 rw_0_266 rfl ?_
  refine zr_iload hk_0 rw_0_267 rfl ?_
  refine zi_const hk_0 rw_0_268 (c := 2) rfl ?_
  refine zi_add hk_0 rw_0_269 ?_
  refine mz_ald hk_0 h1.2.2.2.2.1 rw_0_270 (i + 2) (by omega) (by omega) (by omega) ?_
  refine zr_virtual (L := 3) (n := 2) (as := [.int (xs (i + 1)), .int (xs (i + 2))]) (r := []) hk_0 rw_0_271 (by decide) (by decide) ⟨rfl, rfl, rfl, rfl⟩ h1.c75 (by decide) rfl rfl (by decide) (Nat.le_of_ble_eq_true rfl) (P := PubQ ph1 T a1 z) (zc_mh h1.eq (rd_pub h1.len h1.2.2.2.1 h1.wt h1.gi ct_168 (by show 2 ≤ 11; omega) (by decide) rfl ⟨fit_75 h1.len, fit_full _ _, fit_full _ _, trivial⟩)) ?_
  rintro w2 ph2 hq
  obtain ⟨⟨x2, rfl⟩, h2⟩ := h1.pub hq
  refine zr_pop hk_0 rw_0_272 rfl ?_
  refine zr_goto hk_0 rw_0_273 ?_
  exact hQ _ h2
theorem law_c13 {kd : Bool} {S0 L T i : Nat} {xs : Nat → Int32} {ph : PH} {Q : Option Value → PH → Prop} (hL : L ≤ 2048) (hi : i + 4 ≤ L) (hT : T ≤ 50000) (hh : LSt kd S0 (.inl (L, xs)) T ph) (hQ : ∀ ph', LSt kd S0 (.inl (L, xs)) (T + 60) ph' → ZR 12 0 535 [some (.ref 0), some (.ref 2), some (.ref 75), some (.int (iv (i : Int)))] [] ph' Q) : ZR 12 0 274 [some (.ref 0), some (.ref 2), some (.ref 75), some (.int (iv (i : Int)))] [] ph Q := by
  obtain ⟨p, a, z, N, t, fs, h⟩ := hh
  refine zr_aload hk_0 rw_0_274 rfl ?_
  refine zr_aload hk_0 rw_0_275 rfl ?_
  refine zr_iload hk_0 rw_0_276 rfl ?_
  refine zi_const hk_0 rw_0_277 (c := 1) rfl ?_
  refine zi_add hk_0 rw_0_278 ?_
  refine mz_ald hk_0 h.2.2.2.2.1 rw_0_279 (i + 1) (by omega) (by omega) (by omega) ?_
  obtain ⟨y2, hc2⟩ := h.c2
  refine zr_virtual (L := 2) (n := 1) (as := [.int (xs (i + 1))]) (r := []) hk_0 rw_0_280 (by decide) (by decide) ⟨rfl, rfl, rfl, rfl⟩ hc2 (by decide) rfl rfl (by decide) (Nat.le_of_ble_eq_true rfl) (zc_ct (ct_full h.page 7) ct_96 (by show 1 < 7; omega) (by show 1 ≤ 11; omega) h.1 h.2.1 ⟨fit_ref (by decide) (by have := h.len; omega) (by decide), fit_full _ _, trivial⟩) ?_
  rintro w1 ph1 ⟨W1, I1, F1, v1⟩
  obtain ⟨x1, rfl⟩ := int_of v1
  obtain ⟨a1, h1⟩ := h.cls W1 I1 F1 (by decide) (by decide) (by decide) (by decide)
  refine zr_pop hk_0 rw_0_281 rfl ?_
  refine zr_aload hk_0 rw_0_282 rfl ?_
  refine zr_aload hk_0 rw_0_283 rfl ?_
  refine zr_iload hk_0 rw_0_284 rfl ?_
  refine zi_const hk_0 rw_0_285 (c := 1) rfl ?_
  refine zi_add hk_0 rw_0_286 ?_
  refine mz_ald hk_0 h1.2.2.2.2.1 rw_0_287 (i + 1) (by omega) (by omega) (by omega) ?_
  refine zr_virtual (L := 2) (n := 1) (as := [.int (xs (i + 1))]) (r := []) hk_0 rw_0_288 (by decide) (by decide) ⟨rfl, rfl, rfl, rfl⟩ h1.c75 (by decide) rfl rfl (by decide) (Nat.le_of_ble_eq_true rfl) (P := PubQ ph1 T a1 z) (zc_mh h1.eq (rd_pub h1.len h1.2.2.2.1 h1.wt h1.gi ct_169 (by show 3 ≤ 11; omega) (by decide) rfl ⟨fit_75 h1.len, fit_full _ _, trivial⟩)) ?_
  rintro w2 ph2 hq
  obtain ⟨⟨x2, rfl⟩, h2⟩ := h1.pub hq
  refine zr_pop hk_0 rw_0_289 rfl ?_
  refine zr_goto hk_0 rw_0_290 ?_
  exact hQ _ h2
theorem law_c14 {kd : Bool} {S0 L T i : Nat} {xs : Nat → Int32} {ph : PH} {Q : Option Value → PH → Prop} (hL : L ≤ 2048) (hi : i + 4 ≤ L) (hT : T ≤ 50000) (hh : LSt kd S0 (.inl (L, xs)) T ph) (hQ : ∀ ph', LSt kd S0 (.inl (L, xs)) (T + 60) ph' → ZR 12 0 535 [some (.ref 0), some (.ref 2), some (.ref 75), some (.int (iv (i : Int)))] [] ph' Q) : ZR 12 0 291 [some (.ref 0), some (.ref 2), some (.ref 75), some (.int (iv (i : Int)))] [] ph Q := by
  obtain ⟨p, a, z, N, t, fs, h⟩ := hh
  refine zr_aload hk_0 rw_0_291 rfl ?_
  refine zr_aload hk_0 rw_0_292 rfl ?_
  refine zr_iload hk_0 rw_0_293 rfl ?_
  refine zi_const hk_0 rw_0_294 (c := 1) rfl ?_
  refine zi_add hk_0 rw_0_295 ?_
  refine mz_ald hk_0 h.2.2.2.2.1 rw_0_296 (i + 1) (by omega) (by omega) (by omega) ?_
  refine zr_aload hk_0 rw_0_297 rfl ?_
  refine zr_iload hk_0 rw_0_298 rfl ?_
  refine zi_const hk_0 rw_0_299 (c := 2) rfl ?_
  refine zi_add hk_0 rw_0_300 ?_
  refine mz_ald hk_0 h.2.2.2.2.1 rw_0_301 (i + 2) (by omega) (by omega) (by omega) ?_
  obtain ⟨y2, hc2⟩ := h.c2
  refine zr_virtual (L := 5) (n := 2) (as := [.int (xs (i + 1)), .int (xs (i + 2))]) (r := []) hk_0 rw_0_302 (by decide) (by decide) ⟨rfl, rfl, rfl, rfl⟩ hc2 (by decide) rfl rfl (by decide) (Nat.le_of_ble_eq_true rfl) (zc_ct (ct_full h.page 7) ct_99 (by show 1 < 7; omega) (by show 1 ≤ 11; omega) h.1 h.2.1 ⟨fit_ref (by decide) (by have := h.len; omega) (by decide), fit_full _ _, fit_full _ _, trivial⟩) ?_
  rintro w1 ph1 ⟨W1, I1, F1, v1⟩
  obtain ⟨x1, rfl⟩ := int_of v1
  obtain ⟨a1, h1⟩ := h.cls W1 I1 F1 (by decide) (by decide) (by decide) (by decide)
  refine zr_pop hk_0 rw_0_303 rfl ?_
  refine zr_aload hk_0 rw_0_304 rfl ?_
  refine zr_aload hk_0 rw_0_305 rfl ?_
  refine zr_iload hk_0 rw_0_306 rfl ?_
  refine zi_const hk_0 rw_0_307 (c := 1) rfl ?_
  refine zi_add hk_0 rw_0_308 ?_
  refine mz_ald hk_0 h1.2.2.2.2.1 rw_0_309 (i + 1) (by omega) (by omega) (by omega) ?_
  refine zr_aload hk_0 rw_0_310 rfl ?_
  refine zr_iload hk_0 rw_0_311 rfl ?_
  refine zi_const hk_0 rw_0_312 (c := 2) rfl ?_
  refine zi_add hk_0 rw_0_313 ?_
  refine mz_ald hk_0 h1.2.2.2.2.1 rw_0_314 (i + 2) (by omega) (by omega) (by omega) ?_
  refine zr_virtual (L := 5) (n := 2) (as := [.int (xs (i + 1)), .int (xs (i + 2))]) (r := []) hk_0 rw_0_315 (by decide) (by decide) ⟨rfl, rfl, rfl, rfl⟩ h1.c75 (by decide) rfl rfl (by decide) (Nat.le_of_ble_eq_true rfl) (P := PubQ ph1 T a1 z) (zc_mh h1.eq (rd_pub h1.len h1.2.2.2.1 h1.wt h1.gi ct_171 (by show 2 ≤ 11; omega) (by decide) rfl ⟨fit_75 h1.len, fit_full _ _, fit_full _ _, trivial⟩)) ?_
  rintro w2 ph2 hq
  obtain ⟨⟨x2, rfl⟩, h2⟩ := h1.pub hq
  refine zr_pop hk_0 rw_0_316 rfl ?_
  refine zr_goto hk_0 rw_0_317 ?_
  exact hQ _ h2
theorem law_c15 {kd : Bool} {S0 L T i : Nat} {xs : Nat → Int32} {ph : PH} {Q : Option Value → PH → Prop} (hL : L ≤ 2048) (hi : i + 4 ≤ L) (hT : T ≤ 50000) (hh : LSt kd S0 (.inl (L, xs)) T ph) (hQ : ∀ ph', LSt kd S0 (.inl (L, xs)) (T + 60) ph' → ZR 12 0 535 [some (.ref 0), some (.ref 2), some (.ref 75), some (.int (iv (i : Int)))] [] ph' Q) : ZR 12 0 318 [some (.ref 0), some (.ref 2), some (.ref 75), some (.int (iv (i : Int)))] [] ph Q := by
  obtain ⟨p, a, z, N, t, fs, h⟩ := hh
  refine zr_aload hk_0 rw_0_318 rfl ?_
  refine zr_aload hk_0 rw_0_319 rfl ?_
  refine zr_iload hk_0 rw_0_320 rfl ?_
  refine zi_const hk_0 rw_0_321 (c := 1) rfl ?_
  refine zi_add hk_0 rw_0_322 ?_
  refine mz_ald hk_0 h.2.2.2.2.1 rw_0_323 (i + 1) (by omega) (by omega) (by omega) ?_
  obtain ⟨y2, hc2⟩ := h.c2
  refine zr_virtual (L := 2) (n := 1) (as := [.int (xs (i + 1))]) (r := []) hk_0 rw_0_324 (by decide) (by decide) ⟨rfl, rfl, rfl, rfl⟩ hc2 (by decide) rfl rfl (by decide) (Nat.le_of_ble_eq_true rfl) (zc_ct (ct_full h.page 7) ct_100 (by show 3 < 7; omega) (by show 3 ≤ 11; omega) h.1 h.2.1 ⟨fit_ref (by decide) (by have := h.len; omega) (by decide), fit_full _ _, trivial⟩) ?_
  rintro w1 ph1 ⟨W1, I1, F1, v1⟩
  obtain ⟨x1, rfl⟩ := int_of v1
  obtain ⟨a1, h1⟩ := h.cls W1 I1 F1 (by decide) (by decide) (by decide) (by decide)
  refine zr_pop hk_0 rw_0_325 rfl ?_
  refine zr_aload hk_0 rw_0_326 rfl ?_
  refine zr_aload hk_0 rw_0_327 rfl ?_
  refine zr_iload hk_0 rw_0_328 rfl ?_
  refine zi_const hk_0 rw_0_329 (c := 1) rfl ?_
  refine zi_add hk_0 rw_0_330 ?_
  refine mz_ald hk_0 h1.2.2.2.2.1 rw_0_331 (i + 1) (by omega) (by omega) (by omega) ?_
  refine zr_virtual (L := 2) (n := 1) (as := [.int (xs (i + 1))]) (r := []) hk_0 rw_0_332 (by decide) (by decide) ⟨rfl, rfl, rfl, rfl⟩ h1.c75 (by decide) rfl rfl (by decide) (Nat.le_of_ble_eq_true rfl) (P := PubQ ph1 T a1 z) (zc_mh h1.eq (rd_pub h1.len h1.2.2.2.1 h1.wt h1.gi ct_172 (by show 3 ≤ 11; omega) (by decide) rfl ⟨fit_75 h1.len, fit_full _ _, trivial⟩)) ?_
  rintro w2 ph2 hq
  obtain ⟨⟨x2, rfl⟩, h2⟩ := h1.pub hq
  refine zr_pop hk_0 rw_0_333 rfl ?_
  refine zr_goto hk_0 rw_0_334 ?_
  exact hQ _ h2
theorem law_c16 {kd : Bool} {S0 L T i : Nat} {xs : Nat → Int32} {ph : PH} {Q : Option Value → PH → Prop} (hL : L ≤ 2048) (hi : i + 4 ≤ L) (hT : T ≤ 50000) (hh : LSt kd S0 (.inl (L, xs)) T ph) (hQ : ∀ ph', LSt kd S0 (.inl (L, xs)) (T + 60) ph' → ZR 12 0 535 [some (.ref 0), some (.ref 2), some (.ref 75), some (.int (iv (i : Int)))] [] ph' Q) : ZR 12 0 335 [some (.ref 0), some (.ref 2), some (.ref 75), some (.int (iv (i : Int)))] [] ph Q := by
  obtain ⟨p, a, z, N, t, fs, h⟩ := hh
  refine zr_aload hk_0 rw_0_335 rfl ?_
  refine zr_aload hk_0 rw_0_336 rfl ?_
  refine zr_iload hk_0 rw_0_337 rfl ?_
  refine zi_const hk_0 rw_0_338 (c := 1) rfl ?_
  refine zi_add hk_0 rw_0_339 ?_
  refine mz_ald hk_0 h.2.2.2.2.1 rw_0_340 (i + 1) (by omega) (by omega) (by omega) ?_
  refine zr_aload hk_0 rw_0_341 rfl ?_
  refine zr_iload hk_0 rw_0_342 rfl ?_
  refine zi_const hk_0 rw_0_343 (c := 2) rfl ?_
  refine zi_add hk_0 rw_0_344 ?_
  refine mz_ald hk_0 h.2.2.2.2.1 rw_0_345 (i + 2) (by omega) (by omega) (by omega) ?_
  obtain ⟨y2, hc2⟩ := h.c2
  refine zr_virtual (L := 3) (n := 2) (as := [.int (xs (i + 1)), .int (xs (i + 2))]) (r := []) hk_0 rw_0_346 (by decide) (by decide) ⟨rfl, rfl, rfl, rfl⟩ hc2 (by decide) rfl rfl (by decide) (Nat.le_of_ble_eq_true rfl) (zc_ct (ct_full h.page 7) ct_102 (by show 3 < 7; omega) (by show 3 ≤ 11; omega) h.1 h.2.1 ⟨fit_ref (by decide) (by have := h.len; omega) (by decide), fit_full _ _, fit_full _ _, trivial⟩) ?_
  rintro w1 ph1 ⟨W1, I1, F1, v1⟩
  obtain ⟨x1, rfl⟩ := int_of v1
  obtain ⟨a1, h1⟩ := h.cls W1 I1 F1 (by decide) (by decide) (by decide) (by decide)
  refine zr_pop hk_0 rw_0_347 rfl ?_
  refine zr_aload hk_0 rw_0_348 rfl ?_
  refine zr_aload hk_0 rw_0_349 rfl ?_
  refine zr_iload hk_0 rw_0_350 rfl ?_
  refine zi_const hk_0 rw_0_351 (c := 1) rfl ?_
  refine zi_add hk_0 rw_0_352 ?_
  refine mz_ald hk_0 h1.2.2.2.2.1 rw_0_353 (i + 1) (by omega) (by omega) (by omega) ?_
  refine zr_aload hk_0 rw_0_354 rfl ?_
  refine zr_iload hk_0 rw_0_355 rfl ?_
  refine zi_const hk_0 rw_0_356 (c := 2) rfl ?_
  refine zi_add hk_0 rw_0_357 ?_
  refine mz_ald hk_0 h1.2.2.2.2.1 rw_0_358 (i + 2) (by omega) (by omega) (by omega) ?_
  refine zr_virtual (L := 7) (n := 2) (as := [.int (xs (i + 1)), .int (xs (i + 2))]) (r := []) hk_0 rw_0_359 (by decide) (by decide) ⟨rfl, rfl, rfl, rfl⟩ h1.c75 (by decide) rfl rfl (by decide) (Nat.le_of_ble_eq_true rfl) (P := PubQ ph1 T a1 z) (zc_mh h1.eq (by rw [iv_of (xs (i + 1)), iv_of (xs (i + 2))]; exact distance_ok 9 h1.len (inR_of _) (inR_of _) h1.2.2.2.1)) ?_
  rintro w2 ph2 hq
  obtain ⟨⟨x2, rfl⟩, h2⟩ := h1.pub hq
  refine zr_pop hk_0 rw_0_360 rfl ?_
  refine zr_goto hk_0 rw_0_361 ?_
  exact hQ _ h2
theorem law_c17 {kd : Bool} {S0 L T i : Nat} {xs : Nat → Int32} {ph : PH} {Q : Option Value → PH → Prop} (hL : L ≤ 2048) (hi : i + 4 ≤ L) (hT : T ≤ 50000) (hh : LSt kd S0 (.inl (L, xs)) T ph) (hQ : ∀ ph', LSt kd S0 (.inl (L, xs)) (T + 60) ph' → ZR 12 0 535 [some (.ref 0), some (.ref 2), some (.ref 75), some (.int (iv (i : Int)))] [] ph' Q) : ZR 12 0 362 [some (.ref 0), some (.ref 2), some (.ref 75), some (.int (iv (i : Int)))] [] ph Q := by
  obtain ⟨p, a, z, N, t, fs, h⟩ := hh
  refine zr_aload hk_0 rw_0_362 rfl ?_
  refine zr_aload hk_0 rw_0_363 rfl ?_
  refine zr_iload hk_0 rw_0_364 rfl ?_
  refine zi_const hk_0 rw_0_365 (c := 1) rfl ?_
  refine zi_add hk_0 rw_0_366 ?_
  refine mz_ald hk_0 h.2.2.2.2.1 rw_0_367 (i + 1) (by omega) (by omega) (by omega) ?_
  refine zr_aload hk_0 rw_0_368 rfl ?_
  refine zr_iload hk_0 rw_0_369 rfl ?_
  refine zi_const hk_0 rw_0_370 (c := 2) rfl ?_
  refine zi_add hk_0 rw_0_371 ?_
  refine mz_ald hk_0 h.2.2.2.2.1 rw_0_372 (i + 2) (by omega) (by omega) (by omega) ?_
  refine zr_aload hk_0 rw_0_373 rfl ?_
  refine zr_iload hk_0 rw_0_374 rfl ?_
  refine zi_const hk_0 rw_0_375 (c := 3) rfl ?_
  refine zi_add hk_0 rw_0_376 ?_
  refine mz_ald hk_0 h.2.2.2.2.1 rw_0_377 (i + 3) (by omega) (by omega) (by omega) ?_
  obtain ⟨y2, hc2⟩ := h.c2
  refine zr_virtual (L := 5) (n := 3) (as := [.int (xs (i + 1)), .int (xs (i + 2)), .int (xs (i + 3))]) (r := []) hk_0 rw_0_378 (by decide) (by decide) ⟨rfl, rfl, rfl, rfl⟩ hc2 (by decide) rfl rfl (by decide) (Nat.le_of_ble_eq_true rfl) (zc_ct (ct_full h.page 7) ct_105 (by show 1 < 7; omega) (by show 1 ≤ 11; omega) h.1 h.2.1 ⟨fit_ref (by decide) (by have := h.len; omega) (by decide), fit_full _ _, fit_full _ _, fit_full _ _, trivial⟩) ?_
  rintro w1 ph1 ⟨W1, I1, F1, v1⟩
  obtain ⟨x1, rfl⟩ := int_of v1
  obtain ⟨a1, h1⟩ := h.cls W1 I1 F1 (by decide) (by decide) (by decide) (by decide)
  refine zr_pop hk_0 rw_0_379 rfl ?_
  refine zr_aload hk_0 rw_0_380 rfl ?_
  refine zr_aload hk_0 rw_0_381 rfl ?_
  refine zr_iload hk_0 rw_0_382 rfl ?_
  refine zi_const hk_0 rw_0_383 (c := 1) rfl ?_
  refine zi_add hk_0 rw_0_384 ?_
  refine mz_ald hk_0 h1.2.2.2.2.1 rw_0_385 (i + 1) (by omega) (by omega) (by omega) ?_
  refine zr_aload hk_0 rw_0_386 rfl ?_
  refine zr_iload hk_0 rw_0_387 rfl ?_
  refine zi_const hk_0 rw_0_388 (c := 2) rfl ?_
  refine zi_add hk_0 rw_0_389 ?_
  refine mz_ald hk_0 h1.2.2.2.2.1 rw_0_390 (i + 2) (by omega) (by omega) (by omega) ?_
  refine zr_aload hk_0 rw_0_391 rfl ?_
  refine zr_iload hk_0 rw_0_392 rfl ?_
  refine zi_const hk_0 rw_0_393 (c := 3) rfl ?_
  refine zi_add hk_0 rw_0_394 ?_
  refine mz_ald hk_0 h1.2.2.2.2.1 rw_0_395 (i + 3) (by omega) (by omega) (by omega) ?_
  refine zr_virtual (L := 6) (n := 3) (as := [.int (xs (i + 1)), .int (xs (i + 2)), .int (xs (i + 3))]) (r := []) hk_0 rw_0_396 (by decide) (by decide) ⟨rfl, rfl, rfl, rfl⟩ h1.c75 (by decide) rfl rfl (by decide) (Nat.le_of_ble_eq_true rfl) (P := PubQ ph1 T a1 z) (zc_mh h1.eq (rd_pub h1.len h1.2.2.2.1 h1.wt h1.gi ct_175 (by show 2 ≤ 11; omega) (by decide) rfl ⟨fit_75 h1.len, fit_full _ _, fit_full _ _, fit_full _ _, trivial⟩)) ?_
  rintro w2 ph2 hq
  obtain ⟨⟨x2, rfl⟩, h2⟩ := h1.pub hq
  refine zr_pop hk_0 rw_0_397 rfl ?_
  refine zr_goto hk_0 rw_0_398 ?_
  exact hQ _ h2
theorem law_c18 {kd : Bool} {S0 L T i : Nat} {xs : Nat → Int32} {ph : PH} {Q : Option Value → PH → Prop} (hL : L ≤ 2048) (hi : i + 4 ≤ L) (hT : T ≤ 50000) (hh : LSt kd S0 (.inl (L, xs)) T ph) (hQ : ∀ ph', LSt kd S0 (.inl (L, xs)) (T + 60) ph' → ZR 12 0 535 [some (.ref 0), some (.ref 2), some (.ref 75), some (.int (iv (i : Int)))] [] ph' Q) : ZR 12 0 399 [some (.ref 0), some (.ref 2), some (.ref 75), some (.int (iv (i : Int)))] [] ph Q := by
  obtain ⟨p, a, z, N, t, fs, h⟩ := hh
  refine zr_aload hk_0 rw_0_399 rfl ?_
  refine zr_aload hk_0 rw_0_400 rfl ?_
  refine zr_iload hk_0 rw_0_401 rfl ?_
  refine zi_const hk_0 rw_0_402 (c := 1) rfl ?_
  refine zi_add hk_0 rw_0_403 ?_
  refine mz_ald hk_0 h.2.2.2.2.1 rw_0_404 (i + 1) (by omega) (by omega) (by omega) ?_
  obtain ⟨y2, hc2⟩ := h.c2
  refine zr_virtual (L := 3) (n := 1) (as := [.int (xs (i + 1))]) (r := []) hk_0 rw_0_405 (by decide) (by decide) ⟨rfl, rfl, rfl, rfl⟩ hc2 (by decide) rfl rfl (by decide) (Nat.le_of_ble_eq_true rfl) (zc_ct (ct_full h.page 7) ct_106 (by show 0 < 7; omega) (by show 0 ≤ 11; omega) h.1 h.2.1 ⟨fit_ref (by decide) (by have := h.len; omega) (by decide), fit_full _ _, trivial⟩) ?_
  rintro w1 ph1 ⟨W1, I1, F1, v1⟩
  obtain ⟨x1, rfl⟩ := int_of v1
  obtain ⟨a1, h1⟩ := h.cls W1 I1 F1 (by decide) (by decide) (by decide) (by decide)
  refine zr_pop hk_0 rw_0_406 rfl ?_
  refine zr_aload hk_0 rw_0_407 rfl ?_
  refine zr_aload hk_0 rw_0_408 rfl ?_
  refine zr_iload hk_0 rw_0_409 rfl ?_
  refine zi_const hk_0 rw_0_410 (c := 1) rfl ?_
  refine zi_add hk_0 rw_0_411 ?_
  refine mz_ald hk_0 h1.2.2.2.2.1 rw_0_412 (i + 1) (by omega) (by omega) (by omega) ?_
  refine zr_virtual (L := 2) (n := 1) (as := [.int (xs (i + 1))]) (r := []) hk_0 rw_0_413 (by decide) (by decide) ⟨rfl, rfl, rfl, rfl⟩ h1.c75 (by decide) rfl rfl (by decide) (Nat.le_of_ble_eq_true rfl) (P := PubQ ph1 T a1 z) (zc_mh h1.eq (rd_pub h1.len h1.2.2.2.1 h1.wt h1.gi ct_176 (by show 0 ≤ 11; omega) (by decide) rfl ⟨fit_75 h1.len, fit_full _ _, trivial⟩)) ?_
  rintro w2 ph2 hq
  obtain ⟨⟨x2, rfl⟩, h2⟩ := h1.pub hq
  refine zr_pop hk_0 rw_0_414 rfl ?_
  refine zr_goto hk_0 rw_0_415 ?_
  exact hQ _ h2
theorem law_c19 {kd : Bool} {S0 L T i : Nat} {xs : Nat → Int32} {ph : PH} {Q : Option Value → PH → Prop} (hL : L ≤ 2048) (hi : i + 4 ≤ L) (hT : T ≤ 50000) (hh : LSt kd S0 (.inl (L, xs)) T ph) (hQ : ∀ ph', LSt kd S0 (.inl (L, xs)) (T + 60) ph' → ZR 12 0 535 [some (.ref 0), some (.ref 2), some (.ref 75), some (.int (iv (i : Int)))] [] ph' Q) : ZR 12 0 416 [some (.ref 0), some (.ref 2), some (.ref 75), some (.int (iv (i : Int)))] [] ph Q := by
  obtain ⟨p, a, z, N, t, fs, h⟩ := hh
  refine zr_aload hk_0 rw_0_416 rfl ?_
  refine zr_aload hk_0 rw_0_417 rfl ?_
  refine zr_iload hk_0 rw_0_418 rfl ?_
  refine zi_const hk_0 rw_0_419 (c := 1) rfl ?_
  refine zi_add hk_0 rw_0_420 ?_
  refine mz_ald hk_0 h.2.2.2.2.1 rw_0_421 (i + 1) (by omega) (by omega) (by omega) ?_
  obtain ⟨y2, hc2⟩ := h.c2
  refine zr_virtual (L := 3) (n := 1) (as := [.int (xs (i + 1))]) (r := []) hk_0 rw_0_422 (by decide) (by decide) ⟨rfl, rfl, rfl, rfl⟩ hc2 (by decide) rfl rfl (by decide) (Nat.le_of_ble_eq_true rfl) (zc_ct (ct_full h.page 7) ct_107 (by show 3 < 7; omega) (by show 3 ≤ 11; omega) h.1 h.2.1 ⟨fit_ref (by decide) (by have := h.len; omega) (by decide), fit_full _ _, trivial⟩) ?_
  rintro w1 ph1 ⟨W1, I1, F1, v1⟩
  obtain ⟨x1, rfl⟩ := int_of v1
  obtain ⟨a1, h1⟩ := h.cls W1 I1 F1 (by decide) (by decide) (by decide) (by decide)
  refine zr_pop hk_0 rw_0_423 rfl ?_
  refine zr_aload hk_0 rw_0_424 rfl ?_
  refine zr_aload hk_0 rw_0_425 rfl ?_
  refine zr_iload hk_0 rw_0_426 rfl ?_
  refine zi_const hk_0 rw_0_427 (c := 1) rfl ?_
  refine zi_add hk_0 rw_0_428 ?_
  refine mz_ald hk_0 h1.2.2.2.2.1 rw_0_429 (i + 1) (by omega) (by omega) (by omega) ?_
  refine zr_virtual (L := 3) (n := 1) (as := [.int (xs (i + 1))]) (r := []) hk_0 rw_0_430 (by decide) (by decide) ⟨rfl, rfl, rfl, rfl⟩ h1.c75 (by decide) rfl rfl (by decide) (Nat.le_of_ble_eq_true rfl) (P := PubQ ph1 T a1 z) (zc_mh h1.eq (rd_pub h1.len h1.2.2.2.1 h1.wt h1.gi ct_177 (by show 2 ≤ 11; omega) (by decide) rfl ⟨fit_75 h1.len, fit_full _ _, trivial⟩)) ?_
  rintro w2 ph2 hq
  obtain ⟨⟨x2, rfl⟩, h2⟩ := h1.pub hq
  refine zr_pop hk_0 rw_0_431 rfl ?_
  refine zr_goto hk_0 rw_0_432 ?_
  exact hQ _ h2
theorem law_c20 {kd : Bool} {S0 L T i : Nat} {xs : Nat → Int32} {ph : PH} {Q : Option Value → PH → Prop} (hL : L ≤ 2048) (hi : i + 4 ≤ L) (hT : T ≤ 50000) (hh : LSt kd S0 (.inl (L, xs)) T ph) (hQ : ∀ ph', LSt kd S0 (.inl (L, xs)) (T + 60) ph' → ZR 12 0 535 [some (.ref 0), some (.ref 2), some (.ref 75), some (.int (iv (i : Int)))] [] ph' Q) : ZR 12 0 433 [some (.ref 0), some (.ref 2), some (.ref 75), some (.int (iv (i : Int)))] [] ph Q := by
  obtain ⟨p, a, z, N, t, fs, h⟩ := hh
  refine zr_aload hk_0 rw_0_433 rfl ?_
  obtain ⟨y2, hc2⟩ := h.c2
  refine zr_virtual (L := 11) (n := 0) (as := []) (r := []) hk_0 rw_0_434 (by decide) (by decide) ⟨rfl, rfl, rfl, rfl⟩ hc2 (by decide) rfl rfl (by decide) (Nat.le_of_ble_eq_true rfl) (zc_ct (ct_full h.page 7) ct_108 (by show 0 < 7; omega) (by show 0 ≤ 11; omega) h.1 h.2.1 ⟨fit_ref (by decide) (by have := h.len; omega) (by decide), trivial⟩) ?_
  rintro w1 ph1 ⟨W1, I1, F1, v1⟩
  obtain ⟨x1, rfl⟩ := int_of v1
  obtain ⟨a1, h1⟩ := h.cls W1 I1 F1 (by decide) (by decide) (by decide) (by decide)
  refine zr_pop hk_0 rw_0_435 rfl ?_
  refine zr_aload hk_0 rw_0_436 rfl ?_
  refine zr_virtual (L := 10) (n := 0) (as := []) (r := []) hk_0 rw_0_437 (by decide) (by decide) ⟨rfl, rfl, rfl, rfl⟩ h1.c75 (by decide) rfl rfl (by decide) (Nat.le_of_ble_eq_true rfl) (P := PubQ ph1 T a1 z) (zc_mh h1.eq (by exact fairness_ok 7 h1.len (by omega) h1.2.2.2.1)) ?_
  rintro w2 ph2 hq
  obtain ⟨⟨x2, rfl⟩, h2⟩ := h1.pub hq
  refine zr_pop hk_0 rw_0_438 rfl ?_
  refine zr_goto hk_0 rw_0_439 ?_
  exact hQ _ h2
theorem law_c21 {kd : Bool} {S0 L T i : Nat} {xs : Nat → Int32} {ph : PH} {Q : Option Value → PH → Prop} (hL : L ≤ 2048) (hi : i + 4 ≤ L) (hT : T ≤ 50000) (hh : LSt kd S0 (.inl (L, xs)) T ph) (hQ : ∀ ph', LSt kd S0 (.inl (L, xs)) (T + 60) ph' → ZR 12 0 535 [some (.ref 0), some (.ref 2), some (.ref 75), some (.int (iv (i : Int)))] [] ph' Q) : ZR 12 0 440 [some (.ref 0), some (.ref 2), some (.ref 75), some (.int (iv (i : Int)))] [] ph Q := by
  obtain ⟨p, a, z, N, t, fs, h⟩ := hh
  refine zr_aload hk_0 rw_0_440 rfl ?_
  refine zr_aload hk_0 rw_0_441 rfl ?_
  refine zr_iload hk_0 rw_0_442 rfl ?_
  refine zi_const hk_0 rw_0_443 (c := 1) rfl ?_
  refine zi_add hk_0 rw_0_444 ?_
  refine mz_ald hk_0 h.2.2.2.2.1 rw_0_445 (i + 1) (by omega) (by omega) (by omega) ?_
  refine zr_aload hk_0 rw_0_446 rfl ?_
  refine zr_iload hk_0 rw_0_447 rfl ?_
  refine zi_const hk_0 rw_0_448 (c := 2) rfl ?_
  refine zi_add hk_0 rw_0_449 ?_
  refine mz_ald hk_0 h.2.2.2.2.1 rw_0_450 (i + 2) (by omega) (by omega) (by omega) ?_
  obtain ⟨y2, hc2⟩ := h.c2
  refine zr_virtual (L := 4) (n := 2) (as := [.int (xs (i + 1)), .int (xs (i + 2))]) (r := []) hk_0 rw_0_451 (by decide) (by decide) ⟨rfl, rfl, rfl, rfl⟩ hc2 (by decide) rfl rfl (by decide) (Nat.le_of_ble_eq_true rfl) (zc_ct (ct_full h.page 7) ct_109 (by show 6 < 7; omega) (by show 6 ≤ 11; omega) h.1 h.2.1 ⟨fit_ref (by decide) (by have := h.len; omega) (by decide), fit_full _ _, fit_full _ _, trivial⟩) ?_
  rintro w1 ph1 ⟨W1, I1, F1, v1⟩
  obtain ⟨x1, rfl⟩ := int_of v1
  obtain ⟨a1, h1⟩ := h.cls W1 I1 F1 (by decide) (by decide) (by decide) (by decide)
  refine zr_pop hk_0 rw_0_452 rfl ?_
  refine zr_aload hk_0 rw_0_453 rfl ?_
  refine zr_aload hk_0 rw_0_454 rfl ?_
  refine zr_iload hk_0 rw_0_455 rfl ?_
  refine zi_const hk_0 rw_0_456 (c := 1) rfl ?_
  refine zi_add hk_0 rw_0_457 ?_
  refine mz_ald hk_0 h1.2.2.2.2.1 rw_0_458 (i + 1) (by omega) (by omega) (by omega) ?_
  refine zr_aload hk_0 rw_0_459 rfl ?_
  refine zr_iload hk_0 rw_0_460 rfl ?_
  refine zi_const hk_0 rw_0_461 (c := 2) rfl ?_
  refine zi_add hk_0 rw_0_462 ?_
  refine mz_ald hk_0 h1.2.2.2.2.1 rw_0_463 (i + 2) (by omega) (by omega) (by omega) ?_
  refine zr_virtual (L := 3) (n := 2) (as := [.int (xs (i + 1)), .int (xs (i + 2))]) (r := []) hk_0 rw_0_464 (by decide) (by decide) ⟨rfl, rfl, rfl, rfl⟩ h1.c75 (by decide) rfl rfl (by decide) (Nat.le_of_ble_eq_true rfl) (P := PubQ ph1 T a1 z) (zc_mh h1.eq (by rw [iv_of (xs (i + 1)), iv_of (xs (i + 2))]; exact ifBudget_ok 2 h1.len (inR_of _) (inR_of _) (by omega) h1.2.2.2.1)) ?_
  rintro w2 ph2 hq
  obtain ⟨⟨x2, rfl⟩, h2⟩ := h1.pub hq
  refine zr_pop hk_0 rw_0_465 rfl ?_
  refine zr_goto hk_0 rw_0_466 ?_
  exact hQ _ h2
theorem law_c22 {kd : Bool} {S0 L T i : Nat} {xs : Nat → Int32} {ph : PH} {Q : Option Value → PH → Prop} (hL : L ≤ 2048) (hi : i + 4 ≤ L) (hT : T ≤ 50000) (hh : LSt kd S0 (.inl (L, xs)) T ph) (hQ : ∀ ph', LSt kd S0 (.inl (L, xs)) (T + 60) ph' → ZR 12 0 535 [some (.ref 0), some (.ref 2), some (.ref 75), some (.int (iv (i : Int)))] [] ph' Q) : ZR 12 0 467 [some (.ref 0), some (.ref 2), some (.ref 75), some (.int (iv (i : Int)))] [] ph Q := by
  obtain ⟨p, a, z, N, t, fs, h⟩ := hh
  refine zr_aload hk_0 rw_0_467 rfl ?_
  refine zr_aload hk_0 rw_0_468 rfl ?_
  refine zr_iload hk_0 rw_0_469 rfl ?_
  refine zi_const hk_0 rw_0_470 (c := 1) rfl ?_
  refine zi_add hk_0 rw_0_471 ?_
  refine mz_ald hk_0 h.2.2.2.2.1 rw_0_472 (i + 1) (by omega) (by omega) (by omega) ?_
  obtain ⟨y2, hc2⟩ := h.c2
  refine zr_virtual (L := 10) (n := 1) (as := [.int (xs (i + 1))]) (r := []) hk_0 rw_0_473 (by decide) (by decide) ⟨rfl, rfl, rfl, rfl⟩ hc2 (by decide) rfl rfl (by decide) (Nat.le_of_ble_eq_true rfl) (zc_ct (ct_full h.page 7) ct_111 (by show 6 < 7; omega) (by show 6 ≤ 11; omega) h.1 h.2.1 ⟨fit_ref (by decide) (by have := h.len; omega) (by decide), fit_full _ _, trivial⟩) ?_
  rintro w1 ph1 ⟨W1, I1, F1, v1⟩
  obtain ⟨x1, rfl⟩ := int_of v1
  obtain ⟨a1, h1⟩ := h.cls W1 I1 F1 (by decide) (by decide) (by decide) (by decide)
  refine zr_pop hk_0 rw_0_474 rfl ?_
  refine zr_aload hk_0 rw_0_475 rfl ?_
  refine zr_aload hk_0 rw_0_476 rfl ?_
  refine zr_iload hk_0 rw_0_477 rfl ?_
  refine zi_const hk_0 rw_0_478 (c := 1) rfl ?_
  refine zi_add hk_0 rw_0_479 ?_
  refine mz_ald hk_0 h1.2.2.2.2.1 rw_0_480 (i + 1) (by omega) (by omega) (by omega) ?_
  refine zr_virtual (L := 6) (n := 1) (as := [.int (xs (i + 1))]) (r := []) hk_0 rw_0_481 (by decide) (by decide) ⟨rfl, rfl, rfl, rfl⟩ h1.c75 (by decide) rfl rfl (by decide) (Nat.le_of_ble_eq_true rfl) (P := PubQ ph1 T a1 z) (zc_mh h1.eq (by rw [iv_of (xs (i + 1))]; exact bestBudget_ok 2 h1.len (inR_of _) (by omega) h1.2.2.2.1)) ?_
  rintro w2 ph2 hq
  obtain ⟨⟨x2, rfl⟩, h2⟩ := h1.pub hq
  refine zr_pop hk_0 rw_0_482 rfl ?_
  refine zr_goto hk_0 rw_0_483 ?_
  exact hQ _ h2
theorem law_c23 {kd : Bool} {S0 L T i : Nat} {xs : Nat → Int32} {ph : PH} {Q : Option Value → PH → Prop} (hL : L ≤ 2048) (hi : i + 4 ≤ L) (hT : T ≤ 50000) (hh : LSt kd S0 (.inl (L, xs)) T ph) (hQ : ∀ ph', LSt kd S0 (.inl (L, xs)) (T + 60) ph' → ZR 12 0 535 [some (.ref 0), some (.ref 2), some (.ref 75), some (.int (iv (i : Int)))] [] ph' Q) : ZR 12 0 484 [some (.ref 0), some (.ref 2), some (.ref 75), some (.int (iv (i : Int)))] [] ph Q := by
  obtain ⟨p, a, z, N, t, fs, h⟩ := hh
  refine zr_aload hk_0 rw_0_484 rfl ?_
  refine zr_aload hk_0 rw_0_485 rfl ?_
  refine zr_iload hk_0 rw_0_486 rfl ?_
  refine zi_const hk_0 rw_0_487 (c := 1) rfl ?_
  refine zi_add hk_0 rw_0_488 ?_
  refine mz_ald hk_0 h.2.2.2.2.1 rw_0_489 (i + 1) (by omega) (by omega) (by omega) ?_
  refine zr_aload hk_0 rw_0_490 rfl ?_
  refine zr_iload hk_0 rw_0_491 rfl ?_
  refine zi_const hk_0 rw_0_492 (c := 2) rfl ?_
  refine zi_add hk_0 rw_0_493 ?_
  refine mz_ald hk_0 h.2.2.2.2.1 rw_0_494 (i + 2) (by omega) (by omega) (by omega) ?_
  refine zr_aload hk_0 rw_0_495 rfl ?_
  refine zr_iload hk_0 rw_0_496 rfl ?_
  refine zi_const hk_0 rw_0_497 (c := 3) rfl ?_
  refine zi_add hk_0 rw_0_498 ?_
  refine mz_ald hk_0 h.2.2.2.2.1 rw_0_499 (i + 3) (by omega) (by omega) (by omega) ?_
  obtain ⟨y2, hc2⟩ := h.c2
  refine zr_virtual (L := 7) (n := 3) (as := [.int (xs (i + 1)), .int (xs (i + 2)), .int (xs (i + 3))]) (r := []) hk_0 rw_0_500 (by decide) (by decide) ⟨rfl, rfl, rfl, rfl⟩ hc2 (by decide) rfl rfl (by decide) (Nat.le_of_ble_eq_true rfl) (zc_ct (ct_full h.page 7) ct_112 (by show 6 < 7; omega) (by show 6 ≤ 11; omega) h.1 h.2.1 ⟨fit_ref (by decide) (by have := h.len; omega) (by decide), fit_full _ _, fit_full _ _, fit_full _ _, trivial⟩) ?_
  rintro w1 ph1 ⟨W1, I1, F1, v1⟩
  obtain ⟨x1, rfl⟩ := int_of v1
  obtain ⟨a1, h1⟩ := h.cls W1 I1 F1 (by decide) (by decide) (by decide) (by decide)
  refine zr_pop hk_0 rw_0_501 rfl ?_
  refine zr_aload hk_0 rw_0_502 rfl ?_
  refine zr_aload hk_0 rw_0_503 rfl ?_
  refine zr_iload hk_0 rw_0_504 rfl ?_
  refine zi_const hk_0 rw_0_505 (c := 1) rfl ?_
  refine zi_add hk_0 rw_0_506 ?_
  refine mz_ald hk_0 h1.2.2.2.2.1 rw_0_507 (i + 1) (by omega) (by omega) (by omega) ?_
  refine zr_aload hk_0 rw_0_508 rfl ?_
  refine zr_iload hk_0 rw_0_509 rfl ?_
  refine zi_const hk_0 rw_0_510 (c := 2) rfl ?_
  refine zi_add hk_0 rw_0_511 ?_
  refine mz_ald hk_0 h1.2.2.2.2.1 rw_0_512 (i + 2) (by omega) (by omega) (by omega) ?_
  refine zr_aload hk_0 rw_0_513 rfl ?_
  refine zr_iload hk_0 rw_0_514 rfl ?_
  refine zi_const hk_0 rw_0_515 (c := 3) rfl ?_
  refine zi_add hk_0 rw_0_516 ?_
  refine mz_ald hk_0 h1.2.2.2.2.1 rw_0_517 (i + 3) (by omega) (by omega) (by omega) ?_
  refine zr_virtual (L := 6) (n := 3) (as := [.int (xs (i + 1)), .int (xs (i + 2)), .int (xs (i + 3))]) (r := []) hk_0 rw_0_518 (by decide) (by decide) ⟨rfl, rfl, rfl, rfl⟩ h1.c75 (by decide) rfl rfl (by decide) (Nat.le_of_ble_eq_true rfl) (P := PubQ ph1 T a1 z) (zc_mh h1.eq (by rw [iv_of (xs (i + 1)), iv_of (xs (i + 2)), iv_of (xs (i + 3))]; exact ifOpened_ok 7 h1.len (inR_of _) (inR_of _) (inR_of _) h1.2.2.2.1)) ?_
  rintro w2 ph2 hq
  obtain ⟨⟨x2, rfl⟩, h2⟩ := h1.pub hq
  refine zr_pop hk_0 rw_0_519 rfl ?_
  refine zr_goto hk_0 rw_0_520 ?_
  exact hQ _ h2
theorem law_c24 {kd : Bool} {S0 L T i : Nat} {xs : Nat → Int32} {ph : PH} {Q : Option Value → PH → Prop} (hL : L ≤ 2048) (hi : i + 4 ≤ L) (hT : T ≤ 50000) (hh : LSt kd S0 (.inl (L, xs)) T ph) (hQ : ∀ ph', LSt kd S0 (.inl (L, xs)) (T + 60) ph' → ZR 12 0 535 [some (.ref 0), some (.ref 2), some (.ref 75), some (.int (iv (i : Int)))] [] ph' Q) : ZR 12 0 521 [some (.ref 0), some (.ref 2), some (.ref 75), some (.int (iv (i : Int)))] [] ph Q := by
  obtain ⟨p, a, z, N, t, fs, h⟩ := hh
  refine zr_aload hk_0 rw_0_521 rfl ?_
  obtain ⟨y2, hc2⟩ := h.c2
  refine zr_virtual (L := 1) (n := 0) (as := []) (r := []) hk_0 rw_0_522 (by decide) (by decide) ⟨rfl, rfl, rfl, rfl⟩ hc2 (by decide) rfl rfl (by decide) (Nat.le_of_ble_eq_true rfl) (zc_ct (ct_full h.page 7) ct_113 (by show 5 < 7; omega) (by show 5 ≤ 11; omega) h.1 h.2.1 ⟨fit_ref (by decide) (by have := h.len; omega) (by decide), trivial⟩) ?_
  rintro w1 ph1 ⟨W1, I1, F1, v1⟩
  obtain ⟨x1, rfl⟩ := int_of v1
  obtain ⟨a1, h1⟩ := h.cls W1 I1 F1 (by decide) (by decide) (by decide) (by decide)
  refine zr_pop hk_0 rw_0_523 rfl ?_
  refine zr_aload hk_0 rw_0_524 rfl ?_
  refine zr_virtual (L := 1) (n := 0) (as := []) (r := []) hk_0 rw_0_525 (by decide) (by decide) ⟨rfl, rfl, rfl, rfl⟩ h1.c75 (by decide) rfl rfl (by decide) (Nat.le_of_ble_eq_true rfl) (P := PubQ ph1 T a1 z) (zc_mh h1.eq (by exact undo_ok 10 h1.len h1.2.2.2.1)) ?_
  rintro w2 ph2 hq
  obtain ⟨⟨x2, rfl⟩, h2⟩ := h1.pub hq
  refine zr_pop hk_0 rw_0_526 rfl ?_
  refine zr_goto hk_0 rw_0_527 ?_
  exact hQ _ h2
theorem law_c25 {kd : Bool} {S0 L T i : Nat} {xs : Nat → Int32} {ph : PH} {Q : Option Value → PH → Prop} (hL : L ≤ 2048) (hi : i + 4 ≤ L) (hT : T ≤ 50000) (hh : LSt kd S0 (.inl (L, xs)) T ph) (hQ : ∀ ph', LSt kd S0 (.inl (L, xs)) (T + 60) ph' → ZR 12 0 535 [some (.ref 0), some (.ref 2), some (.ref 75), some (.int (iv (i : Int)))] [] ph' Q) : ZR 12 0 528 [some (.ref 0), some (.ref 2), some (.ref 75), some (.int (iv (i : Int)))] [] ph Q := by
  obtain ⟨p, a, z, N, t, fs, h⟩ := hh
  refine zr_aload hk_0 rw_0_528 rfl ?_
  obtain ⟨y2, hc2⟩ := h.c2
  refine zr_virtual (L := 4) (n := 0) (as := []) (r := []) hk_0 rw_0_529 (by decide) (by decide) ⟨rfl, rfl, rfl, rfl⟩ hc2 (by decide) rfl rfl (by decide) (Nat.le_of_ble_eq_true rfl) (zc_ct (ct_full h.page 7) ct_115 (by show 6 < 7; omega) (by show 6 ≤ 11; omega) h.1 h.2.1 ⟨fit_ref (by decide) (by have := h.len; omega) (by decide), trivial⟩) ?_
  rintro w1 ph1 ⟨W1, I1, F1, v1⟩
  obtain ⟨x1, rfl⟩ := long_of v1
  obtain ⟨a1, h1⟩ := h.cls W1 I1 F1 (by decide) (by decide) (by decide) (by decide)
  refine zr_pop2 hk_0 rw_0_530 ?_
  refine zr_aload hk_0 rw_0_531 rfl ?_
  refine zr_virtual (L := 4) (n := 0) (as := []) (r := []) hk_0 rw_0_532 (by decide) (by decide) ⟨rfl, rfl, rfl, rfl⟩ h1.c75 (by decide) rfl rfl (by decide) (Nat.le_of_ble_eq_true rfl) (zc_mh h1.eq (digest_ok 5 h1.len (by omega) h1.page (fun b => WT_mh h1.len h1.wt h1.page) (fun b => GI_mh h1.len h1.gi))) ?_
  rintro w2 ph2 ⟨b2, rfl, hK, x2, rfl⟩
  refine zr_pop2 hk_0 rw_0_533 ?_
  refine zr_goto hk_0 rw_0_534 ?_
  exact hQ _ ⟨_, _, _, _, _, _, h1.mdl (h1.2.2.2.1.up (by omega)) rfl (fun _ => rfl) (hK 1 (by decide))⟩

/-! ===== by program (wip/gen/m66.py): copies, the flights ===== -/
theorem kc127_eq : codeOf 127 = kc127 := rfl
theorem hk_127 : 127 < 186 := by decide
theorem rw_127_0 : (codeOf 127)[0]? = some (0, .iconst 0, 2147483648, 0, 0, 1, []) := by rw [kc127_eq]; rfl
theorem rw_127_1 : (codeOf 127)[1]? = some (1, .istore 3, 3, 0, 0, 1, []) := by rw [kc127_eq]; rfl
theorem rw_127_2 : (codeOf 127)[2]? = some (2, .monitorexit, 1016, 0, 0, 0, []) := by rw [kc127_eq]; rfl
theorem rw_127_3 : (codeOf 127)[3]? = some (2, .iload 3, 3, 0, 0, 1, []) := by rw [kc127_eq]; rfl
theorem rw_127_4 : (codeOf 127)[4]? = some (3, .iconst 2000, 2147485648, 0, 0, 3, []) := by rw [kc127_eq]; rfl
theorem rw_127_5 : (codeOf 127)[5]? = some (6, .if_icmp .ge 33, 39, 24, 0, 3, []) := by rw [kc127_eq]; rfl
theorem rw_127_6 : (codeOf 127)[6]? = some (9, .aload 0, 0, 0, 3, 1, []) := by rw [kc127_eq]; rfl
theorem rw_127_7 : (codeOf 127)[7]? = some (10, .getfield 7, 9, 0, 3, 3, []) := by rw [kc127_eq]; rfl
theorem rw_127_8 : (codeOf 127)[8]? = some (13, .iconst 2000, 2147485648, 0, 0, 3, []) := by rw [kc127_eq]; rfl
theorem rw_127_9 : (codeOf 127)[9]? = some (16, .iload 2, 2, 0, 0, 1, []) := by rw [kc127_eq]; rfl
theorem rw_127_10 : (codeOf 127)[10]? = some (17, .imul, 0, 0, 0, 1, []) := by rw [kc127_eq]; rfl
theorem rw_127_11 : (codeOf 127)[11]? = some (18, .iload 3, 3, 0, 0, 1, []) := by rw [kc127_eq]; rfl
theorem rw_127_12 : (codeOf 127)[12]? = some (19, .iadd, 0, 0, 0, 1, []) := by rw [kc127_eq]; rfl
theorem rw_127_13 : (codeOf 127)[13]? = some (20, .aload 0, 0, 0, 3, 1, []) := by rw [kc127_eq]; rfl
theorem rw_127_14 : (codeOf 127)[14]? = some (21, .getfield 7, 9, 0, 3, 3, []) := by rw [kc127_eq]; rfl
theorem rw_127_15 : (codeOf 127)[15]? = some (24, .iconst 2000, 2147485648, 0, 0, 3, []) := by rw [kc127_eq]; rfl
theorem rw_127_16 : (codeOf 127)[16]? = some (27, .iload 1, 1, 0, 0, 1, []) := by rw [kc127_eq]; rfl
theorem rw_127_17 : (codeOf 127)[17]? = some (28, .imul, 0, 0, 0, 1, []) := by rw [kc127_eq]; rfl
theorem rw_127_18 : (codeOf 127)[18]? = some (29, .iload 3, 3, 0, 0, 1, []) := by rw [kc127_eq]; rfl
theorem rw_127_19 : (codeOf 127)[19]? = some (30, .iadd, 0, 0, 0, 1, []) := by rw [kc127_eq]; rfl
theorem rw_127_20 : (codeOf 127)[20]? = some (31, .iaload, 0, 0, 0, 1, []) := by rw [kc127_eq]; rfl
theorem rw_127_21 : (codeOf 127)[21]? = some (32, .iastore, 0, 0, 0, 1, []) := by rw [kc127_eq]; rfl
theorem rw_127_22 : (codeOf 127)[22]? = some (33, .iinc 3 1, 3, 1, 0, 3, []) := by rw [kc127_eq]; rfl
theorem rw_127_23 : (codeOf 127)[23]? = some (36, .goto (-34), 2, 2, 0, 3, []) := by rw [kc127_eq]; rfl
theorem rw_127_24 : (codeOf 127)[24]? = some (39, .return_, 0, 0, 0, 1, []) := by rw [kc127_eq]; rfl
theorem kc129_eq : codeOf 129 = kc129 := rfl
theorem hk_129 : 129 < 186 := by decide
theorem rw_129_0 : (codeOf 129)[0]? = some (0, .iconst 0, 2147483648, 0, 0, 1, []) := by rw [kc129_eq]; rfl
theorem rw_129_1 : (codeOf 129)[1]? = some (1, .istore 1, 1, 0, 0, 1, []) := by rw [kc129_eq]; rfl
theorem rw_129_2 : (codeOf 129)[2]? = some (2, .monitorexit, 1032, 0, 0, 0, []) := by rw [kc129_eq]; rfl
theorem rw_129_3 : (codeOf 129)[3]? = some (2, .iload 1, 1, 0, 0, 1, []) := by rw [kc129_eq]; rfl
theorem rw_129_4 : (codeOf 129)[4]? = some (3, .iconst 10, 2147483658, 0, 0, 2, []) := by rw [kc129_eq]; rfl
theorem rw_129_5 : (codeOf 129)[5]? = some (5, .if_icmp .ge 19, 24, 14, 0, 3, []) := by rw [kc129_eq]; rfl
theorem rw_129_6 : (codeOf 129)[6]? = some (8, .aload 0, 0, 0, 3, 1, []) := by rw [kc129_eq]; rfl
theorem rw_129_7 : (codeOf 129)[7]? = some (9, .iload 1, 1, 0, 0, 1, []) := by rw [kc129_eq]; rfl
theorem rw_129_8 : (codeOf 129)[8]? = some (10, .iconst 0, 2147483648, 0, 0, 1, []) := by rw [kc129_eq]; rfl
theorem rw_129_9 : (codeOf 129)[9]? = some (11, .invokevirtual 62, 130, 0, 0, 3, []) := by rw [kc129_eq]; rfl
theorem rw_129_10 : (codeOf 129)[10]? = some (14, .iconst 1, 2147483649, 0, 0, 1, []) := by rw [kc129_eq]; rfl
theorem rw_129_11 : (codeOf 129)[11]? = some (15, .if_icmp .ne 9, 24, 14, 0, 3, []) := by rw [kc129_eq]; rfl
theorem rw_129_12 : (codeOf 129)[12]? = some (18, .iinc 1 1, 1, 1, 0, 3, []) := by rw [kc129_eq]; rfl
theorem rw_129_13 : (codeOf 129)[13]? = some (21, .goto (-19), 2, 2, 0, 3, []) := by rw [kc129_eq]; rfl
theorem rw_129_14 : (codeOf 129)[14]? = some (24, .iload 1, 1, 0, 0, 1, []) := by rw [kc129_eq]; rfl
theorem rw_129_15 : (codeOf 129)[15]? = some (25, .ireturn, 1, 0, 0, 1, []) := by rw [kc129_eq]; rfl
theorem kc148_eq : codeOf 148 = kc148 := rfl
theorem hk_148 : 148 < 186 := by decide
theorem rw_148_0 : (codeOf 148)[0]? = some (0, .iconst 0, 2147483648, 0, 0, 1, []) := by rw [kc148_eq]; rfl
theorem rw_148_1 : (codeOf 148)[1]? = some (1, .istore 3, 3, 0, 0, 1, []) := by rw [kc148_eq]; rfl
theorem rw_148_2 : (codeOf 148)[2]? = some (2, .monitorexit, 1184, 0, 0, 0, []) := by rw [kc148_eq]; rfl
theorem rw_148_3 : (codeOf 148)[3]? = some (2, .iload 3, 3, 0, 0, 1, []) := by rw [kc148_eq]; rfl
theorem rw_148_4 : (codeOf 148)[4]? = some (3, .aload 0, 0, 0, 3, 1, []) := by rw [kc148_eq]; rfl
theorem rw_148_5 : (codeOf 148)[5]? = some (4, .getfield 7, 9, 0, 3, 3, []) := by rw [kc148_eq]; rfl
theorem rw_148_6 : (codeOf 148)[6]? = some (7, .iconst 217, 2147483865, 0, 0, 3, []) := by rw [kc148_eq]; rfl
theorem rw_148_7 : (codeOf 148)[7]? = some (10, .iaload, 0, 0, 0, 1, []) := by rw [kc148_eq]; rfl
theorem rw_148_8 : (codeOf 148)[8]? = some (11, .if_icmp .ge 45, 56, 35, 0, 3, []) := by rw [kc148_eq]; rfl
theorem rw_148_9 : (codeOf 148)[9]? = some (14, .aload 0, 0, 0, 3, 1, []) := by rw [kc148_eq]; rfl
theorem rw_148_10 : (codeOf 148)[10]? = some (15, .getfield 7, 9, 0, 3, 3, []) := by rw [kc148_eq]; rfl
theorem rw_148_11 : (codeOf 148)[11]? = some (18, .iconst 220, 2147483868, 0, 0, 3, []) := by rw [kc148_eq]; rfl
theorem rw_148_12 : (codeOf 148)[12]? = some (21, .iconst 3, 2147483651, 0, 0, 1, []) := by rw [kc148_eq]; rfl
theorem rw_148_13 : (codeOf 148)[13]? = some (22, .iload 3, 3, 0, 0, 1, []) := by rw [kc148_eq]; rfl
theorem rw_148_14 : (codeOf 148)[14]? = some (23, .imul, 0, 0, 0, 1, []) := by rw [kc148_eq]; rfl
theorem rw_148_15 : (codeOf 148)[15]? = some (24, .iadd, 0, 0, 0, 1, []) := by rw [kc148_eq]; rfl
theorem rw_148_16 : (codeOf 148)[16]? = some (25, .iaload, 0, 0, 0, 1, []) := by rw [kc148_eq]; rfl
theorem rw_148_17 : (codeOf 148)[17]? = some (26, .iload 1, 1, 0, 0, 1, []) := by rw [kc148_eq]; rfl
theorem rw_148_18 : (codeOf 148)[18]? = some (27, .if_icmp .ne 23, 50, 33, 0, 3, []) := by rw [kc148_eq]; rfl
theorem rw_148_19 : (codeOf 148)[19]? = some (30, .aload 0, 0, 0, 3, 1, []) := by rw [kc148_eq]; rfl
theorem rw_148_20 : (codeOf 148)[20]? = some (31, .getfield 7, 9, 0, 3, 3, []) := by rw [kc148_eq]; rfl
theorem rw_148_21 : (codeOf 148)[21]? = some (34, .iconst 220, 2147483868, 0, 0, 3, []) := by rw [kc148_eq]; rfl
theorem rw_148_22 : (codeOf 148)[22]? = some (37, .iconst 3, 2147483651, 0, 0, 1, []) := by rw [kc148_eq]; rfl
theorem rw_148_23 : (codeOf 148)[23]? = some (38, .iload 3, 3, 0, 0, 1, []) := by rw [kc148_eq]; rfl
theorem rw_148_24 : (codeOf 148)[24]? = some (39, .imul, 0, 0, 0, 1, []) := by rw [kc148_eq]; rfl
theorem rw_148_25 : (codeOf 148)[25]? = some (40, .iadd, 0, 0, 0, 1, []) := by rw [kc148_eq]; rfl
theorem rw_148_26 : (codeOf 148)[26]? = some (41, .iconst 1, 2147483649, 0, 0, 1, []) := by rw [kc148_eq]; rfl
theorem rw_148_27 : (codeOf 148)[27]? = some (42, .iadd, 0, 0, 0, 1, []) := by rw [kc148_eq]; rfl
theorem rw_148_28 : (codeOf 148)[28]? = some (43, .iaload, 0, 0, 0, 1, []) := by rw [kc148_eq]; rfl
theorem rw_148_29 : (codeOf 148)[29]? = some (44, .iload 2, 2, 0, 0, 1, []) := by rw [kc148_eq]; rfl
theorem rw_148_30 : (codeOf 148)[30]? = some (45, .if_icmp .ne 5, 50, 33, 0, 3, []) := by rw [kc148_eq]; rfl
theorem rw_148_31 : (codeOf 148)[31]? = some (48, .iload 3, 3, 0, 0, 1, []) := by rw [kc148_eq]; rfl
theorem rw_148_32 : (codeOf 148)[32]? = some (49, .ireturn, 1, 0, 0, 1, []) := by rw [kc148_eq]; rfl
theorem rw_148_33 : (codeOf 148)[33]? = some (50, .iinc 3 1, 3, 1, 0, 3, []) := by rw [kc148_eq]; rfl
theorem rw_148_34 : (codeOf 148)[34]? = some (53, .goto (-51), 2, 2, 0, 3, []) := by rw [kc148_eq]; rfl
theorem rw_148_35 : (codeOf 148)[35]? = some (56, .iconst (-9), 2147483639, 0, 0, 2, []) := by rw [kc148_eq]; rfl
theorem rw_148_36 : (codeOf 148)[36]? = some (58, .ireturn, 1, 0, 0, 1, []) := by rw [kc148_eq]; rfl
theorem kc149_eq : codeOf 149 = kc149 := rfl
theorem hk_149 : 149 < 186 := by decide
theorem rw_149_0 : (codeOf 149)[0]? = some (0, .iconst 0, 2147483648, 0, 0, 1, []) := by rw [kc149_eq]; rfl
theorem rw_149_1 : (codeOf 149)[1]? = some (1, .istore 2, 2, 0, 0, 1, []) := by rw [kc149_eq]; rfl
theorem rw_149_2 : (codeOf 149)[2]? = some (2, .monitorexit, 1192, 0, 0, 0, []) := by rw [kc149_eq]; rfl
theorem rw_149_3 : (codeOf 149)[3]? = some (2, .iload 2, 2, 0, 0, 1, []) := by rw [kc149_eq]; rfl
theorem rw_149_4 : (codeOf 149)[4]? = some (3, .aload 0, 0, 0, 3, 1, []) := by rw [kc149_eq]; rfl
theorem rw_149_5 : (codeOf 149)[5]? = some (4, .getfield 7, 9, 0, 3, 3, []) := by rw [kc149_eq]; rfl
theorem rw_149_6 : (codeOf 149)[6]? = some (7, .iconst 217, 2147483865, 0, 0, 3, []) := by rw [kc149_eq]; rfl
theorem rw_149_7 : (codeOf 149)[7]? = some (10, .iaload, 0, 0, 0, 1, []) := by rw [kc149_eq]; rfl
theorem rw_149_8 : (codeOf 149)[8]? = some (11, .if_icmp .ge 25, 36, 21, 0, 3, []) := by rw [kc149_eq]; rfl
theorem rw_149_9 : (codeOf 149)[9]? = some (14, .aload 0, 0, 0, 3, 1, []) := by rw [kc149_eq]; rfl
theorem rw_149_10 : (codeOf 149)[10]? = some (15, .getfield 7, 9, 0, 3, 3, []) := by rw [kc149_eq]; rfl
theorem rw_149_11 : (codeOf 149)[11]? = some (18, .iconst 220, 2147483868, 0, 0, 3, []) := by rw [kc149_eq]; rfl
theorem rw_149_12 : (codeOf 149)[12]? = some (21, .iconst 3, 2147483651, 0, 0, 1, []) := by rw [kc149_eq]; rfl
theorem rw_149_13 : (codeOf 149)[13]? = some (22, .iload 2, 2, 0, 0, 1, []) := by rw [kc149_eq]; rfl
theorem rw_149_14 : (codeOf 149)[14]? = some (23, .imul, 0, 0, 0, 1, []) := by rw [kc149_eq]; rfl
theorem rw_149_15 : (codeOf 149)[15]? = some (24, .iadd, 0, 0, 0, 1, []) := by rw [kc149_eq]; rfl
theorem rw_149_16 : (codeOf 149)[16]? = some (25, .iaload, 0, 0, 0, 1, []) := by rw [kc149_eq]; rfl
theorem rw_149_17 : (codeOf 149)[17]? = some (26, .iload 1, 1, 0, 0, 1, []) := by rw [kc149_eq]; rfl
theorem rw_149_18 : (codeOf 149)[18]? = some (27, .if_icmp .eq 9, 36, 21, 0, 3, []) := by rw [kc149_eq]; rfl
theorem rw_149_19 : (codeOf 149)[19]? = some (30, .iinc 2 1, 2, 1, 0, 3, []) := by rw [kc149_eq]; rfl
theorem rw_149_20 : (codeOf 149)[20]? = some (33, .goto (-31), 2, 2, 0, 3, []) := by rw [kc149_eq]; rfl
theorem rw_149_21 : (codeOf 149)[21]? = some (36, .iload 2, 2, 0, 0, 1, []) := by rw [kc149_eq]; rfl
theorem rw_149_22 : (codeOf 149)[22]? = some (37, .aload 0, 0, 0, 3, 1, []) := by rw [kc149_eq]; rfl
theorem rw_149_23 : (codeOf 149)[23]? = some (38, .getfield 7, 9, 0, 3, 3, []) := by rw [kc149_eq]; rfl
theorem rw_149_24 : (codeOf 149)[24]? = some (41, .iconst 217, 2147483865, 0, 0, 3, []) := by rw [kc149_eq]; rfl
theorem rw_149_25 : (codeOf 149)[25]? = some (44, .iaload, 0, 0, 0, 1, []) := by rw [kc149_eq]; rfl
theorem rw_149_26 : (codeOf 149)[26]? = some (45, .if_icmp .ge 7, 52, 29, 0, 3, []) := by rw [kc149_eq]; rfl
theorem rw_149_27 : (codeOf 149)[27]? = some (48, .iload 2, 2, 0, 0, 1, []) := by rw [kc149_eq]; rfl
theorem rw_149_28 : (codeOf 149)[28]? = some (49, .goto 5, 54, 30, 0, 3, []) := by rw [kc149_eq]; rfl
theorem rw_149_29 : (codeOf 149)[29]? = some (52, .iconst (-9), 2147483639, 0, 0, 2, []) := by rw [kc149_eq]; rfl
theorem rw_149_30 : (codeOf 149)[30]? = some (54, .ireturn, 1, 0, 0, 1, []) := by rw [kc149_eq]; rfl
theorem kc150_eq : codeOf 150 = kc150 := rfl
theorem hk_150 : 150 < 186 := by decide
theorem rw_150_0 : (codeOf 150)[0]? = some (0, .aload 0, 0, 0, 3, 1, []) := by rw [kc150_eq]; rfl
theorem rw_150_1 : (codeOf 150)[1]? = some (1, .iload 2, 2, 0, 0, 1, []) := by rw [kc150_eq]; rfl
theorem rw_150_2 : (codeOf 150)[2]? = some (2, .invokevirtual 118, 151, 0, 0, 3, []) := by rw [kc150_eq]; rfl
theorem rw_150_3 : (codeOf 150)[3]? = some (5, .aload 0, 0, 0, 3, 1, []) := by rw [kc150_eq]; rfl
theorem rw_150_4 : (codeOf 150)[4]? = some (6, .iload 1, 1, 0, 0, 1, []) := by rw [kc150_eq]; rfl
theorem rw_150_5 : (codeOf 150)[5]? = some (7, .iconst 4, 2147483652, 0, 0, 1, []) := by rw [kc150_eq]; rfl
theorem rw_150_6 : (codeOf 150)[6]? = some (8, .iconst 9999, 2147493647, 0, 0, 3, []) := by rw [kc150_eq]; rfl
theorem rw_150_7 : (codeOf 150)[7]? = some (11, .aload 0, 0, 0, 3, 1, []) := by rw [kc150_eq]; rfl
theorem rw_150_8 : (codeOf 150)[8]? = some (12, .iload 1, 1, 0, 0, 1, []) := by rw [kc150_eq]; rfl
theorem rw_150_9 : (codeOf 150)[9]? = some (13, .iconst 4, 2147483652, 0, 0, 1, []) := by rw [kc150_eq]; rfl
theorem rw_150_10 : (codeOf 150)[10]? = some (14, .invokevirtual 62, 130, 0, 0, 3, []) := by rw [kc150_eq]; rfl
theorem rw_150_11 : (codeOf 150)[11]? = some (17, .iconst 1, 2147483649, 0, 0, 1, []) := by rw [kc150_eq]; rfl
theorem rw_150_12 : (codeOf 150)[12]? = some (18, .iadd, 0, 0, 0, 1, []) := by rw [kc150_eq]; rfl
theorem rw_150_13 : (codeOf 150)[13]? = some (19, .invokestatic 96, 137, 0, 0, 3, []) := by rw [kc150_eq]; rfl
theorem rw_150_14 : (codeOf 150)[14]? = some (22, .invokevirtual 66, 119, 0, 0, 3, []) := by rw [kc150_eq]; rfl
theorem rw_150_15 : (codeOf 150)[15]? = some (25, .aload 0, 0, 0, 3, 1, []) := by rw [kc150_eq]; rfl
theorem rw_150_16 : (codeOf 150)[16]? = some (26, .iload 1, 1, 0, 0, 1, []) := by rw [kc150_eq]; rfl
theorem rw_150_17 : (codeOf 150)[17]? = some (27, .iconst 2, 2147483650, 0, 0, 1, []) := by rw [kc150_eq]; rfl
theorem rw_150_18 : (codeOf 150)[18]? = some (28, .iconst 1, 2147483649, 0, 0, 1, []) := by rw [kc150_eq]; rfl
theorem rw_150_19 : (codeOf 150)[19]? = some (29, .invokevirtual 121, 152, 0, 0, 3, []) := by rw [kc150_eq]; rfl
theorem rw_150_20 : (codeOf 150)[20]? = some (32, .return_, 0, 0, 0, 1, []) := by rw [kc150_eq]; rfl
theorem kc151_eq : codeOf 151 = kc151 := rfl
theorem hk_151 : 151 < 186 := by decide
theorem rw_151_0 : (codeOf 151)[0]? = some (0, .iconst 220, 2147483868, 0, 0, 3, []) := by rw [kc151_eq]; rfl
theorem rw_151_1 : (codeOf 151)[1]? = some (3, .iconst 3, 2147483651, 0, 0, 1, []) := by rw [kc151_eq]; rfl
theorem rw_151_2 : (codeOf 151)[2]? = some (4, .iload 1, 1, 0, 0, 1, []) := by rw [kc151_eq]; rfl
theorem rw_151_3 : (codeOf 151)[3]? = some (5, .imul, 0, 0, 0, 1, []) := by rw [kc151_eq]; rfl
theorem rw_151_4 : (codeOf 151)[4]? = some (6, .iadd, 0, 0, 0, 1, []) := by rw [kc151_eq]; rfl
theorem rw_151_5 : (codeOf 151)[5]? = some (7, .istore 2, 2, 0, 0, 1, []) := by rw [kc151_eq]; rfl
theorem rw_151_6 : (codeOf 151)[6]? = some (8, .monitorexit, 1208, 0, 0, 0, []) := by rw [kc151_eq]; rfl
theorem rw_151_7 : (codeOf 151)[7]? = some (8, .iload 2, 2, 0, 0, 1, []) := by rw [kc151_eq]; rfl
theorem rw_151_8 : (codeOf 151)[8]? = some (9, .iconst 220, 2147483868, 0, 0, 3, []) := by rw [kc151_eq]; rfl
theorem rw_151_9 : (codeOf 151)[9]? = some (12, .iconst 3, 2147483651, 0, 0, 1, []) := by rw [kc151_eq]; rfl
theorem rw_151_10 : (codeOf 151)[10]? = some (13, .aload 0, 0, 0, 3, 1, []) := by rw [kc151_eq]; rfl
theorem rw_151_11 : (codeOf 151)[11]? = some (14, .getfield 7, 9, 0, 3, 3, []) := by rw [kc151_eq]; rfl
theorem rw_151_12 : (codeOf 151)[12]? = some (17, .iconst 217, 2147483865, 0, 0, 3, []) := by rw [kc151_eq]; rfl
theorem rw_151_13 : (codeOf 151)[13]? = some (20, .iaload, 0, 0, 0, 1, []) := by rw [kc151_eq]; rfl
theorem rw_151_14 : (codeOf 151)[14]? = some (21, .iconst 1, 2147483649, 0, 0, 1, []) := by rw [kc151_eq]; rfl
theorem rw_151_15 : (codeOf 151)[15]? = some (22, .isub, 0, 0, 0, 1, []) := by rw [kc151_eq]; rfl
theorem rw_151_16 : (codeOf 151)[16]? = some (23, .imul, 0, 0, 0, 1, []) := by rw [kc151_eq]; rfl
theorem rw_151_17 : (codeOf 151)[17]? = some (24, .iadd, 0, 0, 0, 1, []) := by rw [kc151_eq]; rfl
theorem rw_151_18 : (codeOf 151)[18]? = some (25, .if_icmp .ge 23, 48, 31, 0, 3, []) := by rw [kc151_eq]; rfl
theorem rw_151_19 : (codeOf 151)[19]? = some (28, .aload 0, 0, 0, 3, 1, []) := by rw [kc151_eq]; rfl
theorem rw_151_20 : (codeOf 151)[20]? = some (29, .getfield 7, 9, 0, 3, 3, []) := by rw [kc151_eq]; rfl
theorem rw_151_21 : (codeOf 151)[21]? = some (32, .iload 2, 2, 0, 0, 1, []) := by rw [kc151_eq]; rfl
theorem rw_151_22 : (codeOf 151)[22]? = some (33, .aload 0, 0, 0, 3, 1, []) := by rw [kc151_eq]; rfl
theorem rw_151_23 : (codeOf 151)[23]? = some (34, .getfield 7, 9, 0, 3, 3, []) := by rw [kc151_eq]; rfl
theorem rw_151_24 : (codeOf 151)[24]? = some (37, .iload 2, 2, 0, 0, 1, []) := by rw [kc151_eq]; rfl
theorem rw_151_25 : (codeOf 151)[25]? = some (38, .iconst 3, 2147483651, 0, 0, 1, []) := by rw [kc151_eq]; rfl
theorem rw_151_26 : (codeOf 151)[26]? = some (39, .iadd, 0, 0, 0, 1, []) := by rw [kc151_eq]; rfl
theorem rw_151_27 : (codeOf 151)[27]? = some (40, .iaload, 0, 0, 0, 1, []) := by rw [kc151_eq]; rfl
theorem rw_151_28 : (codeOf 151)[28]? = some (41, .iastore, 0, 0, 0, 1, []) := by rw [kc151_eq]; rfl
theorem rw_151_29 : (codeOf 151)[29]? = some (42, .iinc 2 1, 2, 1, 0, 3, []) := by rw [kc151_eq]; rfl
theorem rw_151_30 : (codeOf 151)[30]? = some (45, .goto (-37), 8, 6, 0, 3, []) := by rw [kc151_eq]; rfl
theorem rw_151_31 : (codeOf 151)[31]? = some (48, .aload 0, 0, 0, 3, 1, []) := by rw [kc151_eq]; rfl
theorem rw_151_32 : (codeOf 151)[32]? = some (49, .getfield 7, 9, 0, 3, 3, []) := by rw [kc151_eq]; rfl
theorem rw_151_33 : (codeOf 151)[33]? = some (52, .iconst 217, 2147483865, 0, 0, 3, []) := by rw [kc151_eq]; rfl
theorem rw_151_34 : (codeOf 151)[34]? = some (55, .dup2, 0, 0, 0, 1, []) := by rw [kc151_eq]; rfl
theorem rw_151_35 : (codeOf 151)[35]? = some (56, .iaload, 0, 0, 0, 1, []) := by rw [kc151_eq]; rfl
theorem rw_151_36 : (codeOf 151)[36]? = some (57, .iconst 1, 2147483649, 0, 0, 1, []) := by rw [kc151_eq]; rfl
theorem rw_151_37 : (codeOf 151)[37]? = some (58, .isub, 0, 0, 0, 1, []) := by rw [kc151_eq]; rfl
theorem rw_151_38 : (codeOf 151)[38]? = some (59, .iastore, 0, 0, 0, 1, []) := by rw [kc151_eq]; rfl
theorem rw_151_39 : (codeOf 151)[39]? = some (60, .return_, 0, 0, 0, 1, []) := by rw [kc151_eq]; rfl
section MD
variable {d k j : Nat} {lv : List (Option Value)} {st : List Value} {ph : PH} {Q : Option Value → PH → Prop} {B : PH} {p : Nat → Int32} {a : Nat → Nat → Int32} {z : Nat → Int32}
/-- a call of copies -/
theorem mz_mon (hk : k < 186) (hB : 87 ≤ B.length) {pc b x kc n L : Nat} {ts : List Nat} {as r : List Value} {P : Option Value → PH → Prop} (hrow : (codeOf k)[j]? = some (pc, .monitorenter, kc, b, x, 3, ts)) (hkc : kc < 186) (h0 : kc ≠ 0) (hI : (tget CM 8 kc mTab).2.1 = L ∧ (tget CM 8 kc mTab).2.2.1 = n ∧ (tget CM 8 kc mTab).2.2.2.1 = 0 ∧ (tget CM 8 kc mTab).2.2.2.2.1 = 9) (hn : as.length = n) (hst : st = as.reverse ++ .ref 75 :: r) (hcat : catS r ≤ 8) (hl : (lg_sl (.ref 75 :: as)).length ≤ L)
    (hc : ZC d kc (.ref 75 :: as) (mh B p a z) P) (h : ∀ w ph', P w ph' → ZR (d + 1) k (j + 1) lv (w.toList ++ r) ph' Q) : ZR (d + 1) k j lv st (mh B p a z) Q := by
  obtain ⟨K, hK⟩ := zr_M hkc
  have hinf := (cert_all kc K hK).2.2.2 h0
  unfold infOK at hinf
  simp only [Bool.and_eq_true] at hinf
  obtain ⟨⟨⟨i1, i2⟩, i3⟩, i4⟩ := hinf
  have hmL : mL K = L := by rw [← beq_of i1]; exact hI.1
  have hmN : mN K = n := by rw [← beq_of i2]; exact hI.2.1
  have hmK : mK K = 0 := by rw [← beq_of i3]; exact hI.2.2.1
  have hmO : mO K = 9 := by rw [← beq_of i4]; exact hI.2.2.2
  refine zr_call (i0 := .nop) (len := 3) hk hrow (by simp) (fun M i hnr => ?_) hK (by rw [hmL]; exact hl) hc h
  cases i <;> simp [nrm] at hnr
  obtain ⟨⟨h1, h2⟩, h3⟩ := hnr
  have hN : mN K = as.reverse.length := by rw [hmN, List.length_reverse, hn]
  have hdr : st.drop (mN K) = .ref 75 :: r := by rw [hst, hN, List.drop_left' rfl]
  have htk : st.take (mN K) = as.reverse := by rw [hst, hN, List.take_left' rfl]
  unfold x_ca
  rw [if_pos rfl]
  simp only [h2, hK, hdr, mh_obj hB]
  rw [if_pos ⟨h0, hmK, hmO, by decide, hcat⟩, htk, List.reverse_reverse]
/-- k places of a page are copied -/
def cpyP (p : Nat → Int32) (f t k : Nat) : Nat → Int32 := fun i => if 2000 * t ≤ i ∧ i < 2000 * t + k then p (i - 2000 * t + 2000 * f) else p i
theorem cpyP_0 (p : Nat → Int32) (f t : Nat) : cpyP p f t 0 = p := by
  funext i
  unfold cpyP
  rw [if_neg (by omega)]
theorem cpyP_step {f t k : Nat} (hk : k < 2000) : upd (cpyP p f t k) (k + 2000 * t) (cpyP p f t k (2000 * f + k)) = cpyP p f t (k + 1) := by
  funext i
  unfold upd cpyP
  by_cases h : i = k + 2000 * t
  · rw [if_pos h, if_neg (by omega), if_pos (by omega)]
    congr 1
    omega
  · rw [if_neg h]
    by_cases h2 : 2000 * t ≤ i ∧ i < 2000 * t + k
    · rw [if_pos h2, if_pos (by omega)]
    · rw [if_neg h2, if_neg (by omega)]
theorem copies_loop (hB : 87 ≤ B.length) {f t : Nat} (hf : f ≤ 6) (ht : t ≤ 6) : ∀ (n k : Nat), k + n = 2000 → ZR d 127 2 [some (.ref 75), some (.int (iv ((f : Int)))), some (.int (iv ((t : Int)))), some (.int (iv ((k : Int))))] [] (mh B (cpyP p f t k) a z) (fun v ph' => ph' = mh B (cpyP p f t 2000) a z ∧ v = none) := by
  intro n
  induction n with
  | zero =>
    intro k hkn
    refine zr_cut hk_127 rw_127_2 ?_
    refine zr_iload hk_127 rw_127_3 rfl ?_
    refine zi_const hk_127 rw_127_4 (c := 2000) rfl ?_
    refine zi_icmp_ge hk_127 rw_127_5 (by unfold inR; omega) (by unfold inR; omega) (fun h5 => ?_) (fun h5 => by omega)
    refine zr_return (a := 0) hk_127 rw_127_24 ?_
    obtain rfl : k = 2000 := by omega
    exact ⟨rfl, rfl⟩
  | succ n ih =>
    intro k hkn
    refine zr_cut hk_127 rw_127_2 ?_
    refine zr_iload hk_127 rw_127_3 rfl ?_
    refine zi_const hk_127 rw_127_4 (c := 2000) rfl ?_
    refine zi_icmp_ge hk_127 rw_127_5 (by unfold inR; omega) (by unfold inR; omega) (fun h5 => by omega) (fun h5 => ?_)
    refine zr_aload hk_127 rw_127_6 rfl ?_
    refine mz_getf hk_127 hB rw_127_7 rfl ?_
    refine zi_const hk_127 rw_127_8 (c := 2000) rfl ?_
    refine zr_iload hk_127 rw_127_9 rfl ?_
    refine zi_mul hk_127 rw_127_10 ?_
    refine zr_iload hk_127 rw_127_11 rfl ?_
    refine zi_add hk_127 rw_127_12 ?_
    refine zr_aload hk_127 rw_127_13 rfl ?_
    refine mz_getf hk_127 hB rw_127_14 rfl ?_
    refine zi_const hk_127 rw_127_15 (c := 2000) rfl ?_
    refine zr_iload hk_127 rw_127_16 rfl ?_
    refine zi_mul hk_127 rw_127_17 ?_
    refine zr_iload hk_127 rw_127_18 rfl ?_
    refine zi_add hk_127 rw_127_19 ?_
    refine mz_pld hk_127 hB rw_127_20 (2000 * f + k) (by omega) (by omega) ?_
    refine mz_pst hk_127 hB rw_127_21 (k + 2000 * t) (by omega) (by omega) ?_
    refine zi_inc hk_127 rw_127_22 rfl rfl inc_1 (lv' := [some (.ref 75), some (.int (iv ((f : Int)))), some (.int (iv ((t : Int)))), some (.int (iv ((k : Int) + 1)))]) rfl ?_
    refine zr_goto hk_127 rw_127_23 ?_
    rw [cpyP_step (by omega)]
    exact ih (k + 1) (by omega)
theorem copies_mh (d : Nat) (hB : 87 ≤ B.length) {f t : Nat} (hf : f ≤ 6) (ht : t ≤ 6) : ZC d 127 [.ref 75, .int (iv (f : Int)), .int (iv (t : Int))] (mh B p a z) (fun v ph' => ph' = mh B (cpyP p f t 2000) a z ∧ v = none) := by
  refine ZC.of (lv := [some (.ref 75), some (.int (iv ((f : Int)))), some (.int (iv ((t : Int))))]) hk_127 (fun i v hv => ?_) ?_
  · match i, hv with
    | 0, hv => cases hv; rfl
    | 1, hv => cases hv; rfl
    | 2, hv => cases hv; rfl
    | i + 3, hv => simp at hv
  refine zi_const hk_127 rw_127_0 (c := 0) rfl ?_
  refine zi_istore hk_127 rw_127_1 rfl (lv' := [some (.ref 75), some (.int (iv ((f : Int)))), some (.int (iv ((t : Int)))), some (.int (iv (0)))]) rfl ?_
  have := copies_loop (d := d) (p := p) (a := a) (z := z) hB hf ht 2000 0 (by omega)
  rw [cpyP_0] at this
  exact this
theorem c_copies (hk : k < 186) (hB : 87 ≤ B.length) {pc b x : Nat} {ts : List Nat} {e g : Int} (hrow : (codeOf k)[j]? = some (pc, .monitorenter, 127, b, x, 3, ts)) (f t : Nat) (he : e = (f : Int)) (hg : g = (t : Int)) (hf : f ≤ 6) (ht : t ≤ 6) (hcat : catS st ≤ 8) (h : ZR (d + 1) k (j + 1) lv st (mh B (cpyP p f t 2000) a z) Q) : ZR (d + 1) k j lv (.int (iv g) :: .int (iv e) :: .ref 75 :: st) (mh B p a z) Q := by
  subst he hg
  refine mz_mon (L := 4) (n := 2) (as := [.int (iv (f : Int)), .int (iv (t : Int))]) (r := st) hk hB hrow (by decide) (by decide) ⟨rfl, rfl, rfl, rfl⟩ rfl rfl hcat (Nat.le_of_ble_eq_true rfl) (copies_mh d hB hf ht) ?_
  rintro w ph' ⟨rfl, rfl⟩
  exact h
/-- the first that isn't open -/
def FF (p : Nat → Int32) (r : Nat) : Prop := r ≤ 10 ∧ (∀ i, i < r → p (21 * i) = iv 1) ∧ (r < 10 → ¬ p (21 * r) = iv 1)
theorem FF_fun {p : Nat → Int32} {r s : Nat} (h1 : FF p r) (h2 : FF p s) : r = s := by
  obtain ⟨a1, a2, a3⟩ := h1
  obtain ⟨b1, b2, b3⟩ := h2
  by_cases h : r < s
  · exact absurd (b2 r h) (a3 (by omega))
  · by_cases h' : s < r
    · exact absurd (a2 s h') (b3 (by omega))
    · omega
theorem ff_loop (hB : 87 ≤ B.length) : ∀ (n k : Nat), k + n = 10 → (∀ i, i < k → p (21 * i) = iv 1) → ZR (d + 1) 129 2 [some (.ref 75), some (.int (iv ((k : Int))))] [] (mh B p a z) (fun v ph' => ph' = mh B p a z ∧ ∃ r : Nat, v = some (.int (iv (r : Int))) ∧ FF p r) := by
  intro n
  induction n with
  | zero =>
    intro k hkn hall
    refine zr_cut hk_129 rw_129_2 ?_
    refine zr_iload hk_129 rw_129_3 rfl ?_
    refine zi_const hk_129 rw_129_4 (c := 10) rfl ?_
    refine zi_icmp_ge hk_129 rw_129_5 (by unfold inR; omega) (by unfold inR; omega) (fun h5 => ?_) (fun h5 => by omega)
    refine zr_iload hk_129 rw_129_14 rfl ?_
    refine zr_ireturn hk_129 rw_129_15 ?_
    exact ⟨rfl, k, rfl, by omega, hall, fun hlt => by omega⟩
  | succ n ih =>
    intro k hkn hall
    refine zr_cut hk_129 rw_129_2 ?_
    refine zr_iload hk_129 rw_129_3 rfl ?_
    refine zi_const hk_129 rw_129_4 (c := 10) rfl ?_
    refine zi_icmp_ge hk_129 rw_129_5 (by unfold inR; omega) (by unfold inR; omega) (fun h5 => by omega) (fun h5 => ?_)
    refine zr_aload hk_129 rw_129_6 rfl ?_
    refine zr_iload hk_129 rw_129_7 rfl ?_
    refine zi_const hk_129 rw_129_8 (c := 0) rfl ?_
    refine c_of hk_129 hB rw_129_9 (21 * k) (by omega) (by omega) (Nat.le_of_ble_eq_true rfl) ?_
    refine zi_const hk_129 rw_129_10 (c := 1) rfl ?_
    refine zo_icmp_ne hk_129 rw_129_11 (fun h11 => ?_) (fun h11 => ?_)
    · refine zr_iload hk_129 rw_129_14 rfl ?_
      refine zr_ireturn hk_129 rw_129_15 ?_
      exact ⟨rfl, k, rfl, by omega, hall, fun hlt => by omega⟩
    · refine zi_inc hk_129 rw_129_12 rfl rfl inc_1 (lv' := [some (.ref 75), some (.int (iv ((k : Int) + 1)))]) rfl ?_
      refine zr_goto hk_129 rw_129_13 ?_
      refine ih (k + 1) (by omega) (fun i hi => ?_)
      by_cases hik : i = k
      · rw [hik]; exact h11
      · exact hall i (by omega)
theorem firstFree_ok (d : Nat) (hB : 87 ≤ B.length) : ZC (d + 1) 129 [.ref 75] (mh B p a z) (fun v ph' => ph' = mh B p a z ∧ ∃ r : Nat, v = some (.int (iv (r : Int))) ∧ FF p r) := by
  refine ZC.of (lv := [some (.ref 75)]) hk_129 (fun i v hv => ?_) ?_
  · match i, hv with
    | 0, hv => cases hv; rfl
    | i + 1, hv => simp at hv
  refine zi_const hk_129 rw_129_0 (c := 0) rfl ?_
  refine zi_istore hk_129 rw_129_1 rfl (lv' := [some (.ref 75), some (.int (iv (0)))]) rfl ?_
  exact ff_loop hB 10 0 (by omega) (fun i hi => absurd hi (Nat.not_lt_zero _))
theorem c_firstFree (hk : k < 186) (hB : 87 ≤ B.length) {pc b x ix : Nat} {ts : List Nat} (hrow : (codeOf k)[j]? = some (pc, .invokevirtual ix, 129, b, x, 3, ts)) (hcat : catS st ≤ 8) (h : ∀ r : Nat, FF p r → ZR (d + 2) k (j + 1) lv (.int (iv (r : Int)) :: st) (mh B p a z) Q) : ZR (d + 2) k j lv (.ref 75 :: st) (mh B p a z) Q := by
  refine mz_call (L := 2) (n := 0) (as := []) (r := st) hk hB hrow (by decide) (by decide) ⟨rfl, rfl, rfl, rfl⟩ rfl rfl hcat (Nat.le_of_ble_eq_true rfl) (firstFree_ok d hB) ?_
  rintro w ph' ⟨rfl, r, rfl, hr⟩
  exact h r hr
/-- the first packet of c, or -9 -/
def FO (p : Nat → Int32) (c : Int32) (F : Nat) (v : Option Value) : Prop := (∃ r : Nat, r < F ∧ v = some (.int (iv (r : Int))) ∧ p (220 + 3 * r) = c ∧ ∀ i, i < r → ¬ p (220 + 3 * i) = c) ∨ (v = some (.int (iv (-9))) ∧ ∀ i, i < F → ¬ p (220 + 3 * i) = c)
/-- a packet of c with a number, or -9 -/
def PO (p : Nat → Int32) (c m : Int32) (F : Nat) (v : Option Value) : Prop := (∃ r : Nat, r < F ∧ v = some (.int (iv (r : Int))) ∧ p (3 * r + 220) = c ∧ p (3 * r + 221) = m) ∨ (v = some (.int (iv (-9))) ∧ ∀ i, i < F → ¬ (p (3 * i + 220) = c ∧ p (3 * i + 221) = m))
theorem fo_loop (hB : 87 ≤ B.length) {c : Int32} {F : Nat} (hF : p 217 = iv (F : Int)) (hF2 : F ≤ 200) : ∀ (n k : Nat), k + n = F → (∀ i, i < k → ¬ p (220 + 3 * i) = c) → ZR d 149 2 [some (.ref 75), some (.int (c)), some (.int (iv ((k : Int))))] [] (mh B p a z) (fun v ph' => ph' = mh B p a z ∧ FO p c F v) := by
  intro n
  induction n with
  | zero =>
    intro k hkn hall
    refine zr_cut hk_149 rw_149_2 ?_
    refine zr_iload hk_149 rw_149_3 rfl ?_
    refine zr_aload hk_149 rw_149_4 rfl ?_
    refine mz_getf hk_149 hB rw_149_5 rfl ?_
    refine zi_const hk_149 rw_149_6 (c := 217) rfl ?_
    refine mz_plde hk_149 hB rw_149_7 (217) (by omega) (by omega) (hF) ?_
    refine zi_icmp_ge hk_149 rw_149_8 (by unfold inR; omega) (by unfold inR; omega) (fun h8 => ?_) (fun h8 => by omega)
    refine zr_iload hk_149 rw_149_21 rfl ?_
    refine zr_aload hk_149 rw_149_22 rfl ?_
    refine mz_getf hk_149 hB rw_149_23 rfl ?_
    refine zi_const hk_149 rw_149_24 (c := 217) rfl ?_
    refine mz_plde hk_149 hB rw_149_25 (217) (by omega) (by omega) (hF) ?_
    refine zi_icmp_ge hk_149 rw_149_26 (by unfold inR; omega) (by unfold inR; omega) (fun h26 => ?_) (fun h26 => by omega)
    refine zi_const hk_149 rw_149_29 (c := -9) rfl ?_
    refine zr_ireturn hk_149 rw_149_30 ?_
    exact ⟨rfl, Or.inr ⟨rfl, fun i hi => hall i (by omega)⟩⟩
  | succ n ih =>
    intro k hkn hall
    refine zr_cut hk_149 rw_149_2 ?_
    refine zr_iload hk_149 rw_149_3 rfl ?_
    refine zr_aload hk_149 rw_149_4 rfl ?_
    refine mz_getf hk_149 hB rw_149_5 rfl ?_
    refine zi_const hk_149 rw_149_6 (c := 217) rfl ?_
    refine mz_plde hk_149 hB rw_149_7 (217) (by omega) (by omega) (hF) ?_
    refine zi_icmp_ge hk_149 rw_149_8 (by unfold inR; omega) (by unfold inR; omega) (fun h8 => by omega) (fun h8 => ?_)
    refine zr_aload hk_149 rw_149_9 rfl ?_
    refine mz_getf hk_149 hB rw_149_10 rfl ?_
    refine zi_const hk_149 rw_149_11 (c := 220) rfl ?_
    refine zi_const hk_149 rw_149_12 (c := 3) rfl ?_
    refine zr_iload hk_149 rw_149_13 rfl ?_
    refine zi_mul hk_149 rw_149_14 ?_
    refine zi_add hk_149 rw_149_15 ?_
    refine mz_pld hk_149 hB rw_149_16 (3 * k + 220) (by omega) (by omega) ?_
    refine zr_iload hk_149 rw_149_17 rfl ?_
    refine zo_icmp_eq hk_149 rw_149_18 (fun h18 => ?_) (fun h18 => ?_)
    · refine zr_iload hk_149 rw_149_21 rfl ?_
      refine zr_aload hk_149 rw_149_22 rfl ?_
      refine mz_getf hk_149 hB rw_149_23 rfl ?_
      refine zi_const hk_149 rw_149_24 (c := 217) rfl ?_
      refine mz_plde hk_149 hB rw_149_25 (217) (by omega) (by omega) (hF) ?_
      refine zi_icmp_ge hk_149 rw_149_26 (by unfold inR; omega) (by unfold inR; omega) (fun h26 => by omega) (fun h26 => ?_)
      refine zr_iload hk_149 rw_149_27 rfl ?_
      refine zr_goto hk_149 rw_149_28 ?_
      refine zr_ireturn hk_149 rw_149_30 ?_
      exact ⟨rfl, Or.inl ⟨k, by omega, rfl, by rw [Nat.add_comm]; exact h18, hall⟩⟩
    · refine zi_inc hk_149 rw_149_19 rfl rfl inc_1 (lv' := [some (.ref 75), some (.int (c)), some (.int (iv ((k : Int) + 1)))]) rfl ?_
      refine zr_goto hk_149 rw_149_20 ?_
      refine ih (k + 1) (by omega) (fun i hi => ?_)
      by_cases hik : i = k
      · rw [hik, Nat.add_comm]; exact h18
      · exact hall i (by omega)
theorem firstOf_ok (d : Nat) (hB : 87 ≤ B.length) {c : Int32} {F : Nat} (hF : p 217 = iv (F : Int)) (hF2 : F ≤ 200) : ZC d 149 [.ref 75, .int c] (mh B p a z) (fun v ph' => ph' = mh B p a z ∧ FO p c F v) := by
  refine ZC.of (lv := [some (.ref 75), some (.int (c))]) hk_149 (fun i v hv => ?_) ?_
  · match i, hv with
    | 0, hv => cases hv; rfl
    | 1, hv => cases hv; rfl
    | i + 2, hv => simp at hv
  refine zi_const hk_149 rw_149_0 (c := 0) rfl ?_
  refine zi_istore hk_149 rw_149_1 rfl (lv' := [some (.ref 75), some (.int (c)), some (.int (iv (0)))]) rfl ?_
  exact fo_loop hB hF hF2 F 0 (by omega) (fun i hi => absurd hi (Nat.not_lt_zero _))
theorem c_firstOf (hk : k < 186) (hB : 87 ≤ B.length) {pc b x ix : Nat} {ts : List Nat} {c : Int32} (hrow : (codeOf k)[j]? = some (pc, .invokevirtual ix, 149, b, x, 3, ts)) {F : Nat} (hF : p 217 = iv (F : Int)) (hF2 : F ≤ 200) (hcat : catS st ≤ 8) (hT : ∀ r : Nat, r < F → p (220 + 3 * r) = c → (∀ i, i < r → ¬ p (220 + 3 * i) = c) → ZR (d + 1) k (j + 1) lv (.int (iv (r : Int)) :: st) (mh B p a z) Q) (hN : (∀ i, i < F → ¬ p (220 + 3 * i) = c) → ZR (d + 1) k (j + 1) lv (.int (iv (-9)) :: st) (mh B p a z) Q) : ZR (d + 1) k j lv (.int c :: .ref 75 :: st) (mh B p a z) Q := by
  refine mz_call (L := 3) (n := 1) (as := [.int c]) (r := st) hk hB hrow (by decide) (by decide) ⟨rfl, rfl, rfl, rfl⟩ rfl rfl hcat (Nat.le_of_ble_eq_true rfl) (firstOf_ok d hB hF hF2) ?_
  rintro w ph' ⟨rfl, hw⟩
  rcases hw with ⟨r, h1, rfl, h2, h3⟩ | ⟨rfl, h1⟩
  · exact hT r h1 h2 h3
  · exact hN h1
theorem po_loop (hB : 87 ≤ B.length) {c m : Int32} {F : Nat} (hF : p 217 = iv (F : Int)) (hF2 : F ≤ 200) : ∀ (n k : Nat), k + n = F → (∀ i, i < k → ¬ (p (3 * i + 220) = c ∧ p (3 * i + 221) = m)) → ZR d 148 2 [some (.ref 75), some (.int (c)), some (.int (m)), some (.int (iv ((k : Int))))] [] (mh B p a z) (fun v ph' => ph' = mh B p a z ∧ PO p c m F v) := by
  intro n
  induction n with
  | zero =>
    intro k hkn hall
    refine zr_cut hk_148 rw_148_2 ?_
    refine zr_iload hk_148 rw_148_3 rfl ?_
    refine zr_aload hk_148 rw_148_4 rfl ?_
    refine mz_getf hk_148 hB rw_148_5 rfl ?_
    refine zi_const hk_148 rw_148_6 (c := 217) rfl ?_
    refine mz_plde hk_148 hB rw_148_7 (217) (by omega) (by omega) (hF) ?_
    refine zi_icmp_ge hk_148 rw_148_8 (by unfold inR; omega) (by unfold inR; omega) (fun h8 => ?_) (fun h8 => by omega)
    refine zi_const hk_148 rw_148_35 (c := -9) rfl ?_
    refine zr_ireturn hk_148 rw_148_36 ?_
    exact ⟨rfl, Or.inr ⟨rfl, fun i hi => hall i (by omega)⟩⟩
  | succ n ih =>
    intro k hkn hall
    refine zr_cut hk_148 rw_148_2 ?_
    refine zr_iload hk_148 rw_148_3 rfl ?_
    refine zr_aload hk_148 rw_148_4 rfl ?_
    refine mz_getf hk_148 hB rw_148_5 rfl ?_
    refine zi_const hk_148 rw_148_6 (c := 217) rfl ?_
    refine mz_plde hk_148 hB rw_148_7 (217) (by omega) (by omega) (hF) ?_
    refine zi_icmp_ge hk_148 rw_148_8 (by unfold inR; omega) (by unfold inR; omega) (fun h8 => by omega) (fun h8 => ?_)
    refine zr_aload hk_148 rw_148_9 rfl ?_
    refine mz_getf hk_148 hB rw_148_10 rfl ?_
    refine zi_const hk_148 rw_148_11 (c := 220) rfl ?_
    refine zi_const hk_148 rw_148_12 (c := 3) rfl ?_
    refine zr_iload hk_148 rw_148_13 rfl ?_
    refine zi_mul hk_148 rw_148_14 ?_
    refine zi_add hk_148 rw_148_15 ?_
    refine mz_pld hk_148 hB rw_148_16 (3 * k + 220) (by omega) (by omega) ?_
    refine zr_iload hk_148 rw_148_17 rfl ?_
    refine zo_icmp_ne hk_148 rw_148_18 (fun h18 => ?_) (fun h18 => ?_)
    · refine zi_inc hk_148 rw_148_33 rfl rfl inc_1 (lv' := [some (.ref 75), some (.int (c)), some (.int (m)), some (.int (iv ((k : Int) + 1)))]) rfl ?_
      refine zr_goto hk_148 rw_148_34 ?_
      refine ih (k + 1) (by omega) (fun i hi => ?_)
      by_cases hik : i = k
      · rw [hik]; exact fun e => h18 e.1
      · exact hall i (by omega)
    · refine zr_aload hk_148 rw_148_19 rfl ?_
      refine mz_getf hk_148 hB rw_148_20 rfl ?_
      refine zi_const hk_148 rw_148_21 (c := 220) rfl ?_
      refine zi_const hk_148 rw_148_22 (c := 3) rfl ?_
      refine zr_iload hk_148 rw_148_23 rfl ?_
      refine zi_mul hk_148 rw_148_24 ?_
      refine zi_add hk_148 rw_148_25 ?_
      refine zi_const hk_148 rw_148_26 (c := 1) rfl ?_
      refine zi_add hk_148 rw_148_27 ?_
      refine mz_pld hk_148 hB rw_148_28 (3 * k + 221) (by omega) (by omega) ?_
      refine zr_iload hk_148 rw_148_29 rfl ?_
      refine zo_icmp_ne hk_148 rw_148_30 (fun h30 => ?_) (fun h30 => ?_)
      · refine zi_inc hk_148 rw_148_33 rfl rfl inc_1 (lv' := [some (.ref 75), some (.int (c)), some (.int (m)), some (.int (iv ((k : Int) + 1)))]) rfl ?_
        refine zr_goto hk_148 rw_148_34 ?_
        refine ih (k + 1) (by omega) (fun i hi => ?_)
        by_cases hik : i = k
        · rw [hik]; exact fun e => h30 e.2
        · exact hall i (by omega)
      · refine zr_iload hk_148 rw_148_31 rfl ?_
        refine zr_ireturn hk_148 rw_148_32 ?_
        exact ⟨rfl, Or.inl ⟨k, by omega, rfl, h18, h30⟩⟩
theorem placeOf_ok (d : Nat) (hB : 87 ≤ B.length) {c m : Int32} {F : Nat} (hF : p 217 = iv (F : Int)) (hF2 : F ≤ 200) : ZC d 148 [.ref 75, .int c, .int m] (mh B p a z) (fun v ph' => ph' = mh B p a z ∧ PO p c m F v) := by
  refine ZC.of (lv := [some (.ref 75), some (.int (c)), some (.int (m))]) hk_148 (fun i v hv => ?_) ?_
  · match i, hv with
    | 0, hv => cases hv; rfl
    | 1, hv => cases hv; rfl
    | 2, hv => cases hv; rfl
    | i + 3, hv => simp at hv
  refine zi_const hk_148 rw_148_0 (c := 0) rfl ?_
  refine zi_istore hk_148 rw_148_1 rfl (lv' := [some (.ref 75), some (.int (c)), some (.int (m)), some (.int (iv (0)))]) rfl ?_
  exact po_loop hB hF hF2 F 0 (by omega) (fun i hi => absurd hi (Nat.not_lt_zero _))
theorem c_placeOf (hk : k < 186) (hB : 87 ≤ B.length) {pc b x ix : Nat} {ts : List Nat} {c m : Int32} (hrow : (codeOf k)[j]? = some (pc, .invokevirtual ix, 148, b, x, 3, ts)) {F : Nat} (hF : p 217 = iv (F : Int)) (hF2 : F ≤ 200) (hcat : catS st ≤ 8) (hT : ∀ r : Nat, r < F → p (3 * r + 220) = c → p (3 * r + 221) = m → ZR (d + 1) k (j + 1) lv (.int (iv (r : Int)) :: st) (mh B p a z) Q) (hN : (∀ i, i < F → ¬ (p (3 * i + 220) = c ∧ p (3 * i + 221) = m)) → ZR (d + 1) k (j + 1) lv (.int (iv (-9)) :: st) (mh B p a z) Q) : ZR (d + 1) k j lv (.int m :: .int c :: .ref 75 :: st) (mh B p a z) Q := by
  refine mz_call (L := 4) (n := 2) (as := [.int c, .int m]) (r := st) hk hB hrow (by decide) (by decide) ⟨rfl, rfl, rfl, rfl⟩ rfl rfl hcat (Nat.le_of_ble_eq_true rfl) (placeOf_ok d hB hF hF2) ?_
  rintro w ph' ⟨rfl, hw⟩
  rcases hw with ⟨r, h1, rfl, h2, h3⟩ | ⟨rfl, h1⟩
  · exact hT r h1 h2 h3
  · exact hN h1
/-- flights from place t on, moved as far as place k -/
def shF (p : Nat → Int32) (t k : Nat) : Nat → Int32 := fun i => if 220 + 3 * t ≤ i ∧ i < k then p (i + 3) else p i
theorem shF_0 (p : Nat → Int32) (t : Nat) : shF p t (220 + 3 * t) = p := by
  funext i
  unfold shF
  rw [if_neg (by omega)]
theorem shF_lo {t k i : Nat} (h : i < 220 + 3 * t) : shF p t k i = p i := by
  unfold shF
  rw [if_neg (by omega)]
theorem shF_step {t k : Nat} (h : 220 + 3 * t ≤ k) : upd (shF p t k) k (shF p t k (k + 3)) = shF p t (k + 1) := by
  funext i
  unfold upd shF
  by_cases e : i = k
  · rw [if_pos e, if_neg (by omega), if_pos (by omega), e]
  · rw [if_neg e]
    by_cases h2 : 220 + 3 * t ≤ i ∧ i < k
    · rw [if_pos h2, if_pos (by omega)]
    · rw [if_neg h2, if_neg (by omega)]
/-- the page without the packet at place t -/
def lvF (p : Nat → Int32) (t F : Nat) : Nat → Int32 := upd (shF p t (220 + 3 * (F - 1))) 217 (iv ((F : Int) - 1))
theorem lf_loop (hB : 87 ≤ B.length) {t F : Nat} (hF : p 217 = iv (F : Int)) (hF1 : 1 ≤ F) (hF2 : F ≤ 200) (ht : t < F) : ∀ (n k : Nat), k + n = 220 + 3 * (F - 1) → 220 + 3 * t ≤ k → ZR d 151 6 [some (.ref 75), some (.int (iv ((t : Int)))), some (.int (iv ((k : Int))))] [] (mh B (shF p t k) a z) (fun v ph' => ph' = mh B (lvF p t F) a z ∧ v = none) := by
  intro n
  induction n with
  | zero =>
    intro k hkn hlo
    refine zr_cut hk_151 rw_151_6 ?_
    refine zr_iload hk_151 rw_151_7 rfl ?_
    refine zi_const hk_151 rw_151_8 (c := 220) rfl ?_
    refine zi_const hk_151 rw_151_9 (c := 3) rfl ?_
    refine zr_aload hk_151 rw_151_10 rfl ?_
    refine mz_getf hk_151 hB rw_151_11 rfl ?_
    refine zi_const hk_151 rw_151_12 (c := 217) rfl ?_
    refine mz_plde hk_151 hB rw_151_13 (217) (by omega) (by omega) ((shF_lo (by omega)).trans hF) ?_
    refine zi_const hk_151 rw_151_14 (c := 1) rfl ?_
    refine zi_sub hk_151 rw_151_15 ?_
    refine zi_mul hk_151 rw_151_16 ?_
    refine zi_add hk_151 rw_151_17 ?_
    refine zi_icmp_ge hk_151 rw_151_18 (by unfold inR; omega) (by unfold inR; omega) (fun h18 => ?_) (fun h18 => by omega)
    refine zr_aload hk_151 rw_151_31 rfl ?_
    refine mz_getf hk_151 hB rw_151_32 rfl ?_
    refine zi_const hk_151 rw_151_33 (c := 217) rfl ?_
    refine zr_dup2 hk_151 rw_151_34 rfl rfl ?_
    refine mz_plde hk_151 hB rw_151_35 (217) (by omega) (by omega) ((shF_lo (by omega)).trans hF) ?_
    refine zi_const hk_151 rw_151_36 (c := 1) rfl ?_
    refine zi_sub hk_151 rw_151_37 ?_
    refine mz_pst hk_151 hB rw_151_38 (217) (by omega) (by omega) ?_
    refine zr_return (a := 0) hk_151 rw_151_39 ?_
    obtain rfl : k = 220 + 3 * (F - 1) := by omega
    exact ⟨rfl, rfl⟩
  | succ n ih =>
    intro k hkn hlo
    refine zr_cut hk_151 rw_151_6 ?_
    refine zr_iload hk_151 rw_151_7 rfl ?_
    refine zi_const hk_151 rw_151_8 (c := 220) rfl ?_
    refine zi_const hk_151 rw_151_9 (c := 3) rfl ?_
    refine zr_aload hk_151 rw_151_10 rfl ?_
    refine mz_getf hk_151 hB rw_151_11 rfl ?_
    refine zi_const hk_151 rw_151_12 (c := 217) rfl ?_
    refine mz_plde hk_151 hB rw_151_13 (217) (by omega) (by omega) ((shF_lo (by omega)).trans hF) ?_
    refine zi_const hk_151 rw_151_14 (c := 1) rfl ?_
    refine zi_sub hk_151 rw_151_15 ?_
    refine zi_mul hk_151 rw_151_16 ?_
    refine zi_add hk_151 rw_151_17 ?_
    refine zi_icmp_ge hk_151 rw_151_18 (by unfold inR; omega) (by unfold inR; omega) (fun h18 => by omega) (fun h18 => ?_)
    refine zr_aload hk_151 rw_151_19 rfl ?_
    refine mz_getf hk_151 hB rw_151_20 rfl ?_
    refine zr_iload hk_151 rw_151_21 rfl ?_
    refine zr_aload hk_151 rw_151_22 rfl ?_
    refine mz_getf hk_151 hB rw_151_23 rfl ?_
    refine zr_iload hk_151 rw_151_24 rfl ?_
    refine zi_const hk_151 rw_151_25 (c := 3) rfl ?_
    refine zi_add hk_151 rw_151_26 ?_
    refine mz_pld hk_151 hB rw_151_27 (k + 3) (by omega) (by omega) ?_
    refine mz_pst hk_151 hB rw_151_28 (k) (by omega) (by omega) ?_
    refine zi_inc hk_151 rw_151_29 rfl rfl inc_1 (lv' := [some (.ref 75), some (.int (iv ((t : Int)))), some (.int (iv ((k : Int) + 1)))]) rfl ?_
    refine zr_goto hk_151 rw_151_30 ?_
    rw [shF_step (by omega)]
    exact ih (k + 1) (by omega) (by omega)
theorem leavesFlight_ok (d : Nat) (hB : 87 ≤ B.length) {t F : Nat} (hF : p 217 = iv (F : Int)) (hF1 : 1 ≤ F) (hF2 : F ≤ 200) (ht : t < F) : ZC d 151 [.ref 75, .int (iv (t : Int))] (mh B p a z) (fun v ph' => ph' = mh B (lvF p t F) a z ∧ v = none) := by
  refine ZC.of (lv := [some (.ref 75), some (.int (iv ((t : Int))))]) hk_151 (fun i v hv => ?_) ?_
  · match i, hv with
    | 0, hv => cases hv; rfl
    | 1, hv => cases hv; rfl
    | i + 2, hv => simp at hv
  refine zi_const hk_151 rw_151_0 (c := 220) rfl ?_
  refine zi_const hk_151 rw_151_1 (c := 3) rfl ?_
  refine zr_iload hk_151 rw_151_2 rfl ?_
  refine zi_mul hk_151 rw_151_3 ?_
  refine zi_add hk_151 rw_151_4 ?_
  refine zi_istore hk_151 rw_151_5 rfl (lv' := [some (.ref 75), some (.int (iv ((t : Int)))), some (.int (iv (220 + (3 * (t : Int)))))]) rfl ?_
  have e : (220 : Int) + (3 * (t : Int)) = ((220 + 3 * t : Nat) : Int) := by omega
  rw [e]
  have := lf_loop (d := d) (p := p) (a := a) (z := z) hB hF hF1 hF2 ht (3 * (F - 1 - t)) (220 + 3 * t) (by omega) (by omega)
  rw [shF_0] at this
  exact this
theorem c_leavesFlight (hk : k < 186) (hB : 87 ≤ B.length) {pc b x ix : Nat} {ts : List Nat} {t : Nat} (hrow : (codeOf k)[j]? = some (pc, .invokevirtual ix, 151, b, x, 3, ts)) {F : Nat} (hF : p 217 = iv (F : Int)) (hF1 : 1 ≤ F) (hF2 : F ≤ 200) (ht : t < F) (hcat : catS st ≤ 8) (h : ZR (d + 1) k (j + 1) lv st (mh B (lvF p t F) a z) Q) : ZR (d + 1) k j lv (.int (iv (t : Int)) :: .ref 75 :: st) (mh B p a z) Q := by
  refine mz_call (L := 3) (n := 1) (as := [.int (iv (t : Int))]) (r := st) hk hB hrow (by decide) (by decide) ⟨rfl, rfl, rfl, rfl⟩ rfl rfl hcat (Nat.le_of_ble_eq_true rfl) (leavesFlight_ok d hB hF hF1 hF2 ht) ?_
  rintro w ph' ⟨rfl, rfl⟩
  exact h
/-- the packet at place t of connection c is lost -/
def ifL (p : Nat → Int32) (c t F : Nat) : Nat → Int32 :=
  let q := lvF p t F
  let q := upd q (21 * c + 4) (mn (iv 9999) (q (21 * c + 4) + iv 1))
  upd q (21 * c + 17) (q (21 * c + 17) + iv 1)
theorem isFoundLost_ok (d : Nat) (hB : 87 ≤ B.length) {c t F : Nat} (hc : c ≤ 9) (hF : p 217 = iv (F : Int)) (hF1 : 1 ≤ F) (hF2 : F ≤ 200) (ht : t < F) : ZC (d + 2) 150 [.ref 75, .int (iv (c : Int)), .int (iv (t : Int))] (mh B p a z) (fun v ph' => ph' = mh B (ifL p c t F) a z ∧ v = none) := by
  refine ZC.of (lv := [some (.ref 75), some (.int (iv ((c : Int)))), some (.int (iv ((t : Int))))]) hk_150 (fun i v hv => ?_) ?_
  · match i, hv with
    | 0, hv => cases hv; rfl
    | 1, hv => cases hv; rfl
    | 2, hv => cases hv; rfl
    | i + 3, hv => simp at hv
  refine zr_aload hk_150 rw_150_0 rfl ?_
  refine zr_iload hk_150 rw_150_1 rfl ?_
  refine c_leavesFlight hk_150 hB rw_150_2 hF hF1 hF2 ht (Nat.le_of_ble_eq_true rfl) ?_
  refine zr_aload hk_150 rw_150_3 rfl ?_
  refine zr_iload hk_150 rw_150_4 rfl ?_
  refine zi_const hk_150 rw_150_5 (c := 4) rfl ?_
  refine zi_const hk_150 rw_150_6 (c := 9999) rfl ?_
  refine zr_aload hk_150 rw_150_7 rfl ?_
  refine zr_iload hk_150 rw_150_8 rfl ?_
  refine zi_const hk_150 rw_150_9 (c := 4) rfl ?_
  refine c_of hk_150 hB rw_150_10 (21 * c + 4) (by omega) (by omega) (Nat.le_of_ble_eq_true rfl) ?_
  refine zi_const hk_150 rw_150_11 (c := 1) rfl ?_
  refine zr_iadd hk_150 rw_150_12 ?_
  refine c_least hk_150 hB rw_150_13 (Nat.le_of_ble_eq_true rfl) ?_
  refine c_put hk_150 hB rw_150_14 (21 * c + 4) (by omega) (by omega) (Nat.le_of_ble_eq_true rfl) ?_
  refine zr_aload hk_150 rw_150_15 rfl ?_
  refine zr_iload hk_150 rw_150_16 rfl ?_
  refine zi_const hk_150 rw_150_17 (c := 2) rfl ?_
  refine zi_const hk_150 rw_150_18 (c := 1) rfl ?_
  refine c_counts hk_150 hB rw_150_19 (21 * c + 17) (by omega) (by omega) (Nat.le_of_ble_eq_true rfl) ?_
  refine zr_return (a := 0) hk_150 rw_150_20 ?_
  exact ⟨rfl, rfl⟩
theorem c_isFoundLost (hk : k < 186) (hB : 87 ≤ B.length) {pc b x ix : Nat} {ts : List Nat} {c t : Nat} (hrow : (codeOf k)[j]? = some (pc, .invokevirtual ix, 150, b, x, 3, ts)) {F : Nat} (hc : c ≤ 9) (hF : p 217 = iv (F : Int)) (hF1 : 1 ≤ F) (hF2 : F ≤ 200) (ht : t < F) (hcat : catS st ≤ 8) (h : ZR (d + 3) k (j + 1) lv st (mh B (ifL p c t F) a z) Q) : ZR (d + 3) k j lv (.int (iv (t : Int)) :: .int (iv (c : Int)) :: .ref 75 :: st) (mh B p a z) Q := by
  refine mz_call (L := 3) (n := 2) (as := [.int (iv (c : Int)), .int (iv (t : Int))]) (r := st) hk hB hrow (by decide) (by decide) ⟨rfl, rfl, rfl, rfl⟩ rfl rfl hcat (Nat.le_of_ble_eq_true rfl) (isFoundLost_ok d hB hc hF hF1 hF2 ht) ?_
  rintro w ph' ⟨rfl, rfl⟩
  exact h
end MD

/-! ===== by program (wip/gen/m79.py): open, close, give, setWeight, setBudget, setLink, ifOpened ===== -/
theorem kc132_eq : codeOf 132 = kc132 := rfl
theorem hk_132 : 132 < 186 := by decide
theorem rw_132_0 : (codeOf 132)[0]? = some (0, .aload 0, 0, 0, 3, 1, []) := by rw [kc132_eq]; rfl
theorem rw_132_1 : (codeOf 132)[1]? = some (1, .iload 1, 1, 0, 0, 1, []) := by rw [kc132_eq]; rfl
theorem rw_132_2 : (codeOf 132)[2]? = some (2, .invokevirtual 92, 133, 0, 0, 3, []) := by rw [kc132_eq]; rfl
theorem rw_132_3 : (codeOf 132)[3]? = some (5, .ifCond .eq 13, 18, 9, 0, 3, []) := by rw [kc132_eq]; rfl
theorem rw_132_4 : (codeOf 132)[4]? = some (8, .iload 2, 2, 0, 0, 1, []) := by rw [kc132_eq]; rfl
theorem rw_132_5 : (codeOf 132)[5]? = some (9, .iconst 1, 2147483649, 0, 0, 1, []) := by rw [kc132_eq]; rfl
theorem rw_132_6 : (codeOf 132)[6]? = some (10, .iconst 9, 2147483657, 0, 0, 2, []) := by rw [kc132_eq]; rfl
theorem rw_132_7 : (codeOf 132)[7]? = some (12, .invokestatic 58, 121, 0, 0, 3, []) := by rw [kc132_eq]; rfl
theorem rw_132_8 : (codeOf 132)[8]? = some (15, .ifCond .ne 5, 20, 11, 0, 3, []) := by rw [kc132_eq]; rfl
theorem rw_132_9 : (codeOf 132)[9]? = some (18, .iconst (-1), 2147483647, 0, 0, 1, []) := by rw [kc132_eq]; rfl
theorem rw_132_10 : (codeOf 132)[10]? = some (19, .ireturn, 1, 0, 0, 1, []) := by rw [kc132_eq]; rfl
theorem rw_132_11 : (codeOf 132)[11]? = some (20, .aload 0, 0, 0, 3, 1, []) := by rw [kc132_eq]; rfl
theorem rw_132_12 : (codeOf 132)[12]? = some (21, .invokevirtual 89, 129, 0, 0, 3, []) := by rw [kc132_eq]; rfl
theorem rw_132_13 : (codeOf 132)[13]? = some (24, .iconst 10, 2147483658, 0, 0, 2, []) := by rw [kc132_eq]; rfl
theorem rw_132_14 : (codeOf 132)[14]? = some (26, .if_icmp .ne 6, 32, 17, 0, 3, []) := by rw [kc132_eq]; rfl
theorem rw_132_15 : (codeOf 132)[15]? = some (29, .iconst (-3), 2147483645, 0, 0, 2, []) := by rw [kc132_eq]; rfl
theorem rw_132_16 : (codeOf 132)[16]? = some (31, .ireturn, 1, 0, 0, 1, []) := by rw [kc132_eq]; rfl
theorem rw_132_17 : (codeOf 132)[17]? = some (32, .aload 0, 0, 0, 3, 1, []) := by rw [kc132_eq]; rfl
theorem rw_132_18 : (codeOf 132)[18]? = some (33, .invokevirtual 83, 126, 0, 0, 3, []) := by rw [kc132_eq]; rfl
theorem rw_132_19 : (codeOf 132)[19]? = some (36, .aload 0, 0, 0, 3, 1, []) := by rw [kc132_eq]; rfl
theorem rw_132_20 : (codeOf 132)[20]? = some (37, .iload 1, 1, 0, 0, 1, []) := by rw [kc132_eq]; rfl
theorem rw_132_21 : (codeOf 132)[21]? = some (38, .iload 2, 2, 0, 0, 1, []) := by rw [kc132_eq]; rfl
theorem rw_132_22 : (codeOf 132)[22]? = some (39, .invokevirtual 86, 128, 0, 0, 3, []) := by rw [kc132_eq]; rfl
theorem rw_132_23 : (codeOf 132)[23]? = some (42, .ireturn, 1, 0, 0, 1, []) := by rw [kc132_eq]; rfl
theorem kc134_eq : codeOf 134 = kc134 := rfl
theorem hk_134 : 134 < 186 := by decide
theorem rw_134_0 : (codeOf 134)[0]? = some (0, .iload 1, 1, 0, 0, 1, []) := by rw [kc134_eq]; rfl
theorem rw_134_1 : (codeOf 134)[1]? = some (1, .iconst 1, 2147483649, 0, 0, 1, []) := by rw [kc134_eq]; rfl
theorem rw_134_2 : (codeOf 134)[2]? = some (2, .if_icmp .lt 11, 13, 7, 0, 3, []) := by rw [kc134_eq]; rfl
theorem rw_134_3 : (codeOf 134)[3]? = some (5, .aload 0, 0, 0, 3, 1, []) := by rw [kc134_eq]; rfl
theorem rw_134_4 : (codeOf 134)[4]? = some (6, .iload 1, 1, 0, 0, 1, []) := by rw [kc134_eq]; rfl
theorem rw_134_5 : (codeOf 134)[5]? = some (7, .invokevirtual 92, 133, 0, 0, 3, []) := by rw [kc134_eq]; rfl
theorem rw_134_6 : (codeOf 134)[6]? = some (10, .ifCond .ne 5, 15, 9, 0, 3, []) := by rw [kc134_eq]; rfl
theorem rw_134_7 : (codeOf 134)[7]? = some (13, .iconst (-1), 2147483647, 0, 0, 1, []) := by rw [kc134_eq]; rfl
theorem rw_134_8 : (codeOf 134)[8]? = some (14, .ireturn, 1, 0, 0, 1, []) := by rw [kc134_eq]; rfl
theorem rw_134_9 : (codeOf 134)[9]? = some (15, .aload 0, 0, 0, 3, 1, []) := by rw [kc134_eq]; rfl
theorem rw_134_10 : (codeOf 134)[10]? = some (16, .iload 1, 1, 0, 0, 1, []) := by rw [kc134_eq]; rfl
theorem rw_134_11 : (codeOf 134)[11]? = some (17, .invokevirtual 102, 135, 0, 0, 3, []) := by rw [kc134_eq]; rfl
theorem rw_134_12 : (codeOf 134)[12]? = some (20, .ifCond .le 6, 26, 15, 0, 3, []) := by rw [kc134_eq]; rfl
theorem rw_134_13 : (codeOf 134)[13]? = some (23, .iconst (-2), 2147483646, 0, 0, 2, []) := by rw [kc134_eq]; rfl
theorem rw_134_14 : (codeOf 134)[14]? = some (25, .ireturn, 1, 0, 0, 1, []) := by rw [kc134_eq]; rfl
theorem rw_134_15 : (codeOf 134)[15]? = some (26, .aload 0, 0, 0, 3, 1, []) := by rw [kc134_eq]; rfl
theorem rw_134_16 : (codeOf 134)[16]? = some (27, .invokevirtual 83, 126, 0, 0, 3, []) := by rw [kc134_eq]; rfl
theorem rw_134_17 : (codeOf 134)[17]? = some (30, .aload 0, 0, 0, 3, 1, []) := by rw [kc134_eq]; rfl
theorem rw_134_18 : (codeOf 134)[18]? = some (31, .iload 1, 1, 0, 0, 1, []) := by rw [kc134_eq]; rfl
theorem rw_134_19 : (codeOf 134)[19]? = some (32, .iconst 2, 2147483650, 0, 0, 1, []) := by rw [kc134_eq]; rfl
theorem rw_134_20 : (codeOf 134)[20]? = some (33, .invokevirtual 62, 130, 0, 0, 3, []) := by rw [kc134_eq]; rfl
theorem rw_134_21 : (codeOf 134)[21]? = some (36, .istore 2, 2, 0, 0, 1, []) := by rw [kc134_eq]; rfl
theorem rw_134_22 : (codeOf 134)[22]? = some (37, .aload 0, 0, 0, 3, 1, []) := by rw [kc134_eq]; rfl
theorem rw_134_23 : (codeOf 134)[23]? = some (38, .iload 1, 1, 0, 0, 1, []) := by rw [kc134_eq]; rfl
theorem rw_134_24 : (codeOf 134)[24]? = some (39, .iload 2, 2, 0, 0, 1, []) := by rw [kc134_eq]; rfl
theorem rw_134_25 : (codeOf 134)[25]? = some (40, .invokevirtual 106, 136, 0, 0, 3, []) := by rw [kc134_eq]; rfl
theorem rw_134_26 : (codeOf 134)[26]? = some (43, .iload 2, 2, 0, 0, 1, []) := by rw [kc134_eq]; rfl
theorem rw_134_27 : (codeOf 134)[27]? = some (44, .ireturn, 1, 0, 0, 1, []) := by rw [kc134_eq]; rfl
theorem kc139_eq : codeOf 139 = kc139 := rfl
theorem hk_139 : 139 < 186 := by decide
theorem rw_139_0 : (codeOf 139)[0]? = some (0, .aload 0, 0, 0, 3, 1, []) := by rw [kc139_eq]; rfl
theorem rw_139_1 : (codeOf 139)[1]? = some (1, .iload 1, 1, 0, 0, 1, []) := by rw [kc139_eq]; rfl
theorem rw_139_2 : (codeOf 139)[2]? = some (2, .invokevirtual 92, 133, 0, 0, 3, []) := by rw [kc139_eq]; rfl
theorem rw_139_3 : (codeOf 139)[3]? = some (5, .ifCond .eq 14, 19, 9, 0, 3, []) := by rw [kc139_eq]; rfl
theorem rw_139_4 : (codeOf 139)[4]? = some (8, .iload 2, 2, 0, 0, 1, []) := by rw [kc139_eq]; rfl
theorem rw_139_5 : (codeOf 139)[5]? = some (9, .iconst 1, 2147483649, 0, 0, 1, []) := by rw [kc139_eq]; rfl
theorem rw_139_6 : (codeOf 139)[6]? = some (10, .iconst 500, 2147484148, 0, 0, 3, []) := by rw [kc139_eq]; rfl
theorem rw_139_7 : (codeOf 139)[7]? = some (13, .invokestatic 58, 121, 0, 0, 3, []) := by rw [kc139_eq]; rfl
theorem rw_139_8 : (codeOf 139)[8]? = some (16, .ifCond .ne 5, 21, 11, 0, 3, []) := by rw [kc139_eq]; rfl
theorem rw_139_9 : (codeOf 139)[9]? = some (19, .iconst (-1), 2147483647, 0, 0, 1, []) := by rw [kc139_eq]; rfl
theorem rw_139_10 : (codeOf 139)[10]? = some (20, .ireturn, 1, 0, 0, 1, []) := by rw [kc139_eq]; rfl
theorem rw_139_11 : (codeOf 139)[11]? = some (21, .aload 0, 0, 0, 3, 1, []) := by rw [kc139_eq]; rfl
theorem rw_139_12 : (codeOf 139)[12]? = some (22, .iload 1, 1, 0, 0, 1, []) := by rw [kc139_eq]; rfl
theorem rw_139_13 : (codeOf 139)[13]? = some (23, .iconst 4, 2147483652, 0, 0, 1, []) := by rw [kc139_eq]; rfl
theorem rw_139_14 : (codeOf 139)[14]? = some (24, .invokevirtual 62, 130, 0, 0, 3, []) := by rw [kc139_eq]; rfl
theorem rw_139_15 : (codeOf 139)[15]? = some (27, .iload 2, 2, 0, 0, 1, []) := by rw [kc139_eq]; rfl
theorem rw_139_16 : (codeOf 139)[16]? = some (28, .iadd, 0, 0, 0, 1, []) := by rw [kc139_eq]; rfl
theorem rw_139_17 : (codeOf 139)[17]? = some (29, .iconst 9999, 2147493647, 0, 0, 3, []) := by rw [kc139_eq]; rfl
theorem rw_139_18 : (codeOf 139)[18]? = some (32, .if_icmp .le 6, 38, 21, 0, 3, []) := by rw [kc139_eq]; rfl
theorem rw_139_19 : (codeOf 139)[19]? = some (35, .iconst (-3), 2147483645, 0, 0, 2, []) := by rw [kc139_eq]; rfl
theorem rw_139_20 : (codeOf 139)[20]? = some (37, .ireturn, 1, 0, 0, 1, []) := by rw [kc139_eq]; rfl
theorem rw_139_21 : (codeOf 139)[21]? = some (38, .aload 0, 0, 0, 3, 1, []) := by rw [kc139_eq]; rfl
theorem rw_139_22 : (codeOf 139)[22]? = some (39, .invokevirtual 83, 126, 0, 0, 3, []) := by rw [kc139_eq]; rfl
theorem rw_139_23 : (codeOf 139)[23]? = some (42, .aload 0, 0, 0, 3, 1, []) := by rw [kc139_eq]; rfl
theorem rw_139_24 : (codeOf 139)[24]? = some (43, .iload 1, 1, 0, 0, 1, []) := by rw [kc139_eq]; rfl
theorem rw_139_25 : (codeOf 139)[25]? = some (44, .iconst 4, 2147483652, 0, 0, 1, []) := by rw [kc139_eq]; rfl
theorem rw_139_26 : (codeOf 139)[26]? = some (45, .aload 0, 0, 0, 3, 1, []) := by rw [kc139_eq]; rfl
theorem rw_139_27 : (codeOf 139)[27]? = some (46, .iload 1, 1, 0, 0, 1, []) := by rw [kc139_eq]; rfl
theorem rw_139_28 : (codeOf 139)[28]? = some (47, .iconst 4, 2147483652, 0, 0, 1, []) := by rw [kc139_eq]; rfl
theorem rw_139_29 : (codeOf 139)[29]? = some (48, .invokevirtual 62, 130, 0, 0, 3, []) := by rw [kc139_eq]; rfl
theorem rw_139_30 : (codeOf 139)[30]? = some (51, .iload 2, 2, 0, 0, 1, []) := by rw [kc139_eq]; rfl
theorem rw_139_31 : (codeOf 139)[31]? = some (52, .iadd, 0, 0, 0, 1, []) := by rw [kc139_eq]; rfl
theorem rw_139_32 : (codeOf 139)[32]? = some (53, .invokevirtual 66, 119, 0, 0, 3, []) := by rw [kc139_eq]; rfl
theorem rw_139_33 : (codeOf 139)[33]? = some (56, .aload 0, 0, 0, 3, 1, []) := by rw [kc139_eq]; rfl
theorem rw_139_34 : (codeOf 139)[34]? = some (57, .iload 1, 1, 0, 0, 1, []) := by rw [kc139_eq]; rfl
theorem rw_139_35 : (codeOf 139)[35]? = some (58, .iconst 4, 2147483652, 0, 0, 1, []) := by rw [kc139_eq]; rfl
theorem rw_139_36 : (codeOf 139)[36]? = some (59, .invokevirtual 62, 130, 0, 0, 3, []) := by rw [kc139_eq]; rfl
theorem rw_139_37 : (codeOf 139)[37]? = some (62, .ireturn, 1, 0, 0, 1, []) := by rw [kc139_eq]; rfl
theorem kc140_eq : codeOf 140 = kc140 := rfl
theorem hk_140 : 140 < 186 := by decide
theorem rw_140_0 : (codeOf 140)[0]? = some (0, .aload 0, 0, 0, 3, 1, []) := by rw [kc140_eq]; rfl
theorem rw_140_1 : (codeOf 140)[1]? = some (1, .iload 1, 1, 0, 0, 1, []) := by rw [kc140_eq]; rfl
theorem rw_140_2 : (codeOf 140)[2]? = some (2, .invokevirtual 92, 133, 0, 0, 3, []) := by rw [kc140_eq]; rfl
theorem rw_140_3 : (codeOf 140)[3]? = some (5, .ifCond .eq 13, 18, 9, 0, 3, []) := by rw [kc140_eq]; rfl
theorem rw_140_4 : (codeOf 140)[4]? = some (8, .iload 2, 2, 0, 0, 1, []) := by rw [kc140_eq]; rfl
theorem rw_140_5 : (codeOf 140)[5]? = some (9, .iconst 1, 2147483649, 0, 0, 1, []) := by rw [kc140_eq]; rfl
theorem rw_140_6 : (codeOf 140)[6]? = some (10, .iconst 9, 2147483657, 0, 0, 2, []) := by rw [kc140_eq]; rfl
theorem rw_140_7 : (codeOf 140)[7]? = some (12, .invokestatic 58, 121, 0, 0, 3, []) := by rw [kc140_eq]; rfl
theorem rw_140_8 : (codeOf 140)[8]? = some (15, .ifCond .ne 5, 20, 11, 0, 3, []) := by rw [kc140_eq]; rfl
theorem rw_140_9 : (codeOf 140)[9]? = some (18, .iconst (-1), 2147483647, 0, 0, 1, []) := by rw [kc140_eq]; rfl
theorem rw_140_10 : (codeOf 140)[10]? = some (19, .ireturn, 1, 0, 0, 1, []) := by rw [kc140_eq]; rfl
theorem rw_140_11 : (codeOf 140)[11]? = some (20, .aload 0, 0, 0, 3, 1, []) := by rw [kc140_eq]; rfl
theorem rw_140_12 : (codeOf 140)[12]? = some (21, .invokevirtual 83, 126, 0, 0, 3, []) := by rw [kc140_eq]; rfl
theorem rw_140_13 : (codeOf 140)[13]? = some (24, .aload 0, 0, 0, 3, 1, []) := by rw [kc140_eq]; rfl
theorem rw_140_14 : (codeOf 140)[14]? = some (25, .iload 1, 1, 0, 0, 1, []) := by rw [kc140_eq]; rfl
theorem rw_140_15 : (codeOf 140)[15]? = some (26, .iconst 3, 2147483651, 0, 0, 1, []) := by rw [kc140_eq]; rfl
theorem rw_140_16 : (codeOf 140)[16]? = some (27, .invokevirtual 62, 130, 0, 0, 3, []) := by rw [kc140_eq]; rfl
theorem rw_140_17 : (codeOf 140)[17]? = some (30, .istore 3, 3, 0, 0, 1, []) := by rw [kc140_eq]; rfl
theorem rw_140_18 : (codeOf 140)[18]? = some (31, .aload 0, 0, 0, 3, 1, []) := by rw [kc140_eq]; rfl
theorem rw_140_19 : (codeOf 140)[19]? = some (32, .iload 1, 1, 0, 0, 1, []) := by rw [kc140_eq]; rfl
theorem rw_140_20 : (codeOf 140)[20]? = some (33, .iconst 3, 2147483651, 0, 0, 1, []) := by rw [kc140_eq]; rfl
theorem rw_140_21 : (codeOf 140)[21]? = some (34, .iload 2, 2, 0, 0, 1, []) := by rw [kc140_eq]; rfl
theorem rw_140_22 : (codeOf 140)[22]? = some (35, .invokevirtual 66, 119, 0, 0, 3, []) := by rw [kc140_eq]; rfl
theorem rw_140_23 : (codeOf 140)[23]? = some (38, .iload 3, 3, 0, 0, 1, []) := by rw [kc140_eq]; rfl
theorem rw_140_24 : (codeOf 140)[24]? = some (39, .ireturn, 1, 0, 0, 1, []) := by rw [kc140_eq]; rfl
theorem kc141_eq : codeOf 141 = kc141 := rfl
theorem hk_141 : 141 < 186 := by decide
theorem rw_141_0 : (codeOf 141)[0]? = some (0, .iload 1, 1, 0, 0, 1, []) := by rw [kc141_eq]; rfl
theorem rw_141_1 : (codeOf 141)[1]? = some (1, .iconst 1, 2147483649, 0, 0, 1, []) := by rw [kc141_eq]; rfl
theorem rw_141_2 : (codeOf 141)[2]? = some (2, .iconst 200, 2147483848, 0, 0, 3, []) := by rw [kc141_eq]; rfl
theorem rw_141_3 : (codeOf 141)[3]? = some (5, .invokestatic 58, 121, 0, 0, 3, []) := by rw [kc141_eq]; rfl
theorem rw_141_4 : (codeOf 141)[4]? = some (8, .ifCond .ne 5, 13, 7, 0, 3, []) := by rw [kc141_eq]; rfl
theorem rw_141_5 : (codeOf 141)[5]? = some (11, .iconst (-1), 2147483647, 0, 0, 1, []) := by rw [kc141_eq]; rfl
theorem rw_141_6 : (codeOf 141)[6]? = some (12, .ireturn, 1, 0, 0, 1, []) := by rw [kc141_eq]; rfl
theorem rw_141_7 : (codeOf 141)[7]? = some (13, .aload 0, 0, 0, 3, 1, []) := by rw [kc141_eq]; rfl
theorem rw_141_8 : (codeOf 141)[8]? = some (14, .getfield 7, 9, 0, 3, 3, []) := by rw [kc141_eq]; rfl
theorem rw_141_9 : (codeOf 141)[9]? = some (17, .iconst 217, 2147483865, 0, 0, 3, []) := by rw [kc141_eq]; rfl
theorem rw_141_10 : (codeOf 141)[10]? = some (20, .iaload, 0, 0, 0, 1, []) := by rw [kc141_eq]; rfl
theorem rw_141_11 : (codeOf 141)[11]? = some (21, .iload 1, 1, 0, 0, 1, []) := by rw [kc141_eq]; rfl
theorem rw_141_12 : (codeOf 141)[12]? = some (22, .if_icmp .le 6, 28, 15, 0, 3, []) := by rw [kc141_eq]; rfl
theorem rw_141_13 : (codeOf 141)[13]? = some (25, .iconst (-2), 2147483646, 0, 0, 2, []) := by rw [kc141_eq]; rfl
theorem rw_141_14 : (codeOf 141)[14]? = some (27, .ireturn, 1, 0, 0, 1, []) := by rw [kc141_eq]; rfl
theorem rw_141_15 : (codeOf 141)[15]? = some (28, .aload 0, 0, 0, 3, 1, []) := by rw [kc141_eq]; rfl
theorem rw_141_16 : (codeOf 141)[16]? = some (29, .invokevirtual 83, 126, 0, 0, 3, []) := by rw [kc141_eq]; rfl
theorem rw_141_17 : (codeOf 141)[17]? = some (32, .aload 0, 0, 0, 3, 1, []) := by rw [kc141_eq]; rfl
theorem rw_141_18 : (codeOf 141)[18]? = some (33, .getfield 7, 9, 0, 3, 3, []) := by rw [kc141_eq]; rfl
theorem rw_141_19 : (codeOf 141)[19]? = some (36, .iconst 210, 2147483858, 0, 0, 3, []) := by rw [kc141_eq]; rfl
theorem rw_141_20 : (codeOf 141)[20]? = some (39, .iaload, 0, 0, 0, 1, []) := by rw [kc141_eq]; rfl
theorem rw_141_21 : (codeOf 141)[21]? = some (40, .istore 2, 2, 0, 0, 1, []) := by rw [kc141_eq]; rfl
theorem rw_141_22 : (codeOf 141)[22]? = some (41, .aload 0, 0, 0, 3, 1, []) := by rw [kc141_eq]; rfl
theorem rw_141_23 : (codeOf 141)[23]? = some (42, .getfield 7, 9, 0, 3, 3, []) := by rw [kc141_eq]; rfl
theorem rw_141_24 : (codeOf 141)[24]? = some (45, .iconst 210, 2147483858, 0, 0, 3, []) := by rw [kc141_eq]; rfl
theorem rw_141_25 : (codeOf 141)[25]? = some (48, .iload 1, 1, 0, 0, 1, []) := by rw [kc141_eq]; rfl
theorem rw_141_26 : (codeOf 141)[26]? = some (49, .iastore, 0, 0, 0, 1, []) := by rw [kc141_eq]; rfl
theorem rw_141_27 : (codeOf 141)[27]? = some (50, .iload 2, 2, 0, 0, 1, []) := by rw [kc141_eq]; rfl
theorem rw_141_28 : (codeOf 141)[28]? = some (51, .ireturn, 1, 0, 0, 1, []) := by rw [kc141_eq]; rfl
theorem kc142_eq : codeOf 142 = kc142 := rfl
theorem hk_142 : 142 < 186 := by decide
theorem rw_142_0 : (codeOf 142)[0]? = some (0, .iload 1, 1, 0, 0, 1, []) := by rw [kc142_eq]; rfl
theorem rw_142_1 : (codeOf 142)[1]? = some (1, .iconst 0, 2147483648, 0, 0, 1, []) := by rw [kc142_eq]; rfl
theorem rw_142_2 : (codeOf 142)[2]? = some (2, .iconst 2, 2147483650, 0, 0, 1, []) := by rw [kc142_eq]; rfl
theorem rw_142_3 : (codeOf 142)[3]? = some (3, .invokestatic 58, 121, 0, 0, 3, []) := by rw [kc142_eq]; rfl
theorem rw_142_4 : (codeOf 142)[4]? = some (6, .ifCond .eq 32, 38, 19, 0, 3, []) := by rw [kc142_eq]; rfl
theorem rw_142_5 : (codeOf 142)[5]? = some (9, .iload 2, 2, 0, 0, 1, []) := by rw [kc142_eq]; rfl
theorem rw_142_6 : (codeOf 142)[6]? = some (10, .iconst 1, 2147483649, 0, 0, 1, []) := by rw [kc142_eq]; rfl
theorem rw_142_7 : (codeOf 142)[7]? = some (11, .iload 1, 1, 0, 0, 1, []) := by rw [kc142_eq]; rfl
theorem rw_142_8 : (codeOf 142)[8]? = some (12, .ifCond .ne 8, 20, 11, 0, 3, []) := by rw [kc142_eq]; rfl
theorem rw_142_9 : (codeOf 142)[9]? = some (15, .iconst 60, 2147483708, 0, 0, 2, []) := by rw [kc142_eq]; rfl
theorem rw_142_10 : (codeOf 142)[10]? = some (17, .goto 15, 32, 17, 0, 3, []) := by rw [kc142_eq]; rfl
theorem rw_142_11 : (codeOf 142)[11]? = some (20, .iload 1, 1, 0, 0, 1, []) := by rw [kc142_eq]; rfl
theorem rw_142_12 : (codeOf 142)[12]? = some (21, .iconst 1, 2147483649, 0, 0, 1, []) := by rw [kc142_eq]; rfl
theorem rw_142_13 : (codeOf 142)[13]? = some (22, .if_icmp .ne 8, 30, 16, 0, 3, []) := by rw [kc142_eq]; rfl
theorem rw_142_14 : (codeOf 142)[14]? = some (25, .iconst 8, 2147483656, 0, 0, 2, []) := by rw [kc142_eq]; rfl
theorem rw_142_15 : (codeOf 142)[15]? = some (27, .goto 5, 32, 17, 0, 3, []) := by rw [kc142_eq]; rfl
theorem rw_142_16 : (codeOf 142)[16]? = some (30, .iconst 30, 2147483678, 0, 0, 2, []) := by rw [kc142_eq]; rfl
theorem rw_142_17 : (codeOf 142)[17]? = some (32, .invokestatic 58, 121, 0, 0, 3, []) := by rw [kc142_eq]; rfl
theorem rw_142_18 : (codeOf 142)[18]? = some (35, .ifCond .ne 5, 40, 21, 0, 3, []) := by rw [kc142_eq]; rfl
theorem rw_142_19 : (codeOf 142)[19]? = some (38, .iconst (-1), 2147483647, 0, 0, 1, []) := by rw [kc142_eq]; rfl
theorem rw_142_20 : (codeOf 142)[20]? = some (39, .ireturn, 1, 0, 0, 1, []) := by rw [kc142_eq]; rfl
theorem rw_142_21 : (codeOf 142)[21]? = some (40, .aload 0, 0, 0, 3, 1, []) := by rw [kc142_eq]; rfl
theorem rw_142_22 : (codeOf 142)[22]? = some (41, .invokevirtual 83, 126, 0, 0, 3, []) := by rw [kc142_eq]; rfl
theorem rw_142_23 : (codeOf 142)[23]? = some (44, .aload 0, 0, 0, 3, 1, []) := by rw [kc142_eq]; rfl
theorem rw_142_24 : (codeOf 142)[24]? = some (45, .getfield 7, 9, 0, 3, 3, []) := by rw [kc142_eq]; rfl
theorem rw_142_25 : (codeOf 142)[25]? = some (48, .iconst 211, 2147483859, 0, 0, 3, []) := by rw [kc142_eq]; rfl
theorem rw_142_26 : (codeOf 142)[26]? = some (51, .iload 1, 1, 0, 0, 1, []) := by rw [kc142_eq]; rfl
theorem rw_142_27 : (codeOf 142)[27]? = some (52, .iadd, 0, 0, 0, 1, []) := by rw [kc142_eq]; rfl
theorem rw_142_28 : (codeOf 142)[28]? = some (53, .iaload, 0, 0, 0, 1, []) := by rw [kc142_eq]; rfl
theorem rw_142_29 : (codeOf 142)[29]? = some (54, .istore 3, 3, 0, 0, 1, []) := by rw [kc142_eq]; rfl
theorem rw_142_30 : (codeOf 142)[30]? = some (55, .aload 0, 0, 0, 3, 1, []) := by rw [kc142_eq]; rfl
theorem rw_142_31 : (codeOf 142)[31]? = some (56, .getfield 7, 9, 0, 3, 3, []) := by rw [kc142_eq]; rfl
theorem rw_142_32 : (codeOf 142)[32]? = some (59, .iconst 211, 2147483859, 0, 0, 3, []) := by rw [kc142_eq]; rfl
theorem rw_142_33 : (codeOf 142)[33]? = some (62, .iload 1, 1, 0, 0, 1, []) := by rw [kc142_eq]; rfl
theorem rw_142_34 : (codeOf 142)[34]? = some (63, .iadd, 0, 0, 0, 1, []) := by rw [kc142_eq]; rfl
theorem rw_142_35 : (codeOf 142)[35]? = some (64, .iload 2, 2, 0, 0, 1, []) := by rw [kc142_eq]; rfl
theorem rw_142_36 : (codeOf 142)[36]? = some (65, .iastore, 0, 0, 0, 1, []) := by rw [kc142_eq]; rfl
theorem rw_142_37 : (codeOf 142)[37]? = some (66, .iload 3, 3, 0, 0, 1, []) := by rw [kc142_eq]; rfl
theorem rw_142_38 : (codeOf 142)[38]? = some (67, .ireturn, 1, 0, 0, 1, []) := by rw [kc142_eq]; rfl
theorem kc182_eq : codeOf 182 = kc182 := rfl
theorem hk_182 : 182 < 186 := by decide
theorem rw_182_0 : (codeOf 182)[0]? = some (0, .aload 0, 0, 0, 3, 1, []) := by rw [kc182_eq]; rfl
theorem rw_182_1 : (codeOf 182)[1]? = some (1, .iload 1, 1, 0, 0, 1, []) := by rw [kc182_eq]; rfl
theorem rw_182_2 : (codeOf 182)[2]? = some (2, .invokevirtual 92, 133, 0, 0, 3, []) := by rw [kc182_eq]; rfl
theorem rw_182_3 : (codeOf 182)[3]? = some (5, .ifCond .eq 27, 32, 16, 0, 3, []) := by rw [kc182_eq]; rfl
theorem rw_182_4 : (codeOf 182)[4]? = some (8, .iload 2, 2, 0, 0, 1, []) := by rw [kc182_eq]; rfl
theorem rw_182_5 : (codeOf 182)[5]? = some (9, .iconst 1, 2147483649, 0, 0, 1, []) := by rw [kc182_eq]; rfl
theorem rw_182_6 : (codeOf 182)[6]? = some (10, .iconst 9, 2147483657, 0, 0, 2, []) := by rw [kc182_eq]; rfl
theorem rw_182_7 : (codeOf 182)[7]? = some (12, .invokestatic 58, 121, 0, 0, 3, []) := by rw [kc182_eq]; rfl
theorem rw_182_8 : (codeOf 182)[8]? = some (15, .ifCond .eq 17, 32, 16, 0, 3, []) := by rw [kc182_eq]; rfl
theorem rw_182_9 : (codeOf 182)[9]? = some (18, .iload 3, 3, 0, 0, 1, []) := by rw [kc182_eq]; rfl
theorem rw_182_10 : (codeOf 182)[10]? = some (19, .iconst (-9), 2147483639, 0, 0, 2, []) := by rw [kc182_eq]; rfl
theorem rw_182_11 : (codeOf 182)[11]? = some (21, .if_icmp .eq 13, 34, 18, 0, 3, []) := by rw [kc182_eq]; rfl
theorem rw_182_12 : (codeOf 182)[12]? = some (24, .aload 0, 0, 0, 3, 1, []) := by rw [kc182_eq]; rfl
theorem rw_182_13 : (codeOf 182)[13]? = some (25, .iload 3, 3, 0, 0, 1, []) := by rw [kc182_eq]; rfl
theorem rw_182_14 : (codeOf 182)[14]? = some (26, .invokevirtual 92, 133, 0, 0, 3, []) := by rw [kc182_eq]; rfl
theorem rw_182_15 : (codeOf 182)[15]? = some (29, .ifCond .ne 5, 34, 18, 0, 3, []) := by rw [kc182_eq]; rfl
theorem rw_182_16 : (codeOf 182)[16]? = some (32, .iconst (-1), 2147483647, 0, 0, 1, []) := by rw [kc182_eq]; rfl
theorem rw_182_17 : (codeOf 182)[17]? = some (33, .ireturn, 1, 0, 0, 1, []) := by rw [kc182_eq]; rfl
theorem rw_182_18 : (codeOf 182)[18]? = some (34, .aload 0, 0, 0, 3, 1, []) := by rw [kc182_eq]; rfl
theorem rw_182_19 : (codeOf 182)[19]? = some (35, .invokevirtual 89, 129, 0, 0, 3, []) := by rw [kc182_eq]; rfl
theorem rw_182_20 : (codeOf 182)[20]? = some (38, .iconst 10, 2147483658, 0, 0, 2, []) := by rw [kc182_eq]; rfl
theorem rw_182_21 : (codeOf 182)[21]? = some (40, .if_icmp .ne 6, 46, 24, 0, 3, []) := by rw [kc182_eq]; rfl
theorem rw_182_22 : (codeOf 182)[22]? = some (43, .iconst (-3), 2147483645, 0, 0, 2, []) := by rw [kc182_eq]; rfl
theorem rw_182_23 : (codeOf 182)[23]? = some (45, .ireturn, 1, 0, 0, 1, []) := by rw [kc182_eq]; rfl
theorem rw_182_24 : (codeOf 182)[24]? = some (46, .aload 0, 0, 0, 3, 1, []) := by rw [kc182_eq]; rfl
theorem rw_182_25 : (codeOf 182)[25]? = some (47, .iconst 0, 2147483648, 0, 0, 1, []) := by rw [kc182_eq]; rfl
theorem rw_182_26 : (codeOf 182)[26]? = some (48, .iconst 6, 2147483654, 0, 0, 2, []) := by rw [kc182_eq]; rfl
theorem rw_182_27 : (codeOf 182)[27]? = some (50, .monitorenter, 127, 0, 0, 3, []) := by rw [kc182_eq]; rfl
theorem rw_182_28 : (codeOf 182)[28]? = some (53, .aload 0, 0, 0, 3, 1, []) := by rw [kc182_eq]; rfl
theorem rw_182_29 : (codeOf 182)[29]? = some (54, .iload 1, 1, 0, 0, 1, []) := by rw [kc182_eq]; rfl
theorem rw_182_30 : (codeOf 182)[30]? = some (55, .iload 2, 2, 0, 0, 1, []) := by rw [kc182_eq]; rfl
theorem rw_182_31 : (codeOf 182)[31]? = some (56, .invokevirtual 86, 128, 0, 0, 3, []) := by rw [kc182_eq]; rfl
theorem rw_182_32 : (codeOf 182)[32]? = some (59, .istore 4, 4, 0, 0, 2, []) := by rw [kc182_eq]; rfl
theorem rw_182_33 : (codeOf 182)[33]? = some (61, .aload 0, 0, 0, 3, 1, []) := by rw [kc182_eq]; rfl
theorem rw_182_34 : (codeOf 182)[34]? = some (62, .invokevirtual 160, 161, 0, 0, 3, []) := by rw [kc182_eq]; rfl
theorem rw_182_35 : (codeOf 182)[35]? = some (65, .aload 0, 0, 0, 3, 1, []) := by rw [kc182_eq]; rfl
theorem rw_182_36 : (codeOf 182)[36]? = some (66, .getfield 32, 9, 10, 3, 3, []) := by rw [kc182_eq]; rfl
theorem rw_182_37 : (codeOf 182)[37]? = some (69, .iload 3, 3, 0, 0, 1, []) := by rw [kc182_eq]; rfl
theorem rw_182_38 : (codeOf 182)[38]? = some (70, .iconst (-9), 2147483639, 0, 0, 2, []) := by rw [kc182_eq]; rfl
theorem rw_182_39 : (codeOf 182)[39]? = some (72, .if_icmp .ne 8, 80, 42, 0, 3, []) := by rw [kc182_eq]; rfl
theorem rw_182_40 : (codeOf 182)[40]? = some (75, .iload 4, 4, 0, 0, 2, []) := by rw [kc182_eq]; rfl
theorem rw_182_41 : (codeOf 182)[41]? = some (77, .goto 4, 81, 43, 0, 3, []) := by rw [kc182_eq]; rfl
theorem rw_182_42 : (codeOf 182)[42]? = some (80, .iload 3, 3, 0, 0, 1, []) := by rw [kc182_eq]; rfl
theorem rw_182_43 : (codeOf 182)[43]? = some (81, .iaload, 0, 0, 0, 1, []) := by rw [kc182_eq]; rfl
theorem rw_182_44 : (codeOf 182)[44]? = some (82, .istore 5, 5, 0, 0, 2, []) := by rw [kc182_eq]; rfl
theorem rw_182_45 : (codeOf 182)[45]? = some (84, .aload 0, 0, 0, 3, 1, []) := by rw [kc182_eq]; rfl
theorem rw_182_46 : (codeOf 182)[46]? = some (85, .iconst 6, 2147483654, 0, 0, 2, []) := by rw [kc182_eq]; rfl
theorem rw_182_47 : (codeOf 182)[47]? = some (87, .iconst 0, 2147483648, 0, 0, 1, []) := by rw [kc182_eq]; rfl
theorem rw_182_48 : (codeOf 182)[48]? = some (88, .monitorenter, 127, 0, 0, 3, []) := by rw [kc182_eq]; rfl
theorem rw_182_49 : (codeOf 182)[49]? = some (91, .iload 5, 5, 0, 0, 2, []) := by rw [kc182_eq]; rfl
theorem rw_182_50 : (codeOf 182)[50]? = some (93, .ireturn, 1, 0, 0, 1, []) := by rw [kc182_eq]; rfl
section MP
variable {d k j : Nat} {lv : List (Option Value)} {st : List Value} {ph : PH} {Q : Option Value → PH → Prop} {B : PH} {p : Nat → Int32} {a : Nat → Nat → Int32} {z : Nat → Int32}
theorem FF.congr {p q : Nat → Int32} {c : Nat} (h : FF p c) (e : ∀ i, i < 2000 → q i = p i) : FF q c := by
  obtain ⟨h1, h2, h3⟩ := h
  exact ⟨h1, fun i hi => (e _ (by omega)).trans (h2 i hi), fun hc z => h3 hc ((e _ (by omega)).symm.trans z)⟩
theorem FF.pos {T : Nat} {p : Nat → Int32} {c : Nat} (h : FF p c) (hP : PageOK T p) : 1 ≤ c := by
  by_cases e : c = 0
  · subst e
    exact absurd hP.1.2.2.1 (h.2.2 (by omega))
  · omega
theorem Ops.hi {p q : Nat → Int32} {c e : Nat} {w : Int} (h : Ops p q c e w) (hc : c < 10) (he : e < 10) : ∀ i, 2000 ≤ i → q i = p i := fun i hi => h.2.2.2.2.2.2 i (by omega) (by omega) (by omega)
theorem Cls.hi {p q : Nat → Int32} {c e : Nat} (h : Cls p q c e) (hc : c < 10) : ∀ i, 2000 ≤ i → q i = p i := fun i hi => h.1 i (fun b hb => by omega) (by omega)
/-- a page after a change of page 0 alone -/
theorem pub_hi {T r : Nat} {q q2 z z1 : Nat → Int32} {x : Int32} (hr : r ≤ 5) (hz : z1 0 = iv (r : Int)) (hP : PIn T q r) (h0 : PageOK T q2) (hH : ∀ i, 2000 ≤ i → q2 i = q i) (hZ : ∀ i, i ≠ 0 → z1 i = z i) : PubQ B T a z (some (.int x)) (mh B q2 a z1) :=
  ⟨q2, a, z1, rfl, ⟨_, rfl⟩, MInv_hi hr hz hP (h0.up (by omega)) (by omega) hH, hZ, K4.id a⟩
theorem PageOK.wt {T : Nat} {p : Nat → Int32} {c : Nat} {w : Int} (h : PageOK T p) (hc : c < 10) (h1 : 1 ≤ w) (h9 : w ≤ 9) : PageOK T (upd p (21 * c + 3) (iv w)) := by
  obtain ⟨⟨a1, a2, a3⟩, a4⟩ := h
  refine ⟨⟨fun b hb => ?_, ?_, a3.of_eq (fun b hb => ⟨uq_ne (by omega), uq_ne (by omega)⟩)⟩, a4.of_eq (uq_ne (by omega)) (uq_ne (by omega)) (fun b hb => uq_ne (by omega)) (fun i _ _ => uq_ne (by omega))⟩
  · obtain ⟨b1, b2, b3, b4⟩ := a1 b hb
    have h3 : rg p (21 * b + 3) 0 9 → rg (upd p (21 * c + 3) (iv w)) (21 * b + 3) 0 9 := fun h => by
      by_cases e : b = c
      · subst e
        exact ⟨w, uq_eq, by omega, by omega⟩
      · exact h.of_eq (uq_ne (by omega))
    refine ⟨b1.of_eq (uq_ne (by omega)), h3 b2, b3.of_eq (uq_ne (by omega)), fun ho => ?_⟩
    obtain ⟨c1, c2⟩ := b4 (by rw [← ho, uq_ne (by omega)])
    refine ⟨?_, c2.of_eq (uq_ne (by omega))⟩
    by_cases e : b = c
    · subst e
      exact ⟨w, uq_eq, by omega, by omega⟩
    · exact c1.of_eq (uq_ne (by omega))
  · obtain ⟨b1, b2, b3, b4, b5, b6⟩ := a2
    exact ⟨b1.of_eq (uq_ne (by omega)), b2.of_eq (uq_ne (by omega)), b3.of_eq (uq_ne (by omega)), b4.of_eq (uq_ne (by omega)), b5.of_eq (uq_ne (by omega)), b6.of_eq (uq_ne (by omega))⟩
theorem PageOK.li {T : Nat} {p : Nat → Int32} {i : Nat} {v : Int} (h : PageOK T p) (hi : (i = 211 ∧ 1 ≤ v ∧ v ≤ 60) ∨ (i = 212 ∧ 1 ≤ v ∧ v ≤ 8) ∨ (i = 213 ∧ 1 ≤ v ∧ v ≤ 30)) : PageOK T (upd p i (iv v)) := by
  obtain ⟨⟨a1, a2, a3⟩, a4⟩ := h
  refine ⟨⟨fun b hb => ?_, ?_, a3.of_eq (fun b hb => ⟨uq_ne (by omega), uq_ne (by omega)⟩)⟩, a4.of_eq (uq_ne (by omega)) (uq_ne (by omega)) (fun b hb => uq_ne (by omega)) (fun i _ _ => uq_ne (by omega))⟩
  · obtain ⟨b1, b2, b3, b4⟩ := a1 b hb
    refine ⟨b1.of_eq (uq_ne (by omega)), b2.of_eq (uq_ne (by omega)), b3.of_eq (uq_ne (by omega)), fun ho => ?_⟩
    obtain ⟨c1, c2⟩ := b4 (by rw [← ho, uq_ne (by omega)])
    exact ⟨c1.of_eq (uq_ne (by omega)), c2.of_eq (uq_ne (by omega))⟩
  · obtain ⟨b1, b2, b3, b4, b5, b6⟩ := a2
    refine ⟨b1.of_eq (uq_ne (by omega)), ?_, ?_, ?_, b5.of_eq (uq_ne (by omega)), b6.of_eq (uq_ne (by omega))⟩
    · by_cases e : i = 211
      · subst e
        exact ⟨v, uq_eq, by omega, by omega⟩
      · exact b2.of_eq (uq_ne (fun z => e z.symm))
    · by_cases e : i = 212
      · subst e
        exact ⟨v, uq_eq, by omega, by omega⟩
      · exact b3.of_eq (uq_ne (fun z => e z.symm))
    · by_cases e : i = 213
      · subst e
        exact ⟨v, uq_eq, by omega, by omega⟩
      · exact b4.of_eq (uq_ne (fun z => e z.symm))
theorem open_ok (d : Nat) (hB : 87 ≤ B.length) {T : Nat} {x y : Int} (hx : inR x) (hy : inR y) (hM : MInv T p z) : ZC (d + 3) 132 [.ref 75, .int (iv x), .int (iv y)] (mh B p a z) (PubQ B T a z) := by
  obtain ⟨r, hr, hz, hP⟩ := hM
  have hP0 := sl0.mp (hP 0 (Nat.zero_le _))
  refine ZC.of (lv := [some (.ref 75), some (.int (iv (x))), some (.int (iv (y)))]) hk_132 (fun i v hv => ?_) ?_
  · match i, hv with
    | 0, hv => cases hv; rfl
    | 1, hv => cases hv; rfl
    | 2, hv => cases hv; rfl
    | i + 3, hv => simp at hv
  refine zr_aload hk_132 rw_132_0 rfl ?_
  refine zr_iload hk_132 rw_132_1 rfl ?_
  refine c_isOpen hk_132 hB rw_132_2 (by first | assumption | (unfold inR; omega)) (Nat.le_of_ble_eq_true rfl) (fun h2c => ?_) (fun h2c => ?_)
  · obtain ⟨nx, rfl, nxle, nxo⟩ := h2c
    refine zi_if_eq hk_132 rw_132_3 (by unfold inR; omega) (fun h => absurd h (by decide)) (fun _ => ?_)
    refine zr_iload hk_132 rw_132_4 rfl ?_
    refine zi_const hk_132 rw_132_5 (c := 1) rfl ?_
    refine zi_const hk_132 rw_132_6 (c := 9) rfl ?_
    refine c_in hk_132 hB rw_132_7 (by first | assumption | (unfold inR; omega)) (by first | assumption | (unfold inR; omega)) (by first | assumption | (unfold inR; omega)) (Nat.le_of_ble_eq_true rfl) (fun h7c => ?_) (fun h7c => ?_)
    · refine zi_if_ne hk_132 rw_132_8 (by unfold inR; omega) (fun _ => ?_) (fun h => absurd h (by decide))
      refine zr_aload hk_132 rw_132_11 rfl ?_
      refine c_firstFree hk_132 hB rw_132_12 (Nat.le_of_ble_eq_true rfl) (fun c hff => ?_)
      have hc10 := hff.1
      refine zi_const hk_132 rw_132_13 (c := 10) rfl ?_
      refine zi_icmp_ne hk_132 rw_132_14 (by first | assumption | (unfold inR; omega)) (by first | assumption | (unfold inR; omega)) (fun h14 => ?_) (fun h14 => ?_)
      · refine zr_aload hk_132 rw_132_17 rfl ?_
        refine c_records hk_132 hB rw_132_18 hr hz hP (Nat.le_of_ble_eq_true rfl) (fun q z1 r1 hr1 hz1 hP1 hL hZ => ?_)
        have hQ0 := sl0.mp (hP1 0 (Nat.zero_le _))
        refine zr_aload hk_132 rw_132_19 rfl ?_
        refine zr_iload hk_132 rw_132_20 rfl ?_
        refine zr_iload hk_132 rw_132_21 rfl ?_
        have hwe := (hQ0.1.1 nx (by omega)).2.2.2 ((hL _ (by omega)).trans nxo)
        refine c_opens hk_132 hB rw_132_22 nx (hff.congr hL) (by omega) (by omega) ((hL _ (by omega)).trans nxo) hwe.1 (by omega) (by omega) (Nat.le_of_ble_eq_true rfl) (fun q2 hO => ?_)
        refine zr_ireturn hk_132 rw_132_23 ?_
        exact pub_hi hr1 hz1 hP1 (hO.ok hQ0 (FF.pos hff hP0) (by omega) (by omega) ((hL _ (by omega)).trans nxo) (fun e => hff.2.2 (by omega) ((hL _ (by omega)).symm.trans e)) (by omega) (by omega)) (hO.hi (by omega) (by omega)) hZ
      · refine zi_const hk_132 rw_132_15 (c := -3) rfl ?_
        refine zr_ireturn hk_132 rw_132_16 ?_
        exact MInv.same ⟨r, hr, hz, hP⟩
    · refine zi_if_ne hk_132 rw_132_8 (by unfold inR; omega) (fun h => absurd h (by decide)) (fun _ => ?_)
      refine zi_const hk_132 rw_132_9 (c := -1) rfl ?_
      refine zr_ireturn hk_132 rw_132_10 ?_
      exact MInv.same ⟨r, hr, hz, hP⟩
  · refine zi_if_eq hk_132 rw_132_3 (by unfold inR; omega) (fun _ => ?_) (fun h => absurd h (by decide))
    refine zi_const hk_132 rw_132_9 (c := -1) rfl ?_
    refine zr_ireturn hk_132 rw_132_10 ?_
    exact MInv.same ⟨r, hr, hz, hP⟩
theorem close_ok (d : Nat) (hB : 87 ≤ B.length) {T : Nat} {x : Int} (hx : inR x) (hM : MInv T p z) : ZC (d + 3) 134 [.ref 75, .int (iv x)] (mh B p a z) (PubQ B T a z) := by
  obtain ⟨r, hr, hz, hP⟩ := hM
  have hP0 := sl0.mp (hP 0 (Nat.zero_le _))
  obtain ⟨F, hF, hF2⟩ := hP0.1.2.1.2.2.2.2.1.nat
  have hF2 : F ≤ 200 := by omega
  refine ZC.of (lv := [some (.ref 75), some (.int (iv (x)))]) hk_134 (fun i v hv => ?_) ?_
  · match i, hv with
    | 0, hv => cases hv; rfl
    | 1, hv => cases hv; rfl
    | i + 2, hv => simp at hv
  refine zr_iload hk_134 rw_134_0 rfl ?_
  refine zi_const hk_134 rw_134_1 (c := 1) rfl ?_
  refine zi_icmp_lt hk_134 rw_134_2 (by first | assumption | (unfold inR; omega)) (by first | assumption | (unfold inR; omega)) (fun h2 => ?_) (fun h2 => ?_)
  · refine zi_const hk_134 rw_134_7 (c := -1) rfl ?_
    refine zr_ireturn hk_134 rw_134_8 ?_
    exact MInv.same ⟨r, hr, hz, hP⟩
  · refine zr_aload hk_134 rw_134_3 rfl ?_
    refine zr_iload hk_134 rw_134_4 rfl ?_
    refine c_isOpen hk_134 hB rw_134_5 (by first | assumption | (unfold inR; omega)) (Nat.le_of_ble_eq_true rfl) (fun h5c => ?_) (fun h5c => ?_)
    · obtain ⟨nx, rfl, nxle, nxo⟩ := h5c
      refine zi_if_ne hk_134 rw_134_6 (by unfold inR; omega) (fun _ => ?_) (fun h => absurd h (by decide))
      refine zr_aload hk_134 rw_134_9 rfl ?_
      refine zr_iload hk_134 rw_134_10 rfl ?_
      refine c_flightOf hk_134 hB rw_134_11 hF hF2 (Nat.le_of_ble_eq_true rfl) (fun x11 => ?_)
      refine zo_if_le hk_134 rw_134_12 (fun h12 => ?_) (fun h12 => ?_)
      · refine zr_aload hk_134 rw_134_15 rfl ?_
        refine c_records hk_134 hB rw_134_16 hr hz hP (Nat.le_of_ble_eq_true rfl) (fun q z1 r1 hr1 hz1 hP1 hL hZ => ?_)
        have hQ0 := sl0.mp (hP1 0 (Nat.zero_le _))
        refine zr_aload hk_134 rw_134_17 rfl ?_
        refine zr_iload hk_134 rw_134_18 rfl ?_
        refine zi_const hk_134 rw_134_19 (c := 2) rfl ?_
        have hco := (hL _ (by omega)).trans nxo
        obtain ⟨rk, hrk⟩ := hQ0.1.2.2.2.2
        obtain ⟨e, he, hce, -, -⟩ := hrk nx (by omega) (by omega) hco
        refine c_ofE hk_134 hB rw_134_20 (21 * nx + 2) (by omega) (by omega) hce (Nat.le_of_ble_eq_true rfl) ?_
        refine zi_istore hk_134 rw_134_21 rfl (lv' := [some (.ref 75), some (.int (iv ((nx : Int)))), some (.int (iv ((e : Int))))]) rfl ?_
        refine zr_aload hk_134 rw_134_22 rfl ?_
        refine zr_iload hk_134 rw_134_23 rfl ?_
        refine zr_iload hk_134 rw_134_24 rfl ?_
        refine c_closes hk_134 hB rw_134_25 (by omega) he hQ0.1.1 (Nat.le_of_ble_eq_true rfl) (fun q2 s2 hS hC => ?_)
        refine zr_iload hk_134 rw_134_26 rfl ?_
        refine zr_ireturn hk_134 rw_134_27 ?_
        exact pub_hi hr1 hz1 hP1 (hC.ok (hQ0.soft hS) (by omega) (by omega) he ((hS.2 nx (by omega)).1.trans hco) ((hS.2 nx (by omega)).2.1.trans hce)) (fun i hi => (hC.hi (by omega) i hi).trans (hS.1 i (by omega))) hZ
      · refine zi_const hk_134 rw_134_13 (c := -2) rfl ?_
        refine zr_ireturn hk_134 rw_134_14 ?_
        exact MInv.same ⟨r, hr, hz, hP⟩
    · refine zi_if_ne hk_134 rw_134_6 (by unfold inR; omega) (fun h => absurd h (by decide)) (fun _ => ?_)
      refine zi_const hk_134 rw_134_7 (c := -1) rfl ?_
      refine zr_ireturn hk_134 rw_134_8 ?_
      exact MInv.same ⟨r, hr, hz, hP⟩
theorem give_ok (d : Nat) (hB : 87 ≤ B.length) {T : Nat} {x y : Int} (hx : inR x) (hy : inR y) (hM : MInv T p z) : ZC (d + 2) 139 [.ref 75, .int (iv x), .int (iv y)] (mh B p a z) (PubQ B T a z) := by
  obtain ⟨r, hr, hz, hP⟩ := hM
  have hP0 := sl0.mp (hP 0 (Nat.zero_le _))
  refine ZC.of (lv := [some (.ref 75), some (.int (iv (x))), some (.int (iv (y)))]) hk_139 (fun i v hv => ?_) ?_
  · match i, hv with
    | 0, hv => cases hv; rfl
    | 1, hv => cases hv; rfl
    | 2, hv => cases hv; rfl
    | i + 3, hv => simp at hv
  refine zr_aload hk_139 rw_139_0 rfl ?_
  refine zr_iload hk_139 rw_139_1 rfl ?_
  refine c_isOpen hk_139 hB rw_139_2 (by first | assumption | (unfold inR; omega)) (Nat.le_of_ble_eq_true rfl) (fun h2c => ?_) (fun h2c => ?_)
  · obtain ⟨nx, rfl, nxle, nxo⟩ := h2c
    refine zi_if_eq hk_139 rw_139_3 (by unfold inR; omega) (fun h => absurd h (by decide)) (fun _ => ?_)
    refine zr_iload hk_139 rw_139_4 rfl ?_
    refine zi_const hk_139 rw_139_5 (c := 1) rfl ?_
    refine zi_const hk_139 rw_139_6 (c := 500) rfl ?_
    refine c_in hk_139 hB rw_139_7 (by first | assumption | (unfold inR; omega)) (by first | assumption | (unfold inR; omega)) (by first | assumption | (unfold inR; omega)) (Nat.le_of_ble_eq_true rfl) (fun h7c => ?_) (fun h7c => ?_)
    · refine zi_if_ne hk_139 rw_139_8 (by unfold inR; omega) (fun _ => ?_) (fun h => absurd h (by decide))
      refine zr_aload hk_139 rw_139_11 rfl ?_
      refine zr_iload hk_139 rw_139_12 rfl ?_
      refine zi_const hk_139 rw_139_13 (c := 4) rfl ?_
      refine c_of hk_139 hB rw_139_14 (21 * nx + 4) (by omega) (by omega) (Nat.le_of_ble_eq_true rfl) ?_
      refine zr_iload hk_139 rw_139_15 rfl ?_
      refine zr_iadd hk_139 rw_139_16 ?_
      refine zi_const hk_139 rw_139_17 (c := 9999) rfl ?_
      refine zo_icmp_le hk_139 rw_139_18 (fun h18 => ?_) (fun h18 => ?_)
      · refine zr_aload hk_139 rw_139_21 rfl ?_
        refine c_records hk_139 hB rw_139_22 hr hz hP (Nat.le_of_ble_eq_true rfl) (fun q z1 r1 hr1 hz1 hP1 hL hZ => ?_)
        have hQ0 := sl0.mp (hP1 0 (Nat.zero_le _))
        refine zr_aload hk_139 rw_139_23 rfl ?_
        refine zr_iload hk_139 rw_139_24 rfl ?_
        refine zi_const hk_139 rw_139_25 (c := 4) rfl ?_
        refine zr_aload hk_139 rw_139_26 rfl ?_
        refine zr_iload hk_139 rw_139_27 rfl ?_
        refine zi_const hk_139 rw_139_28 (c := 4) rfl ?_
        refine c_of hk_139 hB rw_139_29 (21 * nx + 4) (by omega) (by omega) (Nat.le_of_ble_eq_true rfl) ?_
        refine zr_iload hk_139 rw_139_30 rfl ?_
        refine zr_iadd hk_139 rw_139_31 ?_
        refine c_put hk_139 hB rw_139_32 (21 * nx + 4) (by omega) (by omega) (Nat.le_of_ble_eq_true rfl) ?_
        refine zr_aload hk_139 rw_139_33 rfl ?_
        refine zr_iload hk_139 rw_139_34 rfl ?_
        refine zi_const hk_139 rw_139_35 (c := 4) rfl ?_
        refine c_of hk_139 hB rw_139_36 (21 * nx + 4) (by omega) (by omega) (Nat.le_of_ble_eq_true rfl) ?_
        refine zr_ireturn hk_139 rw_139_37 ?_
        exact pub_hi hr1 hz1 hP1 (hQ0.soft (Soft.upd (by omega) (by omega) (by omega) (fun e => absurd e (by decide)) (fun e => absurd e (by decide)))) (fun i hi => uq_ne (by omega)) hZ
      · refine zi_const hk_139 rw_139_19 (c := -3) rfl ?_
        refine zr_ireturn hk_139 rw_139_20 ?_
        exact MInv.same ⟨r, hr, hz, hP⟩
    · refine zi_if_ne hk_139 rw_139_8 (by unfold inR; omega) (fun h => absurd h (by decide)) (fun _ => ?_)
      refine zi_const hk_139 rw_139_9 (c := -1) rfl ?_
      refine zr_ireturn hk_139 rw_139_10 ?_
      exact MInv.same ⟨r, hr, hz, hP⟩
  · refine zi_if_eq hk_139 rw_139_3 (by unfold inR; omega) (fun _ => ?_) (fun h => absurd h (by decide))
    refine zi_const hk_139 rw_139_9 (c := -1) rfl ?_
    refine zr_ireturn hk_139 rw_139_10 ?_
    exact MInv.same ⟨r, hr, hz, hP⟩
theorem setWeight_ok (d : Nat) (hB : 87 ≤ B.length) {T : Nat} {x y : Int} (hx : inR x) (hy : inR y) (hM : MInv T p z) : ZC (d + 2) 140 [.ref 75, .int (iv x), .int (iv y)] (mh B p a z) (PubQ B T a z) := by
  obtain ⟨r, hr, hz, hP⟩ := hM
  have hP0 := sl0.mp (hP 0 (Nat.zero_le _))
  refine ZC.of (lv := [some (.ref 75), some (.int (iv (x))), some (.int (iv (y)))]) hk_140 (fun i v hv => ?_) ?_
  · match i, hv with
    | 0, hv => cases hv; rfl
    | 1, hv => cases hv; rfl
    | 2, hv => cases hv; rfl
    | i + 3, hv => simp at hv
  refine zr_aload hk_140 rw_140_0 rfl ?_
  refine zr_iload hk_140 rw_140_1 rfl ?_
  refine c_isOpen hk_140 hB rw_140_2 (by first | assumption | (unfold inR; omega)) (Nat.le_of_ble_eq_true rfl) (fun h2c => ?_) (fun h2c => ?_)
  · obtain ⟨nx, rfl, nxle, nxo⟩ := h2c
    refine zi_if_eq hk_140 rw_140_3 (by unfold inR; omega) (fun h => absurd h (by decide)) (fun _ => ?_)
    refine zr_iload hk_140 rw_140_4 rfl ?_
    refine zi_const hk_140 rw_140_5 (c := 1) rfl ?_
    refine zi_const hk_140 rw_140_6 (c := 9) rfl ?_
    refine c_in hk_140 hB rw_140_7 (by first | assumption | (unfold inR; omega)) (by first | assumption | (unfold inR; omega)) (by first | assumption | (unfold inR; omega)) (Nat.le_of_ble_eq_true rfl) (fun h7c => ?_) (fun h7c => ?_)
    · refine zi_if_ne hk_140 rw_140_8 (by unfold inR; omega) (fun _ => ?_) (fun h => absurd h (by decide))
      refine zr_aload hk_140 rw_140_11 rfl ?_
      refine c_records hk_140 hB rw_140_12 hr hz hP (Nat.le_of_ble_eq_true rfl) (fun q z1 r1 hr1 hz1 hP1 hL hZ => ?_)
      have hQ0 := sl0.mp (hP1 0 (Nat.zero_le _))
      refine zr_aload hk_140 rw_140_13 rfl ?_
      refine zr_iload hk_140 rw_140_14 rfl ?_
      refine zi_const hk_140 rw_140_15 (c := 3) rfl ?_
      refine c_of hk_140 hB rw_140_16 (21 * nx + 3) (by omega) (by omega) (Nat.le_of_ble_eq_true rfl) ?_
      refine zi_istore hk_140 rw_140_17 rfl (lv' := [some (.ref 75), some (.int (iv ((nx : Int)))), some (.int (iv (y))), some (.int (_))]) rfl ?_
      refine zr_aload hk_140 rw_140_18 rfl ?_
      refine zr_iload hk_140 rw_140_19 rfl ?_
      refine zi_const hk_140 rw_140_20 (c := 3) rfl ?_
      refine zr_iload hk_140 rw_140_21 rfl ?_
      refine c_put hk_140 hB rw_140_22 (21 * nx + 3) (by omega) (by omega) (Nat.le_of_ble_eq_true rfl) ?_
      refine zr_iload hk_140 rw_140_23 rfl ?_
      refine zr_ireturn hk_140 rw_140_24 ?_
      exact pub_hi hr1 hz1 hP1 (hQ0.wt (by omega) (by omega) (by omega)) (fun i hi => uq_ne (by omega)) hZ
    · refine zi_if_ne hk_140 rw_140_8 (by unfold inR; omega) (fun h => absurd h (by decide)) (fun _ => ?_)
      refine zi_const hk_140 rw_140_9 (c := -1) rfl ?_
      refine zr_ireturn hk_140 rw_140_10 ?_
      exact MInv.same ⟨r, hr, hz, hP⟩
  · refine zi_if_eq hk_140 rw_140_3 (by unfold inR; omega) (fun _ => ?_) (fun h => absurd h (by decide))
    refine zi_const hk_140 rw_140_9 (c := -1) rfl ?_
    refine zr_ireturn hk_140 rw_140_10 ?_
    exact MInv.same ⟨r, hr, hz, hP⟩
theorem setBudget_ok (d : Nat) (hB : 87 ≤ B.length) {T : Nat} {x : Int} (hx : inR x) (hM : MInv T p z) : ZC (d + 2) 141 [.ref 75, .int (iv x)] (mh B p a z) (PubQ B T a z) := by
  obtain ⟨r, hr, hz, hP⟩ := hM
  have hP0 := sl0.mp (hP 0 (Nat.zero_le _))
  refine ZC.of (lv := [some (.ref 75), some (.int (iv (x)))]) hk_141 (fun i v hv => ?_) ?_
  · match i, hv with
    | 0, hv => cases hv; rfl
    | 1, hv => cases hv; rfl
    | i + 2, hv => simp at hv
  refine zr_iload hk_141 rw_141_0 rfl ?_
  refine zi_const hk_141 rw_141_1 (c := 1) rfl ?_
  refine zi_const hk_141 rw_141_2 (c := 200) rfl ?_
  refine c_in hk_141 hB rw_141_3 (by first | assumption | (unfold inR; omega)) (by first | assumption | (unfold inR; omega)) (by first | assumption | (unfold inR; omega)) (Nat.le_of_ble_eq_true rfl) (fun h3c => ?_) (fun h3c => ?_)
  · refine zi_if_ne hk_141 rw_141_4 (by unfold inR; omega) (fun _ => ?_) (fun h => absurd h (by decide))
    refine zr_aload hk_141 rw_141_7 rfl ?_
    refine mz_getf hk_141 hB rw_141_8 rfl ?_
    refine zi_const hk_141 rw_141_9 (c := 217) rfl ?_
    refine mz_pld hk_141 hB rw_141_10 (217) (by omega) (by omega) ?_
    refine zr_iload hk_141 rw_141_11 rfl ?_
    refine zo_icmp_le hk_141 rw_141_12 (fun h12 => ?_) (fun h12 => ?_)
    · refine zr_aload hk_141 rw_141_15 rfl ?_
      refine c_records hk_141 hB rw_141_16 hr hz hP (Nat.le_of_ble_eq_true rfl) (fun q z1 r1 hr1 hz1 hP1 hL hZ => ?_)
      have hQ0 := sl0.mp (hP1 0 (Nat.zero_le _))
      refine zr_aload hk_141 rw_141_17 rfl ?_
      refine mz_getf hk_141 hB rw_141_18 rfl ?_
      refine zi_const hk_141 rw_141_19 (c := 210) rfl ?_
      refine mz_pld hk_141 hB rw_141_20 (210) (by omega) (by omega) ?_
      refine zi_istore hk_141 rw_141_21 rfl (lv' := [some (.ref 75), some (.int (iv (x))), some (.int (_))]) rfl ?_
      refine zr_aload hk_141 rw_141_22 rfl ?_
      refine mz_getf hk_141 hB rw_141_23 rfl ?_
      refine zi_const hk_141 rw_141_24 (c := 210) rfl ?_
      refine zr_iload hk_141 rw_141_25 rfl ?_
      refine mz_pst hk_141 hB rw_141_26 (210) (by omega) (by omega) ?_
      refine zr_iload hk_141 rw_141_27 rfl ?_
      refine zr_ireturn hk_141 rw_141_28 ?_
      exact pub_hi hr1 hz1 hP1 (hQ0.bud (by omega) (by omega)) (fun i hi => uq_ne (by omega)) hZ
    · refine zi_const hk_141 rw_141_13 (c := -2) rfl ?_
      refine zr_ireturn hk_141 rw_141_14 ?_
      exact MInv.same ⟨r, hr, hz, hP⟩
  · refine zi_if_ne hk_141 rw_141_4 (by unfold inR; omega) (fun h => absurd h (by decide)) (fun _ => ?_)
    refine zi_const hk_141 rw_141_5 (c := -1) rfl ?_
    refine zr_ireturn hk_141 rw_141_6 ?_
    exact MInv.same ⟨r, hr, hz, hP⟩
theorem setLink_ok (d : Nat) (hB : 87 ≤ B.length) {T : Nat} {x y : Int} (hx : inR x) (hy : inR y) (hM : MInv T p z) : ZC (d + 2) 142 [.ref 75, .int (iv x), .int (iv y)] (mh B p a z) (PubQ B T a z) := by
  obtain ⟨r, hr, hz, hP⟩ := hM
  have hP0 := sl0.mp (hP 0 (Nat.zero_le _))
  refine ZC.of (lv := [some (.ref 75), some (.int (iv (x))), some (.int (iv (y)))]) hk_142 (fun i v hv => ?_) ?_
  · match i, hv with
    | 0, hv => cases hv; rfl
    | 1, hv => cases hv; rfl
    | 2, hv => cases hv; rfl
    | i + 3, hv => simp at hv
  refine zr_iload hk_142 rw_142_0 rfl ?_
  refine zi_const hk_142 rw_142_1 (c := 0) rfl ?_
  refine zi_const hk_142 rw_142_2 (c := 2) rfl ?_
  refine c_in hk_142 hB rw_142_3 (by first | assumption | (unfold inR; omega)) (by first | assumption | (unfold inR; omega)) (by first | assumption | (unfold inR; omega)) (Nat.le_of_ble_eq_true rfl) (fun h3c => ?_) (fun h3c => ?_)
  · refine zi_if_eq hk_142 rw_142_4 (by unfold inR; omega) (fun h => absurd h (by decide)) (fun _ => ?_)
    refine zr_iload hk_142 rw_142_5 rfl ?_
    refine zi_const hk_142 rw_142_6 (c := 1) rfl ?_
    refine zr_iload hk_142 rw_142_7 rfl ?_
    refine zi_if_ne hk_142 rw_142_8 (by first | assumption | (unfold inR; omega)) (fun h8 => ?_) (fun h8 => ?_)
    · refine zr_iload hk_142 rw_142_11 rfl ?_
      refine zi_const hk_142 rw_142_12 (c := 1) rfl ?_
      refine zi_icmp_ne hk_142 rw_142_13 (by first | assumption | (unfold inR; omega)) (by first | assumption | (unfold inR; omega)) (fun h13 => ?_) (fun h13 => ?_)
      · refine zi_const hk_142 rw_142_16 (c := 30) rfl ?_
        refine c_in hk_142 hB rw_142_17 (by first | assumption | (unfold inR; omega)) (by first | assumption | (unfold inR; omega)) (by first | assumption | (unfold inR; omega)) (Nat.le_of_ble_eq_true rfl) (fun h17c => ?_) (fun h17c => ?_)
        · refine zi_if_ne hk_142 rw_142_18 (by unfold inR; omega) (fun _ => ?_) (fun h => absurd h (by decide))
          refine zr_aload hk_142 rw_142_21 rfl ?_
          refine c_records hk_142 hB rw_142_22 hr hz hP (Nat.le_of_ble_eq_true rfl) (fun q z1 r1 hr1 hz1 hP1 hL hZ => ?_)
          have hQ0 := sl0.mp (hP1 0 (Nat.zero_le _))
          refine zr_aload hk_142 rw_142_23 rfl ?_
          refine mz_getf hk_142 hB rw_142_24 rfl ?_
          refine zi_const hk_142 rw_142_25 (c := 211) rfl ?_
          refine zr_iload hk_142 rw_142_26 rfl ?_
          refine zi_add hk_142 rw_142_27 ?_
          refine mz_plde hk_142 hB rw_142_28 ((211 + x).toNat) (by omega) (by omega) (rfl) ?_
          refine zi_istore hk_142 rw_142_29 rfl (lv' := [some (.ref 75), some (.int (iv (x))), some (.int (iv (y))), some (.int (_))]) rfl ?_
          refine zr_aload hk_142 rw_142_30 rfl ?_
          refine mz_getf hk_142 hB rw_142_31 rfl ?_
          refine zi_const hk_142 rw_142_32 (c := 211) rfl ?_
          refine zr_iload hk_142 rw_142_33 rfl ?_
          refine zi_add hk_142 rw_142_34 ?_
          refine zr_iload hk_142 rw_142_35 rfl ?_
          refine mz_pst hk_142 hB rw_142_36 ((211 + x).toNat) (by omega) (by omega) ?_
          refine zr_iload hk_142 rw_142_37 rfl ?_
          refine zr_ireturn hk_142 rw_142_38 ?_
          exact pub_hi hr1 hz1 hP1 (hQ0.li (by omega)) (fun i hi => uq_ne (by omega)) hZ
        · refine zi_if_ne hk_142 rw_142_18 (by unfold inR; omega) (fun h => absurd h (by decide)) (fun _ => ?_)
          refine zi_const hk_142 rw_142_19 (c := -1) rfl ?_
          refine zr_ireturn hk_142 rw_142_20 ?_
          exact MInv.same ⟨r, hr, hz, hP⟩
      · refine zi_const hk_142 rw_142_14 (c := 8) rfl ?_
        refine zr_goto hk_142 rw_142_15 ?_
        refine c_in hk_142 hB rw_142_17 (by first | assumption | (unfold inR; omega)) (by first | assumption | (unfold inR; omega)) (by first | assumption | (unfold inR; omega)) (Nat.le_of_ble_eq_true rfl) (fun h17c => ?_) (fun h17c => ?_)
        · refine zi_if_ne hk_142 rw_142_18 (by unfold inR; omega) (fun _ => ?_) (fun h => absurd h (by decide))
          refine zr_aload hk_142 rw_142_21 rfl ?_
          refine c_records hk_142 hB rw_142_22 hr hz hP (Nat.le_of_ble_eq_true rfl) (fun q z1 r1 hr1 hz1 hP1 hL hZ => ?_)
          have hQ0 := sl0.mp (hP1 0 (Nat.zero_le _))
          refine zr_aload hk_142 rw_142_23 rfl ?_
          refine mz_getf hk_142 hB rw_142_24 rfl ?_
          refine zi_const hk_142 rw_142_25 (c := 211) rfl ?_
          refine zr_iload hk_142 rw_142_26 rfl ?_
          refine zi_add hk_142 rw_142_27 ?_
          refine mz_plde hk_142 hB rw_142_28 ((211 + x).toNat) (by omega) (by omega) (rfl) ?_
          refine zi_istore hk_142 rw_142_29 rfl (lv' := [some (.ref 75), some (.int (iv (x))), some (.int (iv (y))), some (.int (_))]) rfl ?_
          refine zr_aload hk_142 rw_142_30 rfl ?_
          refine mz_getf hk_142 hB rw_142_31 rfl ?_
          refine zi_const hk_142 rw_142_32 (c := 211) rfl ?_
          refine zr_iload hk_142 rw_142_33 rfl ?_
          refine zi_add hk_142 rw_142_34 ?_
          refine zr_iload hk_142 rw_142_35 rfl ?_
          refine mz_pst hk_142 hB rw_142_36 ((211 + x).toNat) (by omega) (by omega) ?_
          refine zr_iload hk_142 rw_142_37 rfl ?_
          refine zr_ireturn hk_142 rw_142_38 ?_
          exact pub_hi hr1 hz1 hP1 (hQ0.li (by omega)) (fun i hi => uq_ne (by omega)) hZ
        · refine zi_if_ne hk_142 rw_142_18 (by unfold inR; omega) (fun h => absurd h (by decide)) (fun _ => ?_)
          refine zi_const hk_142 rw_142_19 (c := -1) rfl ?_
          refine zr_ireturn hk_142 rw_142_20 ?_
          exact MInv.same ⟨r, hr, hz, hP⟩
    · refine zi_const hk_142 rw_142_9 (c := 60) rfl ?_
      refine zr_goto hk_142 rw_142_10 ?_
      refine c_in hk_142 hB rw_142_17 (by first | assumption | (unfold inR; omega)) (by first | assumption | (unfold inR; omega)) (by first | assumption | (unfold inR; omega)) (Nat.le_of_ble_eq_true rfl) (fun h17c => ?_) (fun h17c => ?_)
      · refine zi_if_ne hk_142 rw_142_18 (by unfold inR; omega) (fun _ => ?_) (fun h => absurd h (by decide))
        refine zr_aload hk_142 rw_142_21 rfl ?_
        refine c_records hk_142 hB rw_142_22 hr hz hP (Nat.le_of_ble_eq_true rfl) (fun q z1 r1 hr1 hz1 hP1 hL hZ => ?_)
        have hQ0 := sl0.mp (hP1 0 (Nat.zero_le _))
        refine zr_aload hk_142 rw_142_23 rfl ?_
        refine mz_getf hk_142 hB rw_142_24 rfl ?_
        refine zi_const hk_142 rw_142_25 (c := 211) rfl ?_
        refine zr_iload hk_142 rw_142_26 rfl ?_
        refine zi_add hk_142 rw_142_27 ?_
        refine mz_plde hk_142 hB rw_142_28 ((211 + x).toNat) (by omega) (by omega) (rfl) ?_
        refine zi_istore hk_142 rw_142_29 rfl (lv' := [some (.ref 75), some (.int (iv (x))), some (.int (iv (y))), some (.int (_))]) rfl ?_
        refine zr_aload hk_142 rw_142_30 rfl ?_
        refine mz_getf hk_142 hB rw_142_31 rfl ?_
        refine zi_const hk_142 rw_142_32 (c := 211) rfl ?_
        refine zr_iload hk_142 rw_142_33 rfl ?_
        refine zi_add hk_142 rw_142_34 ?_
        refine zr_iload hk_142 rw_142_35 rfl ?_
        refine mz_pst hk_142 hB rw_142_36 ((211 + x).toNat) (by omega) (by omega) ?_
        refine zr_iload hk_142 rw_142_37 rfl ?_
        refine zr_ireturn hk_142 rw_142_38 ?_
        exact pub_hi hr1 hz1 hP1 (hQ0.li (by omega)) (fun i hi => uq_ne (by omega)) hZ
      · refine zi_if_ne hk_142 rw_142_18 (by unfold inR; omega) (fun h => absurd h (by decide)) (fun _ => ?_)
        refine zi_const hk_142 rw_142_19 (c := -1) rfl ?_
        refine zr_ireturn hk_142 rw_142_20 ?_
        exact MInv.same ⟨r, hr, hz, hP⟩
  · refine zi_if_eq hk_142 rw_142_4 (by unfold inR; omega) (fun _ => ?_) (fun h => absurd h (by decide))
    refine zi_const hk_142 rw_142_19 (c := -1) rfl ?_
    refine zr_ireturn hk_142 rw_142_20 ?_
    exact MInv.same ⟨r, hr, hz, hP⟩
theorem if_fin {T r : Nat} {p q : Nat → Int32} (hP : PIn T p r) (hr : r ≤ 5) (hH : ∀ i, 2000 ≤ i → q i = cpyP p 0 6 2000 i) : PIn T (cpyP q 6 0 2000) r := by
  have key : ∀ s i, 1 ≤ s → i < 2000 → sl q s i = sl (cpyP p 0 6 2000) s i := by
    intro s i hs hi
    unfold sl
    exact hH _ (by omega)
  intro s hs
  refine (hP s hs).congr (fun i hi => ?_)
  rw [cpy_sl hi]
  by_cases e : s = 0
  · subst e
    rw [if_pos rfl, key 6 i (by omega) hi, cpy_sl hi, if_pos rfl]
  · rw [if_neg e, key s i (by omega) hi, cpy_sl hi, if_neg (by omega)]
theorem ifOpened_ok (d : Nat) (hB : 87 ≤ B.length) {T : Nat} {x y u : Int} (hx : inR x) (hy : inR y) (hu : inR u) (hM : MInv T p z) : ZC (d + 4) 182 [.ref 75, .int (iv x), .int (iv y), .int (iv u)] (mh B p a z) (PubQ B T a z) := by
  obtain ⟨r, hr, hz, hP⟩ := hM
  have hP0 := sl0.mp (hP 0 (Nat.zero_le _))
  refine ZC.of (lv := [some (.ref 75), some (.int (iv (x))), some (.int (iv (y))), some (.int (iv (u)))]) hk_182 (fun i v hv => ?_) ?_
  · match i, hv with
    | 0, hv => cases hv; rfl
    | 1, hv => cases hv; rfl
    | 2, hv => cases hv; rfl
    | 3, hv => cases hv; rfl
    | i + 4, hv => simp at hv
  refine zr_aload hk_182 rw_182_0 rfl ?_
  refine zr_iload hk_182 rw_182_1 rfl ?_
  refine c_isOpen hk_182 hB rw_182_2 (by first | assumption | (unfold inR; omega)) (Nat.le_of_ble_eq_true rfl) (fun h2c => ?_) (fun h2c => ?_)
  · obtain ⟨nx, rfl, nxle, nxo⟩ := h2c
    refine zi_if_eq hk_182 rw_182_3 (by unfold inR; omega) (fun h => absurd h (by decide)) (fun _ => ?_)
    refine zr_iload hk_182 rw_182_4 rfl ?_
    refine zi_const hk_182 rw_182_5 (c := 1) rfl ?_
    refine zi_const hk_182 rw_182_6 (c := 9) rfl ?_
    refine c_in hk_182 hB rw_182_7 (by first | assumption | (unfold inR; omega)) (by first | assumption | (unfold inR; omega)) (by first | assumption | (unfold inR; omega)) (Nat.le_of_ble_eq_true rfl) (fun h7c => ?_) (fun h7c => ?_)
    · refine zi_if_eq hk_182 rw_182_8 (by unfold inR; omega) (fun h => absurd h (by decide)) (fun _ => ?_)
      refine zr_iload hk_182 rw_182_9 rfl ?_
      refine zi_const hk_182 rw_182_10 (c := -9) rfl ?_
      refine zi_icmp_eq hk_182 rw_182_11 (by first | assumption | (unfold inR; omega)) (by first | assumption | (unfold inR; omega)) (fun h11 => ?_) (fun h11 => ?_)
      · refine zr_aload hk_182 rw_182_18 rfl ?_
        refine c_firstFree hk_182 hB rw_182_19 (Nat.le_of_ble_eq_true rfl) (fun c hff => ?_)
        have hc10 := hff.1
        refine zi_const hk_182 rw_182_20 (c := 10) rfl ?_
        refine zi_icmp_ne hk_182 rw_182_21 (by first | assumption | (unfold inR; omega)) (by first | assumption | (unfold inR; omega)) (fun h21 => ?_) (fun h21 => ?_)
        · refine zr_aload hk_182 rw_182_24 rfl ?_
          refine zi_const hk_182 rw_182_25 (c := 0) rfl ?_
          refine zi_const hk_182 rw_182_26 (c := 6) rfl ?_
          refine c_copies hk_182 hB rw_182_27 (0) (6) (by omega) (by omega) (by omega) (by omega) (Nat.le_of_ble_eq_true rfl) ?_
          have hC0 : PageOK T (cpyP p 0 6 2000) := hP0.congr (fun i hi => cpy_lo (by omega) hi)
          have hcl : ∀ i, i < 2000 → ∀ {x : Int32}, p i = x → cpyP p 0 6 2000 i = x := fun i hi x h => (cpy_lo (by omega) hi).trans h
          refine zr_aload hk_182 rw_182_28 rfl ?_
          refine zr_iload hk_182 rw_182_29 rfl ?_
          refine zr_iload hk_182 rw_182_30 rfl ?_
          have hwe := (hC0.1.1 nx (by omega)).2.2.2 (hcl _ (by omega) nxo)
          refine c_opens hk_182 hB rw_182_31 nx (hff.congr (fun i hi => cpy_lo (by omega) hi)) (by omega) (by omega) (hcl _ (by omega) nxo) hwe.1 (by omega) (by omega) (Nat.le_of_ble_eq_true rfl) (fun q2 hO => ?_)
          refine zi_istore hk_182 rw_182_32 rfl (lv' := [some (.ref 75), some (.int (iv ((nx : Int)))), some (.int (iv (y))), some (.int (iv (u))), some (.int (iv ((c : Int))))]) rfl ?_
          refine zr_aload hk_182 rw_182_33 rfl ?_
          have hQ2 := hO.ok hC0 (FF.pos hff hP0) (by omega) (by omega) (hcl _ (by omega) nxo) (fun e => hff.2.2 (by omega) ((cpy_lo (by omega) (by omega)).symm.trans e)) (by omega) (by omega)
          refine c_shares hk_182 hB rw_182_34 hQ2.1 (Nat.le_of_ble_eq_true rfl) (fun b hK => ?_)
          refine zr_aload hk_182 rw_182_35 rfl ?_
          refine mz_getf hk_182 hB rw_182_36 rfl ?_
          refine zr_iload hk_182 rw_182_37 rfl ?_
          refine zi_const hk_182 rw_182_38 (c := -9) rfl ?_
          refine zi_icmp_ne hk_182 rw_182_39 (by first | assumption | (unfold inR; omega)) (by first | assumption | (unfold inR; omega)) (fun h39 => by omega) (fun h39 => ?_)
          refine zr_iload hk_182 rw_182_40 rfl ?_
          refine zr_goto hk_182 rw_182_41 ?_
          refine mz_ald hk_182 (mh_a6 hB) rw_182_43 (c) (by omega) (by omega) (by decide) ?_
          refine zi_istore hk_182 rw_182_44 rfl (lv' := [some (.ref 75), some (.int (iv ((nx : Int)))), some (.int (iv (y))), some (.int (iv (u))), some (.int (iv ((c : Int)))), some (.int (_))]) rfl ?_
          refine zr_aload hk_182 rw_182_45 rfl ?_
          refine zi_const hk_182 rw_182_46 (c := 6) rfl ?_
          refine zi_const hk_182 rw_182_47 (c := 0) rfl ?_
          refine c_copies hk_182 hB rw_182_48 (6) (0) (by omega) (by omega) (by omega) (by omega) (Nat.le_of_ble_eq_true rfl) ?_
          refine zr_iload hk_182 rw_182_49 rfl ?_
          refine zr_ireturn hk_182 rw_182_50 ?_
          exact MInv.sameK ⟨r, hr, hz, if_fin hP hr (hO.hi (by omega) (by omega))⟩ hK
        · refine zi_const hk_182 rw_182_22 (c := -3) rfl ?_
          refine zr_ireturn hk_182 rw_182_23 ?_
          exact MInv.same ⟨r, hr, hz, hP⟩
      · refine zr_aload hk_182 rw_182_12 rfl ?_
        refine zr_iload hk_182 rw_182_13 rfl ?_
        refine c_isOpen hk_182 hB rw_182_14 (by first | assumption | (unfold inR; omega)) (Nat.le_of_ble_eq_true rfl) (fun h14c => ?_) (fun h14c => ?_)
        · obtain ⟨nu, rfl, nule, nuo⟩ := h14c
          refine zi_if_ne hk_182 rw_182_15 (by unfold inR; omega) (fun _ => ?_) (fun h => absurd h (by decide))
          refine zr_aload hk_182 rw_182_18 rfl ?_
          refine c_firstFree hk_182 hB rw_182_19 (Nat.le_of_ble_eq_true rfl) (fun c hff => ?_)
          have hc10 := hff.1
          refine zi_const hk_182 rw_182_20 (c := 10) rfl ?_
          refine zi_icmp_ne hk_182 rw_182_21 (by first | assumption | (unfold inR; omega)) (by first | assumption | (unfold inR; omega)) (fun h21 => ?_) (fun h21 => ?_)
          · refine zr_aload hk_182 rw_182_24 rfl ?_
            refine zi_const hk_182 rw_182_25 (c := 0) rfl ?_
            refine zi_const hk_182 rw_182_26 (c := 6) rfl ?_
            refine c_copies hk_182 hB rw_182_27 (0) (6) (by omega) (by omega) (by omega) (by omega) (Nat.le_of_ble_eq_true rfl) ?_
            have hC0 : PageOK T (cpyP p 0 6 2000) := hP0.congr (fun i hi => cpy_lo (by omega) hi)
            have hcl : ∀ i, i < 2000 → ∀ {x : Int32}, p i = x → cpyP p 0 6 2000 i = x := fun i hi x h => (cpy_lo (by omega) hi).trans h
            refine zr_aload hk_182 rw_182_28 rfl ?_
            refine zr_iload hk_182 rw_182_29 rfl ?_
            refine zr_iload hk_182 rw_182_30 rfl ?_
            have hwe := (hC0.1.1 nx (by omega)).2.2.2 (hcl _ (by omega) nxo)
            refine c_opens hk_182 hB rw_182_31 nx (hff.congr (fun i hi => cpy_lo (by omega) hi)) (by omega) (by omega) (hcl _ (by omega) nxo) hwe.1 (by omega) (by omega) (Nat.le_of_ble_eq_true rfl) (fun q2 hO => ?_)
            refine zi_istore hk_182 rw_182_32 rfl (lv' := [some (.ref 75), some (.int (iv ((nx : Int)))), some (.int (iv (y))), some (.int (iv ((nu : Int)))), some (.int (iv ((c : Int))))]) rfl ?_
            refine zr_aload hk_182 rw_182_33 rfl ?_
            have hQ2 := hO.ok hC0 (FF.pos hff hP0) (by omega) (by omega) (hcl _ (by omega) nxo) (fun e => hff.2.2 (by omega) ((cpy_lo (by omega) (by omega)).symm.trans e)) (by omega) (by omega)
            refine c_shares hk_182 hB rw_182_34 hQ2.1 (Nat.le_of_ble_eq_true rfl) (fun b hK => ?_)
            refine zr_aload hk_182 rw_182_35 rfl ?_
            refine mz_getf hk_182 hB rw_182_36 rfl ?_
            refine zr_iload hk_182 rw_182_37 rfl ?_
            refine zi_const hk_182 rw_182_38 (c := -9) rfl ?_
            refine zi_icmp_ne hk_182 rw_182_39 (by first | assumption | (unfold inR; omega)) (by first | assumption | (unfold inR; omega)) (fun h39 => ?_) (fun h39 => by omega)
            refine zr_iload hk_182 rw_182_42 rfl ?_
            refine mz_ald hk_182 (mh_a6 hB) rw_182_43 (nu) (by omega) (by omega) (by decide) ?_
            refine zi_istore hk_182 rw_182_44 rfl (lv' := [some (.ref 75), some (.int (iv ((nx : Int)))), some (.int (iv (y))), some (.int (iv ((nu : Int)))), some (.int (iv ((c : Int)))), some (.int (_))]) rfl ?_
            refine zr_aload hk_182 rw_182_45 rfl ?_
            refine zi_const hk_182 rw_182_46 (c := 6) rfl ?_
            refine zi_const hk_182 rw_182_47 (c := 0) rfl ?_
            refine c_copies hk_182 hB rw_182_48 (6) (0) (by omega) (by omega) (by omega) (by omega) (Nat.le_of_ble_eq_true rfl) ?_
            refine zr_iload hk_182 rw_182_49 rfl ?_
            refine zr_ireturn hk_182 rw_182_50 ?_
            exact MInv.sameK ⟨r, hr, hz, if_fin hP hr (hO.hi (by omega) (by omega))⟩ hK
          · refine zi_const hk_182 rw_182_22 (c := -3) rfl ?_
            refine zr_ireturn hk_182 rw_182_23 ?_
            exact MInv.same ⟨r, hr, hz, hP⟩
        · refine zi_if_ne hk_182 rw_182_15 (by unfold inR; omega) (fun h => absurd h (by decide)) (fun _ => ?_)
          refine zi_const hk_182 rw_182_16 (c := -1) rfl ?_
          refine zr_ireturn hk_182 rw_182_17 ?_
          exact MInv.same ⟨r, hr, hz, hP⟩
    · refine zi_if_eq hk_182 rw_182_8 (by unfold inR; omega) (fun _ => ?_) (fun h => absurd h (by decide))
      refine zi_const hk_182 rw_182_16 (c := -1) rfl ?_
      refine zr_ireturn hk_182 rw_182_17 ?_
      exact MInv.same ⟨r, hr, hz, hP⟩
  · refine zi_if_eq hk_182 rw_182_3 (by unfold inR; omega) (fun _ => ?_) (fun h => absurd h (by decide))
    refine zi_const hk_182 rw_182_16 (c := -1) rfl ?_
    refine zr_ireturn hk_182 rw_182_17 ?_
    exact MInv.same ⟨r, hr, hz, hP⟩
end MP

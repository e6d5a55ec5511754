/-! ===== by program (wip/gen/m70.py): windows, timeouts, a packet is sent ===== -/
theorem kc135_eq : codeOf 135 = kc135 := rfl
theorem hk_135 : 135 < 186 := by decide
theorem rw_135_0 : (codeOf 135)[0]? = some (0, .iconst 0, 2147483648, 0, 0, 1, []) := by rw [kc135_eq]; rfl
theorem rw_135_1 : (codeOf 135)[1]? = some (1, .istore 2, 2, 0, 0, 1, []) := by rw [kc135_eq]; rfl
theorem rw_135_2 : (codeOf 135)[2]? = some (2, .iconst 0, 2147483648, 0, 0, 1, []) := by rw [kc135_eq]; rfl
theorem rw_135_3 : (codeOf 135)[3]? = some (3, .istore 3, 3, 0, 0, 1, []) := by rw [kc135_eq]; rfl
theorem rw_135_4 : (codeOf 135)[4]? = some (4, .monitorexit, 1080, 0, 0, 0, []) := by rw [kc135_eq]; rfl
theorem rw_135_5 : (codeOf 135)[5]? = some (4, .iload 3, 3, 0, 0, 1, []) := by rw [kc135_eq]; rfl
theorem rw_135_6 : (codeOf 135)[6]? = some (5, .aload 0, 0, 0, 3, 1, []) := by rw [kc135_eq]; rfl
theorem rw_135_7 : (codeOf 135)[7]? = some (6, .getfield 7, 9, 0, 3, 3, []) := by rw [kc135_eq]; rfl
theorem rw_135_8 : (codeOf 135)[8]? = some (9, .iconst 217, 2147483865, 0, 0, 3, []) := by rw [kc135_eq]; rfl
theorem rw_135_9 : (codeOf 135)[9]? = some (12, .iaload, 0, 0, 0, 1, []) := by rw [kc135_eq]; rfl
theorem rw_135_10 : (codeOf 135)[10]? = some (13, .if_icmp .ge 33, 46, 29, 0, 3, []) := by rw [kc135_eq]; rfl
theorem rw_135_11 : (codeOf 135)[11]? = some (16, .iload 2, 2, 0, 0, 1, []) := by rw [kc135_eq]; rfl
theorem rw_135_12 : (codeOf 135)[12]? = some (17, .aload 0, 0, 0, 3, 1, []) := by rw [kc135_eq]; rfl
theorem rw_135_13 : (codeOf 135)[13]? = some (18, .getfield 7, 9, 0, 3, 3, []) := by rw [kc135_eq]; rfl
theorem rw_135_14 : (codeOf 135)[14]? = some (21, .iconst 220, 2147483868, 0, 0, 3, []) := by rw [kc135_eq]; rfl
theorem rw_135_15 : (codeOf 135)[15]? = some (24, .iconst 3, 2147483651, 0, 0, 1, []) := by rw [kc135_eq]; rfl
theorem rw_135_16 : (codeOf 135)[16]? = some (25, .iload 3, 3, 0, 0, 1, []) := by rw [kc135_eq]; rfl
theorem rw_135_17 : (codeOf 135)[17]? = some (26, .imul, 0, 0, 0, 1, []) := by rw [kc135_eq]; rfl
theorem rw_135_18 : (codeOf 135)[18]? = some (27, .iadd, 0, 0, 0, 1, []) := by rw [kc135_eq]; rfl
theorem rw_135_19 : (codeOf 135)[19]? = some (28, .iaload, 0, 0, 0, 1, []) := by rw [kc135_eq]; rfl
theorem rw_135_20 : (codeOf 135)[20]? = some (29, .iload 1, 1, 0, 0, 1, []) := by rw [kc135_eq]; rfl
theorem rw_135_21 : (codeOf 135)[21]? = some (30, .if_icmp .ne 7, 37, 24, 0, 3, []) := by rw [kc135_eq]; rfl
theorem rw_135_22 : (codeOf 135)[22]? = some (33, .iconst 1, 2147483649, 0, 0, 1, []) := by rw [kc135_eq]; rfl
theorem rw_135_23 : (codeOf 135)[23]? = some (34, .goto 4, 38, 25, 0, 3, []) := by rw [kc135_eq]; rfl
theorem rw_135_24 : (codeOf 135)[24]? = some (37, .iconst 0, 2147483648, 0, 0, 1, []) := by rw [kc135_eq]; rfl
theorem rw_135_25 : (codeOf 135)[25]? = some (38, .iadd, 0, 0, 0, 1, []) := by rw [kc135_eq]; rfl
theorem rw_135_26 : (codeOf 135)[26]? = some (39, .istore 2, 2, 0, 0, 1, []) := by rw [kc135_eq]; rfl
theorem rw_135_27 : (codeOf 135)[27]? = some (40, .iinc 3 1, 3, 1, 0, 3, []) := by rw [kc135_eq]; rfl
theorem rw_135_28 : (codeOf 135)[28]? = some (43, .goto (-39), 4, 4, 0, 3, []) := by rw [kc135_eq]; rfl
theorem rw_135_29 : (codeOf 135)[29]? = some (46, .iload 2, 2, 0, 0, 1, []) := by rw [kc135_eq]; rfl
theorem rw_135_30 : (codeOf 135)[30]? = some (47, .ireturn, 1, 0, 0, 1, []) := by rw [kc135_eq]; rfl
theorem kc158_eq : codeOf 158 = kc158 := rfl
theorem hk_158 : 158 < 186 := by decide
theorem rw_158_0 : (codeOf 158)[0]? = some (0, .aload 0, 0, 0, 3, 1, []) := by rw [kc158_eq]; rfl
theorem rw_158_1 : (codeOf 158)[1]? = some (1, .iload 1, 1, 0, 0, 1, []) := by rw [kc158_eq]; rfl
theorem rw_158_2 : (codeOf 158)[2]? = some (2, .invokevirtual 92, 133, 0, 0, 3, []) := by rw [kc158_eq]; rfl
theorem rw_158_3 : (codeOf 158)[3]? = some (5, .ifCond .eq 11, 16, 8, 0, 3, []) := by rw [kc158_eq]; rfl
theorem rw_158_4 : (codeOf 158)[4]? = some (8, .aload 0, 0, 0, 3, 1, []) := by rw [kc158_eq]; rfl
theorem rw_158_5 : (codeOf 158)[5]? = some (9, .iload 1, 1, 0, 0, 1, []) := by rw [kc158_eq]; rfl
theorem rw_158_6 : (codeOf 158)[6]? = some (10, .invokevirtual 127, 149, 0, 0, 3, []) := by rw [kc158_eq]; rfl
theorem rw_158_7 : (codeOf 158)[7]? = some (13, .goto 5, 18, 9, 0, 3, []) := by rw [kc158_eq]; rfl
theorem rw_158_8 : (codeOf 158)[8]? = some (16, .iconst (-9), 2147483639, 0, 0, 2, []) := by rw [kc158_eq]; rfl
theorem rw_158_9 : (codeOf 158)[9]? = some (18, .istore 2, 2, 0, 0, 1, []) := by rw [kc158_eq]; rfl
theorem rw_158_10 : (codeOf 158)[10]? = some (19, .iload 2, 2, 0, 0, 1, []) := by rw [kc158_eq]; rfl
theorem rw_158_11 : (codeOf 158)[11]? = some (20, .iconst (-9), 2147483639, 0, 0, 2, []) := by rw [kc158_eq]; rfl
theorem rw_158_12 : (codeOf 158)[12]? = some (22, .if_icmp .eq 38, 60, 34, 0, 3, []) := by rw [kc158_eq]; rfl
theorem rw_158_13 : (codeOf 158)[13]? = some (25, .aload 0, 0, 0, 3, 1, []) := by rw [kc158_eq]; rfl
theorem rw_158_14 : (codeOf 158)[14]? = some (26, .getfield 7, 9, 0, 3, 3, []) := by rw [kc158_eq]; rfl
theorem rw_158_15 : (codeOf 158)[15]? = some (29, .iconst 220, 2147483868, 0, 0, 3, []) := by rw [kc158_eq]; rfl
theorem rw_158_16 : (codeOf 158)[16]? = some (32, .iconst 3, 2147483651, 0, 0, 1, []) := by rw [kc158_eq]; rfl
theorem rw_158_17 : (codeOf 158)[17]? = some (33, .iload 2, 2, 0, 0, 1, []) := by rw [kc158_eq]; rfl
theorem rw_158_18 : (codeOf 158)[18]? = some (34, .imul, 0, 0, 0, 1, []) := by rw [kc158_eq]; rfl
theorem rw_158_19 : (codeOf 158)[19]? = some (35, .iadd, 0, 0, 0, 1, []) := by rw [kc158_eq]; rfl
theorem rw_158_20 : (codeOf 158)[20]? = some (36, .iconst 2, 2147483650, 0, 0, 1, []) := by rw [kc158_eq]; rfl
theorem rw_158_21 : (codeOf 158)[21]? = some (37, .iadd, 0, 0, 0, 1, []) := by rw [kc158_eq]; rfl
theorem rw_158_22 : (codeOf 158)[22]? = some (38, .iaload, 0, 0, 0, 1, []) := by rw [kc158_eq]; rfl
theorem rw_158_23 : (codeOf 158)[23]? = some (39, .aload 0, 0, 0, 3, 1, []) := by rw [kc158_eq]; rfl
theorem rw_158_24 : (codeOf 158)[24]? = some (40, .getfield 7, 9, 0, 3, 3, []) := by rw [kc158_eq]; rfl
theorem rw_158_25 : (codeOf 158)[25]? = some (43, .iconst 214, 2147483862, 0, 0, 3, []) := by rw [kc158_eq]; rfl
theorem rw_158_26 : (codeOf 158)[26]? = some (46, .iaload, 0, 0, 0, 1, []) := by rw [kc158_eq]; rfl
theorem rw_158_27 : (codeOf 158)[27]? = some (47, .aload 0, 0, 0, 3, 1, []) := by rw [kc158_eq]; rfl
theorem rw_158_28 : (codeOf 158)[28]? = some (48, .iload 1, 1, 0, 0, 1, []) := by rw [kc158_eq]; rfl
theorem rw_158_29 : (codeOf 158)[29]? = some (49, .invokevirtual 145, 159, 0, 0, 3, []) := by rw [kc158_eq]; rfl
theorem rw_158_30 : (codeOf 158)[30]? = some (52, .isub, 0, 0, 0, 1, []) := by rw [kc158_eq]; rfl
theorem rw_158_31 : (codeOf 158)[31]? = some (53, .if_icmp .gt 7, 60, 34, 0, 3, []) := by rw [kc158_eq]; rfl
theorem rw_158_32 : (codeOf 158)[32]? = some (56, .iconst 1, 2147483649, 0, 0, 1, []) := by rw [kc158_eq]; rfl
theorem rw_158_33 : (codeOf 158)[33]? = some (57, .goto 4, 61, 35, 0, 3, []) := by rw [kc158_eq]; rfl
theorem rw_158_34 : (codeOf 158)[34]? = some (60, .iconst 0, 2147483648, 0, 0, 1, []) := by rw [kc158_eq]; rfl
theorem rw_158_35 : (codeOf 158)[35]? = some (61, .ireturn, 2, 0, 0, 1, []) := by rw [kc158_eq]; rfl
theorem kc159_eq : codeOf 159 = kc159 := rfl
theorem hk_159 : 159 < 186 := by decide
theorem rw_159_0 : (codeOf 159)[0]? = some (0, .aload 0, 0, 0, 3, 1, []) := by rw [kc159_eq]; rfl
theorem rw_159_1 : (codeOf 159)[1]? = some (1, .iload 1, 1, 0, 0, 1, []) := by rw [kc159_eq]; rfl
theorem rw_159_2 : (codeOf 159)[2]? = some (2, .iconst 7, 2147483655, 0, 0, 2, []) := by rw [kc159_eq]; rfl
theorem rw_159_3 : (codeOf 159)[3]? = some (4, .invokevirtual 62, 130, 0, 0, 3, []) := by rw [kc159_eq]; rfl
theorem rw_159_4 : (codeOf 159)[4]? = some (7, .ifCond .ne 8, 15, 7, 0, 3, []) := by rw [kc159_eq]; rfl
theorem rw_159_5 : (codeOf 159)[5]? = some (10, .iconst 10, 2147483658, 0, 0, 2, []) := by rw [kc159_eq]; rfl
theorem rw_159_6 : (codeOf 159)[6]? = some (12, .goto 25, 37, 20, 0, 3, []) := by rw [kc159_eq]; rfl
theorem rw_159_7 : (codeOf 159)[7]? = some (15, .iconst 2, 2147483650, 0, 0, 1, []) := by rw [kc159_eq]; rfl
theorem rw_159_8 : (codeOf 159)[8]? = some (16, .aload 0, 0, 0, 3, 1, []) := by rw [kc159_eq]; rfl
theorem rw_159_9 : (codeOf 159)[9]? = some (17, .iload 1, 1, 0, 0, 1, []) := by rw [kc159_eq]; rfl
theorem rw_159_10 : (codeOf 159)[10]? = some (18, .iconst 8, 2147483656, 0, 0, 2, []) := by rw [kc159_eq]; rfl
theorem rw_159_11 : (codeOf 159)[11]? = some (20, .invokevirtual 62, 130, 0, 0, 3, []) := by rw [kc159_eq]; rfl
theorem rw_159_12 : (codeOf 159)[12]? = some (23, .iconst 8, 2147483656, 0, 0, 2, []) := by rw [kc159_eq]; rfl
theorem rw_159_13 : (codeOf 159)[13]? = some (25, .idiv, 0, 0, 0, 1, []) := by rw [kc159_eq]; rfl
theorem rw_159_14 : (codeOf 159)[14]? = some (26, .aload 0, 0, 0, 3, 1, []) := by rw [kc159_eq]; rfl
theorem rw_159_15 : (codeOf 159)[15]? = some (27, .iload 1, 1, 0, 0, 1, []) := by rw [kc159_eq]; rfl
theorem rw_159_16 : (codeOf 159)[16]? = some (28, .iconst 9, 2147483657, 0, 0, 2, []) := by rw [kc159_eq]; rfl
theorem rw_159_17 : (codeOf 159)[17]? = some (30, .invokevirtual 62, 130, 0, 0, 3, []) := by rw [kc159_eq]; rfl
theorem rw_159_18 : (codeOf 159)[18]? = some (33, .iadd, 0, 0, 0, 1, []) := by rw [kc159_eq]; rfl
theorem rw_159_19 : (codeOf 159)[19]? = some (34, .invokestatic 99, 138, 0, 0, 3, []) := by rw [kc159_eq]; rfl
theorem rw_159_20 : (codeOf 159)[20]? = some (37, .istore 2, 2, 0, 0, 1, []) := by rw [kc159_eq]; rfl
theorem rw_159_21 : (codeOf 159)[21]? = some (38, .iconst 400, 2147484048, 0, 0, 3, []) := by rw [kc159_eq]; rfl
theorem rw_159_22 : (codeOf 159)[22]? = some (41, .iload 2, 2, 0, 0, 1, []) := by rw [kc159_eq]; rfl
theorem rw_159_23 : (codeOf 159)[23]? = some (42, .aload 0, 0, 0, 3, 1, []) := by rw [kc159_eq]; rfl
theorem rw_159_24 : (codeOf 159)[24]? = some (43, .iload 1, 1, 0, 0, 1, []) := by rw [kc159_eq]; rfl
theorem rw_159_25 : (codeOf 159)[25]? = some (44, .iconst 11, 2147483659, 0, 0, 2, []) := by rw [kc159_eq]; rfl
theorem rw_159_26 : (codeOf 159)[26]? = some (46, .invokevirtual 62, 130, 0, 0, 3, []) := by rw [kc159_eq]; rfl
theorem rw_159_27 : (codeOf 159)[27]? = some (49, .ishl, 0, 0, 0, 1, []) := by rw [kc159_eq]; rfl
theorem rw_159_28 : (codeOf 159)[28]? = some (50, .invokestatic 96, 137, 0, 0, 3, []) := by rw [kc159_eq]; rfl
theorem rw_159_29 : (codeOf 159)[29]? = some (53, .ireturn, 1, 0, 0, 1, []) := by rw [kc159_eq]; rfl
theorem kc163_eq : codeOf 163 = kc163 := rfl
theorem hk_163 : 163 < 186 := by decide
theorem rw_163_0 : (codeOf 163)[0]? = some (0, .aload 0, 0, 0, 3, 1, []) := by rw [kc163_eq]; rfl
theorem rw_163_1 : (codeOf 163)[1]? = some (1, .iload 1, 1, 0, 0, 1, []) := by rw [kc163_eq]; rfl
theorem rw_163_2 : (codeOf 163)[2]? = some (2, .invokevirtual 92, 133, 0, 0, 3, []) := by rw [kc163_eq]; rfl
theorem rw_163_3 : (codeOf 163)[3]? = some (5, .ifCond .eq 44, 49, 25, 0, 3, []) := by rw [kc163_eq]; rfl
theorem rw_163_4 : (codeOf 163)[4]? = some (8, .aload 0, 0, 0, 3, 1, []) := by rw [kc163_eq]; rfl
theorem rw_163_5 : (codeOf 163)[5]? = some (9, .iload 1, 1, 0, 0, 1, []) := by rw [kc163_eq]; rfl
theorem rw_163_6 : (codeOf 163)[6]? = some (10, .iconst 4, 2147483652, 0, 0, 1, []) := by rw [kc163_eq]; rfl
theorem rw_163_7 : (codeOf 163)[7]? = some (11, .invokevirtual 62, 130, 0, 0, 3, []) := by rw [kc163_eq]; rfl
theorem rw_163_8 : (codeOf 163)[8]? = some (14, .ifCond .eq 35, 49, 25, 0, 3, []) := by rw [kc163_eq]; rfl
theorem rw_163_9 : (codeOf 163)[9]? = some (17, .aload 0, 0, 0, 3, 1, []) := by rw [kc163_eq]; rfl
theorem rw_163_10 : (codeOf 163)[10]? = some (18, .iload 1, 1, 0, 0, 1, []) := by rw [kc163_eq]; rfl
theorem rw_163_11 : (codeOf 163)[11]? = some (19, .invokevirtual 102, 135, 0, 0, 3, []) := by rw [kc163_eq]; rfl
theorem rw_163_12 : (codeOf 163)[12]? = some (22, .aload 0, 0, 0, 3, 1, []) := by rw [kc163_eq]; rfl
theorem rw_163_13 : (codeOf 163)[13]? = some (23, .iload 1, 1, 0, 0, 1, []) := by rw [kc163_eq]; rfl
theorem rw_163_14 : (codeOf 163)[14]? = some (24, .invokevirtual 148, 164, 0, 0, 3, []) := by rw [kc163_eq]; rfl
theorem rw_163_15 : (codeOf 163)[15]? = some (27, .if_icmp .ge 22, 49, 25, 0, 3, []) := by rw [kc163_eq]; rfl
theorem rw_163_16 : (codeOf 163)[16]? = some (30, .aload 0, 0, 0, 3, 1, []) := by rw [kc163_eq]; rfl
theorem rw_163_17 : (codeOf 163)[17]? = some (31, .getfield 7, 9, 0, 3, 3, []) := by rw [kc163_eq]; rfl
theorem rw_163_18 : (codeOf 163)[18]? = some (34, .iconst 217, 2147483865, 0, 0, 3, []) := by rw [kc163_eq]; rfl
theorem rw_163_19 : (codeOf 163)[19]? = some (37, .iaload, 0, 0, 0, 1, []) := by rw [kc163_eq]; rfl
theorem rw_163_20 : (codeOf 163)[20]? = some (38, .aload 0, 0, 0, 3, 1, []) := by rw [kc163_eq]; rfl
theorem rw_163_21 : (codeOf 163)[21]? = some (39, .getfield 7, 9, 0, 3, 3, []) := by rw [kc163_eq]; rfl
theorem rw_163_22 : (codeOf 163)[22]? = some (42, .iconst 210, 2147483858, 0, 0, 3, []) := by rw [kc163_eq]; rfl
theorem rw_163_23 : (codeOf 163)[23]? = some (45, .iaload, 0, 0, 0, 1, []) := by rw [kc163_eq]; rfl
theorem rw_163_24 : (codeOf 163)[24]? = some (46, .if_icmp .lt 5, 51, 27, 0, 3, []) := by rw [kc163_eq]; rfl
theorem rw_163_25 : (codeOf 163)[25]? = some (49, .iconst 0, 2147483648, 0, 0, 1, []) := by rw [kc163_eq]; rfl
theorem rw_163_26 : (codeOf 163)[26]? = some (50, .ireturn, 2, 0, 0, 1, []) := by rw [kc163_eq]; rfl
theorem rw_163_27 : (codeOf 163)[27]? = some (51, .aload 0, 0, 0, 3, 1, []) := by rw [kc163_eq]; rfl
theorem rw_163_28 : (codeOf 163)[28]? = some (52, .iload 1, 1, 0, 0, 1, []) := by rw [kc163_eq]; rfl
theorem rw_163_29 : (codeOf 163)[29]? = some (53, .iconst 14, 2147483662, 0, 0, 2, []) := by rw [kc163_eq]; rfl
theorem rw_163_30 : (codeOf 163)[30]? = some (55, .invokevirtual 62, 130, 0, 0, 3, []) := by rw [kc163_eq]; rfl
theorem rw_163_31 : (codeOf 163)[31]? = some (58, .istore 2, 2, 0, 0, 1, []) := by rw [kc163_eq]; rfl
theorem rw_163_32 : (codeOf 163)[32]? = some (59, .aload 0, 0, 0, 3, 1, []) := by rw [kc163_eq]; rfl
theorem rw_163_33 : (codeOf 163)[33]? = some (60, .iload 1, 1, 0, 0, 1, []) := by rw [kc163_eq]; rfl
theorem rw_163_34 : (codeOf 163)[34]? = some (61, .iconst 14, 2147483662, 0, 0, 2, []) := by rw [kc163_eq]; rfl
theorem rw_163_35 : (codeOf 163)[35]? = some (63, .iload 2, 2, 0, 0, 1, []) := by rw [kc163_eq]; rfl
theorem rw_163_36 : (codeOf 163)[36]? = some (64, .iconst 1, 2147483649, 0, 0, 1, []) := by rw [kc163_eq]; rfl
theorem rw_163_37 : (codeOf 163)[37]? = some (65, .iadd, 0, 0, 0, 1, []) := by rw [kc163_eq]; rfl
theorem rw_163_38 : (codeOf 163)[38]? = some (66, .invokevirtual 66, 119, 0, 0, 3, []) := by rw [kc163_eq]; rfl
theorem rw_163_39 : (codeOf 163)[39]? = some (69, .aload 0, 0, 0, 3, 1, []) := by rw [kc163_eq]; rfl
theorem rw_163_40 : (codeOf 163)[40]? = some (70, .iload 1, 1, 0, 0, 1, []) := by rw [kc163_eq]; rfl
theorem rw_163_41 : (codeOf 163)[41]? = some (71, .iconst 4, 2147483652, 0, 0, 1, []) := by rw [kc163_eq]; rfl
theorem rw_163_42 : (codeOf 163)[42]? = some (72, .aload 0, 0, 0, 3, 1, []) := by rw [kc163_eq]; rfl
theorem rw_163_43 : (codeOf 163)[43]? = some (73, .iload 1, 1, 0, 0, 1, []) := by rw [kc163_eq]; rfl
theorem rw_163_44 : (codeOf 163)[44]? = some (74, .iconst 4, 2147483652, 0, 0, 1, []) := by rw [kc163_eq]; rfl
theorem rw_163_45 : (codeOf 163)[45]? = some (75, .invokevirtual 62, 130, 0, 0, 3, []) := by rw [kc163_eq]; rfl
theorem rw_163_46 : (codeOf 163)[46]? = some (78, .iconst 1, 2147483649, 0, 0, 1, []) := by rw [kc163_eq]; rfl
theorem rw_163_47 : (codeOf 163)[47]? = some (79, .isub, 0, 0, 0, 1, []) := by rw [kc163_eq]; rfl
theorem rw_163_48 : (codeOf 163)[48]? = some (80, .invokevirtual 66, 119, 0, 0, 3, []) := by rw [kc163_eq]; rfl
theorem rw_163_49 : (codeOf 163)[49]? = some (83, .aload 0, 0, 0, 3, 1, []) := by rw [kc163_eq]; rfl
theorem rw_163_50 : (codeOf 163)[50]? = some (84, .iload 1, 1, 0, 0, 1, []) := by rw [kc163_eq]; rfl
theorem rw_163_51 : (codeOf 163)[51]? = some (85, .iconst 0, 2147483648, 0, 0, 1, []) := by rw [kc163_eq]; rfl
theorem rw_163_52 : (codeOf 163)[52]? = some (86, .iconst 1, 2147483649, 0, 0, 1, []) := by rw [kc163_eq]; rfl
theorem rw_163_53 : (codeOf 163)[53]? = some (87, .invokevirtual 121, 152, 0, 0, 3, []) := by rw [kc163_eq]; rfl
theorem rw_163_54 : (codeOf 163)[54]? = some (90, .iconst 220, 2147483868, 0, 0, 3, []) := by rw [kc163_eq]; rfl
theorem rw_163_55 : (codeOf 163)[55]? = some (93, .iconst 3, 2147483651, 0, 0, 1, []) := by rw [kc163_eq]; rfl
theorem rw_163_56 : (codeOf 163)[56]? = some (94, .aload 0, 0, 0, 3, 1, []) := by rw [kc163_eq]; rfl
theorem rw_163_57 : (codeOf 163)[57]? = some (95, .getfield 7, 9, 0, 3, 3, []) := by rw [kc163_eq]; rfl
theorem rw_163_58 : (codeOf 163)[58]? = some (98, .iconst 217, 2147483865, 0, 0, 3, []) := by rw [kc163_eq]; rfl
theorem rw_163_59 : (codeOf 163)[59]? = some (101, .iaload, 0, 0, 0, 1, []) := by rw [kc163_eq]; rfl
theorem rw_163_60 : (codeOf 163)[60]? = some (102, .imul, 0, 0, 0, 1, []) := by rw [kc163_eq]; rfl
theorem rw_163_61 : (codeOf 163)[61]? = some (103, .iadd, 0, 0, 0, 1, []) := by rw [kc163_eq]; rfl
theorem rw_163_62 : (codeOf 163)[62]? = some (104, .istore 3, 3, 0, 0, 1, []) := by rw [kc163_eq]; rfl
theorem rw_163_63 : (codeOf 163)[63]? = some (105, .aload 0, 0, 0, 3, 1, []) := by rw [kc163_eq]; rfl
theorem rw_163_64 : (codeOf 163)[64]? = some (106, .getfield 7, 9, 0, 3, 3, []) := by rw [kc163_eq]; rfl
theorem rw_163_65 : (codeOf 163)[65]? = some (109, .iload 3, 3, 0, 0, 1, []) := by rw [kc163_eq]; rfl
theorem rw_163_66 : (codeOf 163)[66]? = some (110, .iload 1, 1, 0, 0, 1, []) := by rw [kc163_eq]; rfl
theorem rw_163_67 : (codeOf 163)[67]? = some (111, .iastore, 0, 0, 0, 1, []) := by rw [kc163_eq]; rfl
theorem rw_163_68 : (codeOf 163)[68]? = some (112, .aload 0, 0, 0, 3, 1, []) := by rw [kc163_eq]; rfl
theorem rw_163_69 : (codeOf 163)[69]? = some (113, .getfield 7, 9, 0, 3, 3, []) := by rw [kc163_eq]; rfl
theorem rw_163_70 : (codeOf 163)[70]? = some (116, .iload 3, 3, 0, 0, 1, []) := by rw [kc163_eq]; rfl
theorem rw_163_71 : (codeOf 163)[71]? = some (117, .iconst 1, 2147483649, 0, 0, 1, []) := by rw [kc163_eq]; rfl
theorem rw_163_72 : (codeOf 163)[72]? = some (118, .iadd, 0, 0, 0, 1, []) := by rw [kc163_eq]; rfl
theorem rw_163_73 : (codeOf 163)[73]? = some (119, .iload 2, 2, 0, 0, 1, []) := by rw [kc163_eq]; rfl
theorem rw_163_74 : (codeOf 163)[74]? = some (120, .iastore, 0, 0, 0, 1, []) := by rw [kc163_eq]; rfl
theorem rw_163_75 : (codeOf 163)[75]? = some (121, .aload 0, 0, 0, 3, 1, []) := by rw [kc163_eq]; rfl
theorem rw_163_76 : (codeOf 163)[76]? = some (122, .getfield 7, 9, 0, 3, 3, []) := by rw [kc163_eq]; rfl
theorem rw_163_77 : (codeOf 163)[77]? = some (125, .iload 3, 3, 0, 0, 1, []) := by rw [kc163_eq]; rfl
theorem rw_163_78 : (codeOf 163)[78]? = some (126, .iconst 2, 2147483650, 0, 0, 1, []) := by rw [kc163_eq]; rfl
theorem rw_163_79 : (codeOf 163)[79]? = some (127, .iadd, 0, 0, 0, 1, []) := by rw [kc163_eq]; rfl
theorem rw_163_80 : (codeOf 163)[80]? = some (128, .aload 0, 0, 0, 3, 1, []) := by rw [kc163_eq]; rfl
theorem rw_163_81 : (codeOf 163)[81]? = some (129, .getfield 7, 9, 0, 3, 3, []) := by rw [kc163_eq]; rfl
theorem rw_163_82 : (codeOf 163)[82]? = some (132, .iconst 214, 2147483862, 0, 0, 3, []) := by rw [kc163_eq]; rfl
theorem rw_163_83 : (codeOf 163)[83]? = some (135, .iaload, 0, 0, 0, 1, []) := by rw [kc163_eq]; rfl
theorem rw_163_84 : (codeOf 163)[84]? = some (136, .iastore, 0, 0, 0, 1, []) := by rw [kc163_eq]; rfl
theorem rw_163_85 : (codeOf 163)[85]? = some (137, .aload 0, 0, 0, 3, 1, []) := by rw [kc163_eq]; rfl
theorem rw_163_86 : (codeOf 163)[86]? = some (138, .getfield 7, 9, 0, 3, 3, []) := by rw [kc163_eq]; rfl
theorem rw_163_87 : (codeOf 163)[87]? = some (141, .iconst 217, 2147483865, 0, 0, 3, []) := by rw [kc163_eq]; rfl
theorem rw_163_88 : (codeOf 163)[88]? = some (144, .dup2, 0, 0, 0, 1, []) := by rw [kc163_eq]; rfl
theorem rw_163_89 : (codeOf 163)[89]? = some (145, .iaload, 0, 0, 0, 1, []) := by rw [kc163_eq]; rfl
theorem rw_163_90 : (codeOf 163)[90]? = some (146, .iconst 1, 2147483649, 0, 0, 1, []) := by rw [kc163_eq]; rfl
theorem rw_163_91 : (codeOf 163)[91]? = some (147, .iadd, 0, 0, 0, 1, []) := by rw [kc163_eq]; rfl
theorem rw_163_92 : (codeOf 163)[92]? = some (148, .iastore, 0, 0, 0, 1, []) := by rw [kc163_eq]; rfl
theorem rw_163_93 : (codeOf 163)[93]? = some (149, .aload 0, 0, 0, 3, 1, []) := by rw [kc163_eq]; rfl
theorem rw_163_94 : (codeOf 163)[94]? = some (150, .getfield 7, 9, 0, 3, 3, []) := by rw [kc163_eq]; rfl
theorem rw_163_95 : (codeOf 163)[95]? = some (153, .iconst 218, 2147483866, 0, 0, 3, []) := by rw [kc163_eq]; rfl
theorem rw_163_96 : (codeOf 163)[96]? = some (156, .iaload, 0, 0, 0, 1, []) := by rw [kc163_eq]; rfl
theorem rw_163_97 : (codeOf 163)[97]? = some (157, .aload 0, 0, 0, 3, 1, []) := by rw [kc163_eq]; rfl
theorem rw_163_98 : (codeOf 163)[98]? = some (158, .getfield 7, 9, 0, 3, 3, []) := by rw [kc163_eq]; rfl
theorem rw_163_99 : (codeOf 163)[99]? = some (161, .iconst 211, 2147483859, 0, 0, 3, []) := by rw [kc163_eq]; rfl
theorem rw_163_100 : (codeOf 163)[100]? = some (164, .iaload, 0, 0, 0, 1, []) := by rw [kc163_eq]; rfl
theorem rw_163_101 : (codeOf 163)[101]? = some (165, .if_icmp .lt 12, 177, 109, 0, 3, []) := by rw [kc163_eq]; rfl
theorem rw_163_102 : (codeOf 163)[102]? = some (168, .aload 0, 0, 0, 3, 1, []) := by rw [kc163_eq]; rfl
theorem rw_163_103 : (codeOf 163)[103]? = some (169, .iload 1, 1, 0, 0, 1, []) := by rw [kc163_eq]; rfl
theorem rw_163_104 : (codeOf 163)[104]? = some (170, .iconst 5, 2147483653, 0, 0, 1, []) := by rw [kc163_eq]; rfl
theorem rw_163_105 : (codeOf 163)[105]? = some (171, .iconst 1, 2147483649, 0, 0, 1, []) := by rw [kc163_eq]; rfl
theorem rw_163_106 : (codeOf 163)[106]? = some (172, .invokevirtual 121, 152, 0, 0, 3, []) := by rw [kc163_eq]; rfl
theorem rw_163_107 : (codeOf 163)[107]? = some (175, .iconst 1, 2147483649, 0, 0, 1, []) := by rw [kc163_eq]; rfl
theorem rw_163_108 : (codeOf 163)[108]? = some (176, .ireturn, 2, 0, 0, 1, []) := by rw [kc163_eq]; rfl
theorem rw_163_109 : (codeOf 163)[109]? = some (177, .iconst 820, 2147484468, 0, 0, 3, []) := by rw [kc163_eq]; rfl
theorem rw_163_110 : (codeOf 163)[110]? = some (180, .iconst 3, 2147483651, 0, 0, 1, []) := by rw [kc163_eq]; rfl
theorem rw_163_111 : (codeOf 163)[111]? = some (181, .aload 0, 0, 0, 3, 1, []) := by rw [kc163_eq]; rfl
theorem rw_163_112 : (codeOf 163)[112]? = some (182, .getfield 7, 9, 0, 3, 3, []) := by rw [kc163_eq]; rfl
theorem rw_163_113 : (codeOf 163)[113]? = some (185, .iconst 218, 2147483866, 0, 0, 3, []) := by rw [kc163_eq]; rfl
theorem rw_163_114 : (codeOf 163)[114]? = some (188, .iaload, 0, 0, 0, 1, []) := by rw [kc163_eq]; rfl
theorem rw_163_115 : (codeOf 163)[115]? = some (189, .imul, 0, 0, 0, 1, []) := by rw [kc163_eq]; rfl
theorem rw_163_116 : (codeOf 163)[116]? = some (190, .iadd, 0, 0, 0, 1, []) := by rw [kc163_eq]; rfl
theorem rw_163_117 : (codeOf 163)[117]? = some (191, .istore 4, 4, 0, 0, 2, []) := by rw [kc163_eq]; rfl
theorem rw_163_118 : (codeOf 163)[118]? = some (193, .aload 0, 0, 0, 3, 1, []) := by rw [kc163_eq]; rfl
theorem rw_163_119 : (codeOf 163)[119]? = some (194, .getfield 7, 9, 0, 3, 3, []) := by rw [kc163_eq]; rfl
theorem rw_163_120 : (codeOf 163)[120]? = some (197, .iload 4, 4, 0, 0, 2, []) := by rw [kc163_eq]; rfl
theorem rw_163_121 : (codeOf 163)[121]? = some (199, .iload 1, 1, 0, 0, 1, []) := by rw [kc163_eq]; rfl
theorem rw_163_122 : (codeOf 163)[122]? = some (200, .iastore, 0, 0, 0, 1, []) := by rw [kc163_eq]; rfl
theorem rw_163_123 : (codeOf 163)[123]? = some (201, .aload 0, 0, 0, 3, 1, []) := by rw [kc163_eq]; rfl
theorem rw_163_124 : (codeOf 163)[124]? = some (202, .getfield 7, 9, 0, 3, 3, []) := by rw [kc163_eq]; rfl
theorem rw_163_125 : (codeOf 163)[125]? = some (205, .iload 4, 4, 0, 0, 2, []) := by rw [kc163_eq]; rfl
theorem rw_163_126 : (codeOf 163)[126]? = some (207, .iconst 1, 2147483649, 0, 0, 1, []) := by rw [kc163_eq]; rfl
theorem rw_163_127 : (codeOf 163)[127]? = some (208, .iadd, 0, 0, 0, 1, []) := by rw [kc163_eq]; rfl
theorem rw_163_128 : (codeOf 163)[128]? = some (209, .aload 0, 0, 0, 3, 1, []) := by rw [kc163_eq]; rfl
theorem rw_163_129 : (codeOf 163)[129]? = some (210, .iload 1, 1, 0, 0, 1, []) := by rw [kc163_eq]; rfl
theorem rw_163_130 : (codeOf 163)[130]? = some (211, .iconst 1, 2147483649, 0, 0, 1, []) := by rw [kc163_eq]; rfl
theorem rw_163_131 : (codeOf 163)[131]? = some (212, .invokevirtual 62, 130, 0, 0, 3, []) := by rw [kc163_eq]; rfl
theorem rw_163_132 : (codeOf 163)[132]? = some (215, .iastore, 0, 0, 0, 1, []) := by rw [kc163_eq]; rfl
theorem rw_163_133 : (codeOf 163)[133]? = some (216, .aload 0, 0, 0, 3, 1, []) := by rw [kc163_eq]; rfl
theorem rw_163_134 : (codeOf 163)[134]? = some (217, .getfield 7, 9, 0, 3, 3, []) := by rw [kc163_eq]; rfl
theorem rw_163_135 : (codeOf 163)[135]? = some (220, .iload 4, 4, 0, 0, 2, []) := by rw [kc163_eq]; rfl
theorem rw_163_136 : (codeOf 163)[136]? = some (222, .iconst 2, 2147483650, 0, 0, 1, []) := by rw [kc163_eq]; rfl
theorem rw_163_137 : (codeOf 163)[137]? = some (223, .iadd, 0, 0, 0, 1, []) := by rw [kc163_eq]; rfl
theorem rw_163_138 : (codeOf 163)[138]? = some (224, .iload 2, 2, 0, 0, 1, []) := by rw [kc163_eq]; rfl
theorem rw_163_139 : (codeOf 163)[139]? = some (225, .iastore, 0, 0, 0, 1, []) := by rw [kc163_eq]; rfl
theorem rw_163_140 : (codeOf 163)[140]? = some (226, .aload 0, 0, 0, 3, 1, []) := by rw [kc163_eq]; rfl
theorem rw_163_141 : (codeOf 163)[141]? = some (227, .getfield 7, 9, 0, 3, 3, []) := by rw [kc163_eq]; rfl
theorem rw_163_142 : (codeOf 163)[142]? = some (230, .iconst 218, 2147483866, 0, 0, 3, []) := by rw [kc163_eq]; rfl
theorem rw_163_143 : (codeOf 163)[143]? = some (233, .dup2, 0, 0, 0, 1, []) := by rw [kc163_eq]; rfl
theorem rw_163_144 : (codeOf 163)[144]? = some (234, .iaload, 0, 0, 0, 1, []) := by rw [kc163_eq]; rfl
theorem rw_163_145 : (codeOf 163)[145]? = some (235, .iconst 1, 2147483649, 0, 0, 1, []) := by rw [kc163_eq]; rfl
theorem rw_163_146 : (codeOf 163)[146]? = some (236, .iadd, 0, 0, 0, 1, []) := by rw [kc163_eq]; rfl
theorem rw_163_147 : (codeOf 163)[147]? = some (237, .iastore, 0, 0, 0, 1, []) := by rw [kc163_eq]; rfl
theorem rw_163_148 : (codeOf 163)[148]? = some (238, .iconst 1, 2147483649, 0, 0, 1, []) := by rw [kc163_eq]; rfl
theorem rw_163_149 : (codeOf 163)[149]? = some (239, .ireturn, 2, 0, 0, 1, []) := by rw [kc163_eq]; rfl
theorem kc164_eq : codeOf 164 = kc164 := rfl
theorem hk_164 : 164 < 186 := by decide
theorem rw_164_0 : (codeOf 164)[0]? = some (0, .aload 0, 0, 0, 3, 1, []) := by rw [kc164_eq]; rfl
theorem rw_164_1 : (codeOf 164)[1]? = some (1, .iload 1, 1, 0, 0, 1, []) := by rw [kc164_eq]; rfl
theorem rw_164_2 : (codeOf 164)[2]? = some (2, .iconst 5, 2147483653, 0, 0, 1, []) := by rw [kc164_eq]; rfl
theorem rw_164_3 : (codeOf 164)[3]? = some (3, .invokevirtual 62, 130, 0, 0, 3, []) := by rw [kc164_eq]; rfl
theorem rw_164_4 : (codeOf 164)[4]? = some (6, .iconst 16, 2147483664, 0, 0, 2, []) := by rw [kc164_eq]; rfl
theorem rw_164_5 : (codeOf 164)[5]? = some (8, .idiv, 0, 0, 0, 1, []) := by rw [kc164_eq]; rfl
theorem rw_164_6 : (codeOf 164)[6]? = some (9, .aload 0, 0, 0, 3, 1, []) := by rw [kc164_eq]; rfl
theorem rw_164_7 : (codeOf 164)[7]? = some (10, .getfield 32, 9, 10, 3, 3, []) := by rw [kc164_eq]; rfl
theorem rw_164_8 : (codeOf 164)[8]? = some (13, .iload 1, 1, 0, 0, 1, []) := by rw [kc164_eq]; rfl
theorem rw_164_9 : (codeOf 164)[9]? = some (14, .iaload, 0, 0, 0, 1, []) := by rw [kc164_eq]; rfl
theorem rw_164_10 : (codeOf 164)[10]? = some (15, .invokestatic 96, 137, 0, 0, 3, []) := by rw [kc164_eq]; rfl
theorem rw_164_11 : (codeOf 164)[11]? = some (18, .iconst 16, 2147483664, 0, 0, 2, []) := by rw [kc164_eq]; rfl
theorem rw_164_12 : (codeOf 164)[12]? = some (20, .aload 0, 0, 0, 3, 1, []) := by rw [kc164_eq]; rfl
theorem rw_164_13 : (codeOf 164)[13]? = some (21, .iload 1, 1, 0, 0, 1, []) := by rw [kc164_eq]; rfl
theorem rw_164_14 : (codeOf 164)[14]? = some (22, .iconst 12, 2147483660, 0, 0, 2, []) := by rw [kc164_eq]; rfl
theorem rw_164_15 : (codeOf 164)[15]? = some (24, .invokevirtual 62, 130, 0, 0, 3, []) := by rw [kc164_eq]; rfl
theorem rw_164_16 : (codeOf 164)[16]? = some (27, .isub, 0, 0, 0, 1, []) := by rw [kc164_eq]; rfl
theorem rw_164_17 : (codeOf 164)[17]? = some (28, .imul, 0, 0, 0, 1, []) := by rw [kc164_eq]; rfl
theorem rw_164_18 : (codeOf 164)[18]? = some (29, .iconst 16, 2147483664, 0, 0, 2, []) := by rw [kc164_eq]; rfl
theorem rw_164_19 : (codeOf 164)[19]? = some (31, .idiv, 0, 0, 0, 1, []) := by rw [kc164_eq]; rfl
theorem rw_164_20 : (codeOf 164)[20]? = some (32, .istore 2, 2, 0, 0, 1, []) := by rw [kc164_eq]; rfl
theorem rw_164_21 : (codeOf 164)[21]? = some (33, .aload 0, 0, 0, 3, 1, []) := by rw [kc164_eq]; rfl
theorem rw_164_22 : (codeOf 164)[22]? = some (34, .getfield 32, 9, 10, 3, 3, []) := by rw [kc164_eq]; rfl
theorem rw_164_23 : (codeOf 164)[23]? = some (37, .iload 1, 1, 0, 0, 1, []) := by rw [kc164_eq]; rfl
theorem rw_164_24 : (codeOf 164)[24]? = some (38, .iaload, 0, 0, 0, 1, []) := by rw [kc164_eq]; rfl
theorem rw_164_25 : (codeOf 164)[25]? = some (39, .ifCond .le 11, 50, 30, 0, 3, []) := by rw [kc164_eq]; rfl
theorem rw_164_26 : (codeOf 164)[26]? = some (42, .iconst 1, 2147483649, 0, 0, 1, []) := by rw [kc164_eq]; rfl
theorem rw_164_27 : (codeOf 164)[27]? = some (43, .iload 2, 2, 0, 0, 1, []) := by rw [kc164_eq]; rfl
theorem rw_164_28 : (codeOf 164)[28]? = some (44, .invokestatic 99, 138, 0, 0, 3, []) := by rw [kc164_eq]; rfl
theorem rw_164_29 : (codeOf 164)[29]? = some (47, .goto 4, 51, 31, 0, 3, []) := by rw [kc164_eq]; rfl
theorem rw_164_30 : (codeOf 164)[30]? = some (50, .iconst 0, 2147483648, 0, 0, 1, []) := by rw [kc164_eq]; rfl
theorem rw_164_31 : (codeOf 164)[31]? = some (51, .ireturn, 1, 0, 0, 1, []) := by rw [kc164_eq]; rfl
section MG
variable {d k j : Nat} {lv : List (Option Value)} {st : List Value} {ph : PH} {Q : Option Value → PH → Prop} {B : PH} {p : Nat → Int32} {a : Nat → Nat → Int32} {z : Nat → Int32}
theorem mz_pstI (R : (Nat → Int32) → Prop) (hk : k < 186) (hB : 87 ≤ B.length) {pc c b x : Nat} {e : Int} {y : Int32} {ts : List Nat} (hrow : (codeOf k)[j]? = some (pc, .iastore, c, b, x, 1, ts)) (i : Nat) (he : e = (i : Int)) (hi : i < 14000) (hR : R (upd p i y)) (h : ∀ q, R q → ZR d k (j + 1) lv st (mh B q a z) Q) : ZR d k j lv (.int y :: .int (iv e) :: .ref 76 :: st) (mh B p a z) Q :=
  mz_pst hk hB hrow i he hi (h _ hR)
theorem flo_loop (hB : 87 ≤ B.length) {c : Int32} {F : Nat} (hF : p 217 = iv (F : Int)) (hF2 : F ≤ 200) : ∀ (n k : Nat) (s : Int32), k + n = F → ZR d 135 4 [some (.ref 75), some (.int (c)), some (.int (s)), some (.int (iv ((k : Int))))] [] (mh B p a z) (fun v ph' => ph' = mh B p a z ∧ ∃ x : Int32, v = some (.int x)) := by
  intro n
  induction n with
  | zero =>
    intro k s hkn
    refine zr_cut hk_135 rw_135_4 ?_
    refine zr_iload hk_135 rw_135_5 rfl ?_
    refine zr_aload hk_135 rw_135_6 rfl ?_
    refine mz_getf hk_135 hB rw_135_7 rfl ?_
    refine zi_const hk_135 rw_135_8 (c := 217) rfl ?_
    refine mz_plde hk_135 hB rw_135_9 (217) (by omega) (by omega) (hF) ?_
    refine zi_icmp_ge hk_135 rw_135_10 (by unfold inR; omega) (by unfold inR; omega) (fun h10 => ?_) (fun h10 => by omega)
    refine zr_iload hk_135 rw_135_29 rfl ?_
    refine zr_ireturn hk_135 rw_135_30 ?_
    exact ⟨rfl, _, rfl⟩
  | succ n ih =>
    intro k s hkn
    refine zr_cut hk_135 rw_135_4 ?_
    refine zr_iload hk_135 rw_135_5 rfl ?_
    refine zr_aload hk_135 rw_135_6 rfl ?_
    refine mz_getf hk_135 hB rw_135_7 rfl ?_
    refine zi_const hk_135 rw_135_8 (c := 217) rfl ?_
    refine mz_plde hk_135 hB rw_135_9 (217) (by omega) (by omega) (hF) ?_
    refine zi_icmp_ge hk_135 rw_135_10 (by unfold inR; omega) (by unfold inR; omega) (fun h10 => by omega) (fun h10 => ?_)
    refine zr_iload hk_135 rw_135_11 rfl ?_
    refine zr_aload hk_135 rw_135_12 rfl ?_
    refine mz_getf hk_135 hB rw_135_13 rfl ?_
    refine zi_const hk_135 rw_135_14 (c := 220) rfl ?_
    refine zi_const hk_135 rw_135_15 (c := 3) rfl ?_
    refine zr_iload hk_135 rw_135_16 rfl ?_
    refine zi_mul hk_135 rw_135_17 ?_
    refine zi_add hk_135 rw_135_18 ?_
    refine mz_pld hk_135 hB rw_135_19 (3 * k + 220) (by omega) (by omega) ?_
    refine zr_iload hk_135 rw_135_20 rfl ?_
    refine zo_icmp_ne hk_135 rw_135_21 (fun h21 => ?_) (fun h21 => ?_)
    · refine zi_const hk_135 rw_135_24 (c := 0) rfl ?_
      refine zr_iadd hk_135 rw_135_25 ?_
      refine zi_istore hk_135 rw_135_26 rfl (lv' := [some (.ref 75), some (.int (c)), some (.int ((s) + iv (0))), some (.int (iv ((k : Int))))]) rfl ?_
      refine zi_inc hk_135 rw_135_27 rfl rfl inc_1 (lv' := [some (.ref 75), some (.int (c)), some (.int ((s) + iv (0))), some (.int (iv ((k : Int) + 1)))]) rfl ?_
      refine zr_goto hk_135 rw_135_28 ?_
      exact ih (k + 1) _ (by omega)
    · refine zi_const hk_135 rw_135_22 (c := 1) rfl ?_
      refine zr_goto hk_135 rw_135_23 ?_
      refine zr_iadd hk_135 rw_135_25 ?_
      refine zi_istore hk_135 rw_135_26 rfl (lv' := [some (.ref 75), some (.int (c)), some (.int ((s) + iv (1))), some (.int (iv ((k : Int))))]) rfl ?_
      refine zi_inc hk_135 rw_135_27 rfl rfl inc_1 (lv' := [some (.ref 75), some (.int (c)), some (.int ((s) + iv (1))), some (.int (iv ((k : Int) + 1)))]) rfl ?_
      refine zr_goto hk_135 rw_135_28 ?_
      exact ih (k + 1) _ (by omega)
theorem flightOf_ok (d : Nat) (hB : 87 ≤ B.length) {c : Int32} {F : Nat} (hF : p 217 = iv (F : Int)) (hF2 : F ≤ 200) : ZC d 135 [.ref 75, .int c] (mh B p a z) (fun v ph' => ph' = mh B p a z ∧ ∃ x : Int32, v = some (.int x)) := by
  refine ZC.of (lv := [some (.ref 75), some (.int (c))]) hk_135 (fun i v hv => ?_) ?_
  · match i, hv with
    | 0, hv => cases hv; rfl
    | 1, hv => cases hv; rfl
    | i + 2, hv => simp at hv
  refine zi_const hk_135 rw_135_0 (c := 0) rfl ?_
  refine zi_istore hk_135 rw_135_1 rfl (lv' := [some (.ref 75), some (.int (c)), some (.int (iv (0)))]) rfl ?_
  refine zi_const hk_135 rw_135_2 (c := 0) rfl ?_
  refine zi_istore hk_135 rw_135_3 rfl (lv' := [some (.ref 75), some (.int (c)), some (.int (iv (0))), some (.int (iv (0)))]) rfl ?_
  exact flo_loop hB hF hF2 F 0 _ (by omega)
theorem c_flightOf (hk : k < 186) (hB : 87 ≤ B.length) {pc b x ix : Nat} {ts : List Nat} {c : Int32} (hrow : (codeOf k)[j]? = some (pc, .invokevirtual ix, 135, b, x, 3, ts)) {F : Nat} (hF : p 217 = iv (F : Int)) (hF2 : F ≤ 200) (hcat : catS st ≤ 8) (hQ : ∀ x : Int32, ZR (d + 1) k (j + 1) lv (.int x :: st) (mh B p a z) Q) : ZR (d + 1) k j lv (.int c :: .ref 75 :: st) (mh B p a z) Q := by
  refine mz_call (L := 4) (n := 1) (as := [.int c]) (r := st) hk hB hrow (by decide) (by decide) ⟨rfl, rfl, rfl, rfl⟩ rfl rfl hcat (Nat.le_of_ble_eq_true rfl) (flightOf_ok d hB hF hF2) ?_
  rintro w ph' ⟨rfl, x, rfl⟩
  exact hQ x
theorem windowOf_ok (d : Nat) (hB : 87 ≤ B.length) {c : Nat} (hc : c < 10) : ZC (d + 1) 164 [.ref 75, .int (iv (c : Int))] (mh B p a z) (fun v ph' => ph' = mh B p a z ∧ ∃ x : Int32, v = some (.int x)) := by
  refine ZC.of (lv := [some (.ref 75), some (.int (iv ((c : Int))))]) hk_164 (fun i v hv => ?_) ?_
  · match i, hv with
    | 0, hv => cases hv; rfl
    | 1, hv => cases hv; rfl
    | i + 2, hv => simp at hv
  refine zr_aload hk_164 rw_164_0 rfl ?_
  refine zr_iload hk_164 rw_164_1 rfl ?_
  refine zi_const hk_164 rw_164_2 (c := 5) rfl ?_
  refine c_of hk_164 hB rw_164_3 (21 * c + 5) (by omega) (by omega) (Nat.le_of_ble_eq_true rfl) ?_
  refine zi_const hk_164 rw_164_4 (c := 16) rfl ?_
  refine zr_idiv hk_164 rw_164_5 (iv16_ne) ?_
  refine zr_aload hk_164 rw_164_6 rfl ?_
  refine mz_getf hk_164 hB rw_164_7 rfl ?_
  refine zr_iload hk_164 rw_164_8 rfl ?_
  refine mz_ald hk_164 (mh_a6 hB) rw_164_9 (c) (by omega) (by omega) (by decide) ?_
  refine c_least hk_164 hB rw_164_10 (Nat.le_of_ble_eq_true rfl) ?_
  refine zi_const hk_164 rw_164_11 (c := 16) rfl ?_
  refine zr_aload hk_164 rw_164_12 rfl ?_
  refine zr_iload hk_164 rw_164_13 rfl ?_
  refine zi_const hk_164 rw_164_14 (c := 12) rfl ?_
  refine c_of hk_164 hB rw_164_15 (21 * c + 12) (by omega) (by omega) (Nat.le_of_ble_eq_true rfl) ?_
  refine zr_isub hk_164 rw_164_16 ?_
  refine zr_imul hk_164 rw_164_17 ?_
  refine zi_const hk_164 rw_164_18 (c := 16) rfl ?_
  refine zr_idiv hk_164 rw_164_19 (iv16_ne) ?_
  refine zi_istore hk_164 rw_164_20 rfl (lv' := [some (.ref 75), some (.int (iv ((c : Int)))), some (.int (_))]) rfl ?_
  refine zr_aload hk_164 rw_164_21 rfl ?_
  refine mz_getf hk_164 hB rw_164_22 rfl ?_
  refine zr_iload hk_164 rw_164_23 rfl ?_
  refine mz_ald hk_164 (mh_a6 hB) rw_164_24 (c) (by omega) (by omega) (by decide) ?_
  refine zo_if_le hk_164 rw_164_25 (fun h25 => ?_) (fun h25 => ?_)
  · refine zi_const hk_164 rw_164_30 (c := 0) rfl ?_
    refine zr_ireturn hk_164 rw_164_31 ?_
    exact ⟨rfl, _, rfl⟩
  · refine zi_const hk_164 rw_164_26 (c := 1) rfl ?_
    refine zr_iload hk_164 rw_164_27 rfl ?_
    refine c_most hk_164 hB rw_164_28 (Nat.le_of_ble_eq_true rfl) ?_
    refine zr_goto hk_164 rw_164_29 ?_
    refine zr_ireturn hk_164 rw_164_31 ?_
    exact ⟨rfl, _, rfl⟩
theorem c_windowOf (hk : k < 186) (hB : 87 ≤ B.length) {pc b x ix : Nat} {ts : List Nat} {c : Nat} (hrow : (codeOf k)[j]? = some (pc, .invokevirtual ix, 164, b, x, 3, ts)) (hc : c < 10) (hcat : catS st ≤ 8) (hQ : ∀ x : Int32, ZR (d + 2) k (j + 1) lv (.int x :: st) (mh B p a z) Q) : ZR (d + 2) k j lv (.int (iv (c : Int)) :: .ref 75 :: st) (mh B p a z) Q := by
  refine mz_call (L := 3) (n := 1) (as := [.int (iv (c : Int))]) (r := st) hk hB hrow (by decide) (by decide) ⟨rfl, rfl, rfl, rfl⟩ rfl rfl hcat (Nat.le_of_ble_eq_true rfl) (windowOf_ok d hB hc) ?_
  rintro w ph' ⟨rfl, x, rfl⟩
  exact hQ x
theorem timeoutOf_ok (d : Nat) (hB : 87 ≤ B.length) {c : Nat} (hc : c < 10) : ZC (d + 1) 159 [.ref 75, .int (iv (c : Int))] (mh B p a z) (fun v ph' => ph' = mh B p a z ∧ ∃ x : Int32, v = some (.int x)) := by
  refine ZC.of (lv := [some (.ref 75), some (.int (iv ((c : Int))))]) hk_159 (fun i v hv => ?_) ?_
  · match i, hv with
    | 0, hv => cases hv; rfl
    | 1, hv => cases hv; rfl
    | i + 2, hv => simp at hv
  refine zr_aload hk_159 rw_159_0 rfl ?_
  refine zr_iload hk_159 rw_159_1 rfl ?_
  refine zi_const hk_159 rw_159_2 (c := 7) rfl ?_
  refine c_of hk_159 hB rw_159_3 (21 * c + 7) (by omega) (by omega) (Nat.le_of_ble_eq_true rfl) ?_
  refine zo_if_ne hk_159 rw_159_4 (fun h4 => ?_) (fun h4 => ?_)
  · refine zi_const hk_159 rw_159_7 (c := 2) rfl ?_
    refine zr_aload hk_159 rw_159_8 rfl ?_
    refine zr_iload hk_159 rw_159_9 rfl ?_
    refine zi_const hk_159 rw_159_10 (c := 8) rfl ?_
    refine c_of hk_159 hB rw_159_11 (21 * c + 8) (by omega) (by omega) (Nat.le_of_ble_eq_true rfl) ?_
    refine zi_const hk_159 rw_159_12 (c := 8) rfl ?_
    refine zr_idiv hk_159 rw_159_13 (iv8_ne) ?_
    refine zr_aload hk_159 rw_159_14 rfl ?_
    refine zr_iload hk_159 rw_159_15 rfl ?_
    refine zi_const hk_159 rw_159_16 (c := 9) rfl ?_
    refine c_of hk_159 hB rw_159_17 (21 * c + 9) (by omega) (by omega) (Nat.le_of_ble_eq_true rfl) ?_
    refine zr_iadd hk_159 rw_159_18 ?_
    refine c_most hk_159 hB rw_159_19 (Nat.le_of_ble_eq_true rfl) ?_
    refine zi_istore hk_159 rw_159_20 rfl (lv' := [some (.ref 75), some (.int (iv ((c : Int)))), some (.int (_))]) rfl ?_
    refine zi_const hk_159 rw_159_21 (c := 400) rfl ?_
    refine zr_iload hk_159 rw_159_22 rfl ?_
    refine zr_aload hk_159 rw_159_23 rfl ?_
    refine zr_iload hk_159 rw_159_24 rfl ?_
    refine zi_const hk_159 rw_159_25 (c := 11) rfl ?_
    refine c_of hk_159 hB rw_159_26 (21 * c + 11) (by omega) (by omega) (Nat.le_of_ble_eq_true rfl) ?_
    refine zr_ishl hk_159 rw_159_27 ?_
    refine c_least hk_159 hB rw_159_28 (Nat.le_of_ble_eq_true rfl) ?_
    refine zr_ireturn hk_159 rw_159_29 ?_
    exact ⟨rfl, _, rfl⟩
  · refine zi_const hk_159 rw_159_5 (c := 10) rfl ?_
    refine zr_goto hk_159 rw_159_6 ?_
    refine zi_istore hk_159 rw_159_20 rfl (lv' := [some (.ref 75), some (.int (iv ((c : Int)))), some (.int (iv (10)))]) rfl ?_
    refine zi_const hk_159 rw_159_21 (c := 400) rfl ?_
    refine zr_iload hk_159 rw_159_22 rfl ?_
    refine zr_aload hk_159 rw_159_23 rfl ?_
    refine zr_iload hk_159 rw_159_24 rfl ?_
    refine zi_const hk_159 rw_159_25 (c := 11) rfl ?_
    refine c_of hk_159 hB rw_159_26 (21 * c + 11) (by omega) (by omega) (Nat.le_of_ble_eq_true rfl) ?_
    refine zr_ishl hk_159 rw_159_27 ?_
    refine c_least hk_159 hB rw_159_28 (Nat.le_of_ble_eq_true rfl) ?_
    refine zr_ireturn hk_159 rw_159_29 ?_
    exact ⟨rfl, _, rfl⟩
theorem c_timeoutOf (hk : k < 186) (hB : 87 ≤ B.length) {pc b x ix : Nat} {ts : List Nat} {c : Nat} (hrow : (codeOf k)[j]? = some (pc, .invokevirtual ix, 159, b, x, 3, ts)) (hc : c < 10) (hcat : catS st ≤ 8) (hQ : ∀ x : Int32, ZR (d + 2) k (j + 1) lv (.int x :: st) (mh B p a z) Q) : ZR (d + 2) k j lv (.int (iv (c : Int)) :: .ref 75 :: st) (mh B p a z) Q := by
  refine mz_call (L := 3) (n := 1) (as := [.int (iv (c : Int))]) (r := st) hk hB hrow (by decide) (by decide) ⟨rfl, rfl, rfl, rfl⟩ rfl rfl hcat (Nat.le_of_ble_eq_true rfl) (timeoutOf_ok d hB hc) ?_
  rintro w ph' ⟨rfl, x, rfl⟩
  exact hQ x
theorem isOverdue_ok (d : Nat) (hB : 87 ≤ B.length) {c F : Nat} (hc : c < 10) (hF : p 217 = iv (F : Int)) (hF2 : F ≤ 200) : ZC (d + 2) 158 [.ref 75, .int (iv (c : Int))] (mh B p a z) (fun v ph' => ph' = mh B p a z ∧ (v = some (.int (iv 1)) ∨ v = some (.int (iv 0)))) := by
  refine ZC.of (lv := [some (.ref 75), some (.int (iv ((c : Int))))]) hk_158 (fun i v hv => ?_) ?_
  · match i, hv with
    | 0, hv => cases hv; rfl
    | 1, hv => cases hv; rfl
    | i + 2, hv => simp at hv
  refine zr_aload hk_158 rw_158_0 rfl ?_
  refine zr_iload hk_158 rw_158_1 rfl ?_
  refine c_isOpenN hk_158 hB rw_158_2 (c) (by omega) (by omega) (Nat.le_of_ble_eq_true rfl) (fun h2c => ?_) (fun h2c => ?_)
  · refine zi_if_eq hk_158 rw_158_3 (by unfold inR; omega) (fun h => absurd h (by decide)) (fun _ => ?_)
    refine zr_aload hk_158 rw_158_4 rfl ?_
    refine zr_iload hk_158 rw_158_5 rfl ?_
    refine c_firstOf hk_158 hB rw_158_6 hF hF2 (Nat.le_of_ble_eq_true rfl) (fun r hr1 hr2 hr3 => ?_) (fun hno => ?_)
    · refine zr_goto hk_158 rw_158_7 ?_
      refine zi_istore hk_158 rw_158_9 rfl (lv' := [some (.ref 75), some (.int (iv ((c : Int)))), some (.int (iv ((r : Int))))]) rfl ?_
      refine zr_iload hk_158 rw_158_10 rfl ?_
      refine zi_const hk_158 rw_158_11 (c := -9) rfl ?_
      refine zi_icmp_eq hk_158 rw_158_12 (by unfold inR; omega) (by unfold inR; omega) (fun h12 => by omega) (fun h12 => ?_)
      refine zr_aload hk_158 rw_158_13 rfl ?_
      refine mz_getf hk_158 hB rw_158_14 rfl ?_
      refine zi_const hk_158 rw_158_15 (c := 220) rfl ?_
      refine zi_const hk_158 rw_158_16 (c := 3) rfl ?_
      refine zr_iload hk_158 rw_158_17 rfl ?_
      refine zi_mul hk_158 rw_158_18 ?_
      refine zi_add hk_158 rw_158_19 ?_
      refine zi_const hk_158 rw_158_20 (c := 2) rfl ?_
      refine zi_add hk_158 rw_158_21 ?_
      refine mz_pld hk_158 hB rw_158_22 (3 * r + 222) (by omega) (by omega) ?_
      refine zr_aload hk_158 rw_158_23 rfl ?_
      refine mz_getf hk_158 hB rw_158_24 rfl ?_
      refine zi_const hk_158 rw_158_25 (c := 214) rfl ?_
      refine mz_pld hk_158 hB rw_158_26 (214) (by omega) (by omega) ?_
      refine zr_aload hk_158 rw_158_27 rfl ?_
      refine zr_iload hk_158 rw_158_28 rfl ?_
      refine c_timeoutOf hk_158 hB rw_158_29 (by omega) (Nat.le_of_ble_eq_true rfl) (fun x29 => ?_)
      refine zr_isub hk_158 rw_158_30 ?_
      refine zo_icmp_gt hk_158 rw_158_31 (fun h31 => ?_) (fun h31 => ?_)
      · refine zi_const hk_158 rw_158_34 (c := 0) rfl ?_
        refine zr_ireturnB hk_158 rw_158_35 (by decide) ?_
        exact ⟨rfl, Or.inr rfl⟩
      · refine zi_const hk_158 rw_158_32 (c := 1) rfl ?_
        refine zr_goto hk_158 rw_158_33 ?_
        refine zr_ireturnB hk_158 rw_158_35 (by decide) ?_
        exact ⟨rfl, Or.inl rfl⟩
    · refine zr_goto hk_158 rw_158_7 ?_
      refine zi_istore hk_158 rw_158_9 rfl (lv' := [some (.ref 75), some (.int (iv ((c : Int)))), some (.int (iv ((-9))))]) rfl ?_
      refine zr_iload hk_158 rw_158_10 rfl ?_
      refine zi_const hk_158 rw_158_11 (c := -9) rfl ?_
      refine zi_icmp_eq hk_158 rw_158_12 (by unfold inR; omega) (by unfold inR; omega) (fun h12 => ?_) (fun h12 => by omega)
      refine zi_const hk_158 rw_158_34 (c := 0) rfl ?_
      refine zr_ireturnB hk_158 rw_158_35 (by decide) ?_
      exact ⟨rfl, Or.inr rfl⟩
  · refine zi_if_eq hk_158 rw_158_3 (by unfold inR; omega) (fun _ => ?_) (fun h => absurd h (by decide))
    refine zi_const hk_158 rw_158_8 (c := -9) rfl ?_
    refine zi_istore hk_158 rw_158_9 rfl (lv' := [some (.ref 75), some (.int (iv ((c : Int)))), some (.int (iv ((-9))))]) rfl ?_
    refine zr_iload hk_158 rw_158_10 rfl ?_
    refine zi_const hk_158 rw_158_11 (c := -9) rfl ?_
    refine zi_icmp_eq hk_158 rw_158_12 (by unfold inR; omega) (by unfold inR; omega) (fun h12 => ?_) (fun h12 => by omega)
    refine zi_const hk_158 rw_158_34 (c := 0) rfl ?_
    refine zr_ireturnB hk_158 rw_158_35 (by decide) ?_
    exact ⟨rfl, Or.inr rfl⟩
theorem c_isOverdue (hk : k < 186) (hB : 87 ≤ B.length) {pc b x ix : Nat} {ts : List Nat} {c : Nat} (hrow : (codeOf k)[j]? = some (pc, .invokevirtual ix, 158, b, x, 3, ts)) {F : Nat} (hc : c < 10) (hF : p 217 = iv (F : Int)) (hF2 : F ≤ 200) (hcat : catS st ≤ 8) (hT : True → ZR (d + 3) k (j + 1) lv (.int (iv 1) :: st) (mh B p a z) Q) (hN : True → ZR (d + 3) k (j + 1) lv (.int (iv 0) :: st) (mh B p a z) Q) : ZR (d + 3) k j lv (.int (iv (c : Int)) :: .ref 75 :: st) (mh B p a z) Q := by
  refine mz_call (L := 3) (n := 1) (as := [.int (iv (c : Int))]) (r := st) hk hB hrow (by decide) (by decide) ⟨rfl, rfl, rfl, rfl⟩ rfl rfl hcat (Nat.le_of_ble_eq_true rfl) (isOverdue_ok d hB hc hF hF2) ?_
  rintro w ph' ⟨rfl, rfl | rfl⟩
  · exact hT trivial
  · exact hN trivial
/-- while a packet is sent -/
def SI (p q : Nat → Int32) (F G L U : Nat) : Prop := BaseOK q ∧ Mild p q ∧ q 217 = iv (F : Int) ∧ q 218 = iv (G : Int) ∧ q 211 = iv (L : Int) ∧ q 210 = iv (U : Int)
theorem SI.soft {p q r : Nat → Int32} {F G L U : Nat} (h : SI p q F G L U) (s : Soft q r) : SI p r F G L U := by
  obtain ⟨h1, h2, h3, h4, h5, h6⟩ := h
  exact ⟨h1.soft s, h2.trans s.mild, (s.1 _ (by omega)).trans h3, (s.1 _ (by omega)).trans h4, (s.1 _ (by omega)).trans h5, (s.1 _ (by omega)).trans h6⟩
theorem SI.wr {p q : Nat → Int32} {F G L U i : Nat} {x : Int32} (h : SI p q F G L U) (h0 : 220 ≤ i) (h9 : i < 1000) : SI p (upd q i x) F G L U := by
  obtain ⟨h1, h2, h3, h4, h5, h6⟩ := h
  have hw : Win q (upd q i x) := fun j _ _ h => uq_ne (by omega)
  exact ⟨h1.win hw (h1.2.1.2.2.2.2.1.of_eq (uq_ne (by omega))) (h1.2.1.2.2.2.2.2.of_eq (uq_ne (by omega))), h2.trans hw.mild, (uq_ne (by omega)).trans h3, (uq_ne (by omega)).trans h4, (uq_ne (by omega)).trans h5, (uq_ne (by omega)).trans h6⟩
theorem SI.fl {p q : Nat → Int32} {F G L U : Nat} (h : SI p q F G L U) (hF : F + 1 ≤ 200) : SI p (upd q 217 (iv ((F : Int) + 1))) (F + 1) G L U := by
  obtain ⟨h1, h2, h3, h4, h5, h6⟩ := h
  have hw : Win q (upd q 217 (iv ((F : Int) + 1))) := fun j h _ _ => uq_ne h
  exact ⟨h1.win hw ⟨_, uq_eq, by omega, by omega⟩ (h1.2.1.2.2.2.2.2.of_eq (uq_ne (by omega))), h2.trans hw.mild, uq_eq, (uq_ne (by omega)).trans h4, (uq_ne (by omega)).trans h5, (uq_ne (by omega)).trans h6⟩
theorem SI.qu {p q : Nat → Int32} {F G L U : Nat} (h : SI p q F G L U) (hG : G + 1 ≤ 60) : SI p (upd q 218 (iv ((G : Int) + 1))) F (G + 1) L U := by
  obtain ⟨h1, h2, h3, h4, h5, h6⟩ := h
  have hw : Win q (upd q 218 (iv ((G : Int) + 1))) := fun j _ h _ => uq_ne h
  exact ⟨h1.win hw (h1.2.1.2.2.2.2.1.of_eq (uq_ne (by omega))) ⟨_, uq_eq, by omega, by omega⟩, h2.trans hw.mild, (uq_ne (by omega)).trans h3, uq_eq, (uq_ne (by omega)).trans h5, (uq_ne (by omega)).trans h6⟩
theorem sends_ok (d : Nat) (hB : 87 ≤ B.length) {c F U : Nat} (hc : c < 10) (hb : BaseOK p) (hF : p 217 = iv (F : Int)) (hF2 : F ≤ 200) (hU : p 210 = iv (U : Int)) (hU2 : U ≤ 200) : ZC (d + 2) 163 [.ref 75, .int (iv (c : Int))] (mh B p a z) (fun v ph' => (v = some (.int (iv 0)) ∧ ph' = mh B p a z) ∨ (v = some (.int (iv 1)) ∧ ∃ q, ph' = mh B q a z ∧ BaseOK q ∧ Mild p q ∧ q 217 = iv ((F + 1 : Nat) : Int) ∧ F < U ∧ q 210 = iv (U : Int))) := by
  obtain ⟨G, hG, hG2⟩ := hb.2.1.2.2.2.2.2.nat
  obtain ⟨L', hL, hL1, hL2⟩ := hb.2.1.2.1
  obtain ⟨L, rfl⟩ : ∃ L : Nat, L' = (L : Int) := ⟨L'.toNat, by omega⟩
  have hI : SI p p F G L U := ⟨hb, Mild.rfl' p, hF, hG, hL, hU⟩
  refine ZC.of (lv := [some (.ref 75), some (.int (iv ((c : Int))))]) hk_163 (fun i v hv => ?_) ?_
  · match i, hv with
    | 0, hv => cases hv; rfl
    | 1, hv => cases hv; rfl
    | i + 2, hv => simp at hv
  refine zr_aload hk_163 rw_163_0 rfl ?_
  refine zr_iload hk_163 rw_163_1 rfl ?_
  refine c_isOpenN hk_163 hB rw_163_2 (c) (by omega) (by omega) (Nat.le_of_ble_eq_true rfl) (fun h2c => ?_) (fun h2c => ?_)
  · refine zi_if_eq hk_163 rw_163_3 (by unfold inR; omega) (fun h => absurd h (by decide)) (fun _ => ?_)
    refine zr_aload hk_163 rw_163_4 rfl ?_
    refine zr_iload hk_163 rw_163_5 rfl ?_
    refine zi_const hk_163 rw_163_6 (c := 4) rfl ?_
    refine c_of hk_163 hB rw_163_7 (21 * c + 4) (by omega) (by omega) (Nat.le_of_ble_eq_true rfl) ?_
    refine zo_if_eq hk_163 rw_163_8 (fun h8 => ?_) (fun h8 => ?_)
    · refine zi_const hk_163 rw_163_25 (c := 0) rfl ?_
      refine zr_ireturnB hk_163 rw_163_26 (by decide) ?_
      exact Or.inl ⟨rfl, rfl⟩
    · refine zr_aload hk_163 rw_163_9 rfl ?_
      refine zr_iload hk_163 rw_163_10 rfl ?_
      refine c_flightOf hk_163 hB rw_163_11 hF hF2 (Nat.le_of_ble_eq_true rfl) (fun x11 => ?_)
      refine zr_aload hk_163 rw_163_12 rfl ?_
      refine zr_iload hk_163 rw_163_13 rfl ?_
      refine c_windowOf hk_163 hB rw_163_14 (by omega) (Nat.le_of_ble_eq_true rfl) (fun x14 => ?_)
      refine zo_icmp_ge hk_163 rw_163_15 (fun h15 => ?_) (fun h15 => ?_)
      · refine zi_const hk_163 rw_163_25 (c := 0) rfl ?_
        refine zr_ireturnB hk_163 rw_163_26 (by decide) ?_
        exact Or.inl ⟨rfl, rfl⟩
      · refine zr_aload hk_163 rw_163_16 rfl ?_
        refine mz_getf hk_163 hB rw_163_17 rfl ?_
        refine zi_const hk_163 rw_163_18 (c := 217) rfl ?_
        refine mz_plde hk_163 hB rw_163_19 (217) (by omega) (by omega) (hI.2.2.1) ?_
        refine zr_aload hk_163 rw_163_20 rfl ?_
        refine mz_getf hk_163 hB rw_163_21 rfl ?_
        refine zi_const hk_163 rw_163_22 (c := 210) rfl ?_
        refine mz_plde hk_163 hB rw_163_23 (210) (by omega) (by omega) (hI.2.2.2.2.2) ?_
        refine zi_icmp_lt hk_163 rw_163_24 (by unfold inR; omega) (by unfold inR; omega) (fun h24 => ?_) (fun h24 => ?_)
        · refine zr_aload hk_163 rw_163_27 rfl ?_
          refine zr_iload hk_163 rw_163_28 rfl ?_
          refine zi_const hk_163 rw_163_29 (c := 14) rfl ?_
          refine c_of hk_163 hB rw_163_30 (21 * c + 14) (by omega) (by omega) (Nat.le_of_ble_eq_true rfl) ?_
          refine zi_istore hk_163 rw_163_31 rfl (lv' := [some (.ref 75), some (.int (iv ((c : Int)))), some (.int (_))]) rfl ?_
          refine zr_aload hk_163 rw_163_32 rfl ?_
          refine zr_iload hk_163 rw_163_33 rfl ?_
          refine zi_const hk_163 rw_163_34 (c := 14) rfl ?_
          refine zr_iload hk_163 rw_163_35 rfl ?_
          refine zi_const hk_163 rw_163_36 (c := 1) rfl ?_
          refine zr_iadd hk_163 rw_163_37 ?_
          refine c_putS hk_163 hB rw_163_38 c 14 rfl rfl (by omega) (by decide) (by decide) (fun e => absurd e (by decide)) (fun e => absurd e (by decide)) (Nat.le_of_ble_eq_true rfl) (fun q S => ?_)
          have hI := hI.soft S
          refine zr_aload hk_163 rw_163_39 rfl ?_
          refine zr_iload hk_163 rw_163_40 rfl ?_
          refine zi_const hk_163 rw_163_41 (c := 4) rfl ?_
          refine zr_aload hk_163 rw_163_42 rfl ?_
          refine zr_iload hk_163 rw_163_43 rfl ?_
          refine zi_const hk_163 rw_163_44 (c := 4) rfl ?_
          refine c_of hk_163 hB rw_163_45 (21 * c + 4) (by omega) (by omega) (Nat.le_of_ble_eq_true rfl) ?_
          refine zi_const hk_163 rw_163_46 (c := 1) rfl ?_
          refine zr_isub hk_163 rw_163_47 ?_
          refine c_putS hk_163 hB rw_163_48 c 4 rfl rfl (by omega) (by decide) (by decide) (fun e => absurd e (by decide)) (fun e => absurd e (by decide)) (Nat.le_of_ble_eq_true rfl) (fun q S => ?_)
          have hI := hI.soft S
          refine zr_aload hk_163 rw_163_49 rfl ?_
          refine zr_iload hk_163 rw_163_50 rfl ?_
          refine zi_const hk_163 rw_163_51 (c := 0) rfl ?_
          refine zi_const hk_163 rw_163_52 (c := 1) rfl ?_
          refine c_countsS hk_163 hB rw_163_53 c 0 rfl rfl (by omega) (by decide) (by decide) (Nat.le_of_ble_eq_true rfl) (fun q S => ?_)
          have hI := hI.soft S
          refine zi_const hk_163 rw_163_54 (c := 220) rfl ?_
          refine zi_const hk_163 rw_163_55 (c := 3) rfl ?_
          refine zr_aload hk_163 rw_163_56 rfl ?_
          refine mz_getf hk_163 hB rw_163_57 rfl ?_
          refine zi_const hk_163 rw_163_58 (c := 217) rfl ?_
          refine mz_plde hk_163 hB rw_163_59 (217) (by omega) (by omega) (hI.2.2.1) ?_
          refine zi_mul hk_163 rw_163_60 ?_
          refine zi_add hk_163 rw_163_61 ?_
          refine zi_istore hk_163 rw_163_62 rfl (lv' := [some (.ref 75), some (.int (iv ((c : Int)))), some (.int (_)), some (.int (iv (220 + (3 * (F : Int)))))]) rfl ?_
          refine zr_aload hk_163 rw_163_63 rfl ?_
          refine mz_getf hk_163 hB rw_163_64 rfl ?_
          refine zr_iload hk_163 rw_163_65 rfl ?_
          refine zr_iload hk_163 rw_163_66 rfl ?_
          refine mz_pstI (R := (fun q => SI p q F G L U)) hk_163 hB rw_163_67 (3 * F + 220) (by omega) (by omega) (hI.wr (by omega) (by omega)) (fun q hI => ?_)
          refine zr_aload hk_163 rw_163_68 rfl ?_
          refine mz_getf hk_163 hB rw_163_69 rfl ?_
          refine zr_iload hk_163 rw_163_70 rfl ?_
          refine zi_const hk_163 rw_163_71 (c := 1) rfl ?_
          refine zi_add hk_163 rw_163_72 ?_
          refine zr_iload hk_163 rw_163_73 rfl ?_
          refine mz_pstI (R := (fun q => SI p q F G L U)) hk_163 hB rw_163_74 (3 * F + 221) (by omega) (by omega) (hI.wr (by omega) (by omega)) (fun q hI => ?_)
          refine zr_aload hk_163 rw_163_75 rfl ?_
          refine mz_getf hk_163 hB rw_163_76 rfl ?_
          refine zr_iload hk_163 rw_163_77 rfl ?_
          refine zi_const hk_163 rw_163_78 (c := 2) rfl ?_
          refine zi_add hk_163 rw_163_79 ?_
          refine zr_aload hk_163 rw_163_80 rfl ?_
          refine mz_getf hk_163 hB rw_163_81 rfl ?_
          refine zi_const hk_163 rw_163_82 (c := 214) rfl ?_
          refine mz_pld hk_163 hB rw_163_83 (214) (by omega) (by omega) ?_
          refine mz_pstI (R := (fun q => SI p q F G L U)) hk_163 hB rw_163_84 (3 * F + 222) (by omega) (by omega) (hI.wr (by omega) (by omega)) (fun q hI => ?_)
          refine zr_aload hk_163 rw_163_85 rfl ?_
          refine mz_getf hk_163 hB rw_163_86 rfl ?_
          refine zi_const hk_163 rw_163_87 (c := 217) rfl ?_
          refine zr_dup2 hk_163 rw_163_88 rfl rfl ?_
          refine mz_plde hk_163 hB rw_163_89 (217) (by omega) (by omega) (hI.2.2.1) ?_
          refine zi_const hk_163 rw_163_90 (c := 1) rfl ?_
          refine zi_add hk_163 rw_163_91 ?_
          refine mz_pstI (R := (fun q => SI p q (F + 1) G L U)) hk_163 hB rw_163_92 (217) (by omega) (by omega) (hI.fl (by omega)) (fun q hI => ?_)
          refine zr_aload hk_163 rw_163_93 rfl ?_
          refine mz_getf hk_163 hB rw_163_94 rfl ?_
          refine zi_const hk_163 rw_163_95 (c := 218) rfl ?_
          refine mz_plde hk_163 hB rw_163_96 (218) (by omega) (by omega) (hI.2.2.2.1) ?_
          refine zr_aload hk_163 rw_163_97 rfl ?_
          refine mz_getf hk_163 hB rw_163_98 rfl ?_
          refine zi_const hk_163 rw_163_99 (c := 211) rfl ?_
          refine mz_plde hk_163 hB rw_163_100 (211) (by omega) (by omega) (hI.2.2.2.2.1) ?_
          refine zi_icmp_lt hk_163 rw_163_101 (by unfold inR; omega) (by unfold inR; omega) (fun h101 => ?_) (fun h101 => ?_)
          · refine zi_const hk_163 rw_163_109 (c := 820) rfl ?_
            refine zi_const hk_163 rw_163_110 (c := 3) rfl ?_
            refine zr_aload hk_163 rw_163_111 rfl ?_
            refine mz_getf hk_163 hB rw_163_112 rfl ?_
            refine zi_const hk_163 rw_163_113 (c := 218) rfl ?_
            refine mz_plde hk_163 hB rw_163_114 (218) (by omega) (by omega) (hI.2.2.2.1) ?_
            refine zi_mul hk_163 rw_163_115 ?_
            refine zi_add hk_163 rw_163_116 ?_
            refine zi_istore hk_163 rw_163_117 rfl (lv' := [some (.ref 75), some (.int (iv ((c : Int)))), some (.int (_)), some (.int (iv (220 + (3 * (F : Int))))), some (.int (iv (820 + (3 * (G : Int)))))]) rfl ?_
            refine zr_aload hk_163 rw_163_118 rfl ?_
            refine mz_getf hk_163 hB rw_163_119 rfl ?_
            refine zr_iload hk_163 rw_163_120 rfl ?_
            refine zr_iload hk_163 rw_163_121 rfl ?_
            refine mz_pstI (R := (fun q => SI p q (F + 1) G L U)) hk_163 hB rw_163_122 (3 * G + 820) (by omega) (by omega) (hI.wr (by omega) (by omega)) (fun q hI => ?_)
            refine zr_aload hk_163 rw_163_123 rfl ?_
            refine mz_getf hk_163 hB rw_163_124 rfl ?_
            refine zr_iload hk_163 rw_163_125 rfl ?_
            refine zi_const hk_163 rw_163_126 (c := 1) rfl ?_
            refine zi_add hk_163 rw_163_127 ?_
            refine zr_aload hk_163 rw_163_128 rfl ?_
            refine zr_iload hk_163 rw_163_129 rfl ?_
            refine zi_const hk_163 rw_163_130 (c := 1) rfl ?_
            refine c_of hk_163 hB rw_163_131 (21 * c + 1) (by omega) (by omega) (Nat.le_of_ble_eq_true rfl) ?_
            refine mz_pstI (R := (fun q => SI p q (F + 1) G L U)) hk_163 hB rw_163_132 (3 * G + 821) (by omega) (by omega) (hI.wr (by omega) (by omega)) (fun q hI => ?_)
            refine zr_aload hk_163 rw_163_133 rfl ?_
            refine mz_getf hk_163 hB rw_163_134 rfl ?_
            refine zr_iload hk_163 rw_163_135 rfl ?_
            refine zi_const hk_163 rw_163_136 (c := 2) rfl ?_
            refine zi_add hk_163 rw_163_137 ?_
            refine zr_iload hk_163 rw_163_138 rfl ?_
            refine mz_pstI (R := (fun q => SI p q (F + 1) G L U)) hk_163 hB rw_163_139 (3 * G + 822) (by omega) (by omega) (hI.wr (by omega) (by omega)) (fun q hI => ?_)
            refine zr_aload hk_163 rw_163_140 rfl ?_
            refine mz_getf hk_163 hB rw_163_141 rfl ?_
            refine zi_const hk_163 rw_163_142 (c := 218) rfl ?_
            refine zr_dup2 hk_163 rw_163_143 rfl rfl ?_
            refine mz_plde hk_163 hB rw_163_144 (218) (by omega) (by omega) (hI.2.2.2.1) ?_
            refine zi_const hk_163 rw_163_145 (c := 1) rfl ?_
            refine zi_add hk_163 rw_163_146 ?_
            refine mz_pstI (R := (fun q => SI p q (F + 1) (G + 1) L U)) hk_163 hB rw_163_147 (218) (by omega) (by omega) (hI.qu (by omega)) (fun q hI => ?_)
            refine zi_const hk_163 rw_163_148 (c := 1) rfl ?_
            refine zr_ireturnB hk_163 rw_163_149 (by decide) ?_
            exact Or.inr ⟨rfl, _, rfl, hI.1, hI.2.1, hI.2.2.1, by omega, hI.2.2.2.2.2⟩
          · refine zr_aload hk_163 rw_163_102 rfl ?_
            refine zr_iload hk_163 rw_163_103 rfl ?_
            refine zi_const hk_163 rw_163_104 (c := 5) rfl ?_
            refine zi_const hk_163 rw_163_105 (c := 1) rfl ?_
            refine c_countsS hk_163 hB rw_163_106 c 5 rfl rfl (by omega) (by decide) (by decide) (Nat.le_of_ble_eq_true rfl) (fun q S => ?_)
            have hI := hI.soft S
            refine zi_const hk_163 rw_163_107 (c := 1) rfl ?_
            refine zr_ireturnB hk_163 rw_163_108 (by decide) ?_
            exact Or.inr ⟨rfl, _, rfl, hI.1, hI.2.1, hI.2.2.1, by omega, hI.2.2.2.2.2⟩
        · refine zi_const hk_163 rw_163_25 (c := 0) rfl ?_
          refine zr_ireturnB hk_163 rw_163_26 (by decide) ?_
          exact Or.inl ⟨rfl, rfl⟩
  · refine zi_if_eq hk_163 rw_163_3 (by unfold inR; omega) (fun _ => ?_) (fun h => absurd h (by decide))
    refine zi_const hk_163 rw_163_25 (c := 0) rfl ?_
    refine zr_ireturnB hk_163 rw_163_26 (by decide) ?_
    exact Or.inl ⟨rfl, rfl⟩
theorem c_sends (hk : k < 186) (hB : 87 ≤ B.length) {pc b x ix : Nat} {ts : List Nat} {c F U : Nat} (hrow : (codeOf k)[j]? = some (pc, .invokevirtual ix, 163, b, x, 3, ts)) (hc : c < 10) (hb : BaseOK p) (hF : p 217 = iv (F : Int)) (hF2 : F ≤ 200) (hU : p 210 = iv (U : Int)) (hU2 : U ≤ 200) (hcat : catS st ≤ 8) (h0 : ZR (d + 3) k (j + 1) lv (.int (iv 0) :: st) (mh B p a z) Q) (h1 : ∀ q, BaseOK q → Mild p q → q 217 = iv ((F + 1 : Nat) : Int) → F < U → q 210 = iv (U : Int) → ZR (d + 3) k (j + 1) lv (.int (iv 1) :: st) (mh B q a z) Q) : ZR (d + 3) k j lv (.int (iv (c : Int)) :: .ref 75 :: st) (mh B p a z) Q := by
  refine mz_call (L := 5) (n := 1) (as := [.int (iv (c : Int))]) (r := st) hk hB hrow (by decide) (by decide) ⟨rfl, rfl, rfl, rfl⟩ rfl rfl hcat (Nat.le_of_ble_eq_true rfl) (sends_ok d hB hc hb hF hF2 hU hU2) ?_
  rintro w ph' (⟨rfl, rfl⟩ | ⟨rfl, q, rfl, g1, g2, g3, g4, g5⟩)
  · exact h0
  · exact h1 q g1 g2 g3 g4 g5
end MG

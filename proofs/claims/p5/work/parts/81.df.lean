/-! ===== by program (wip/gen/m81.py): depths, distances, fairness ===== -/
theorem kc173_eq : codeOf 173 = kc173 := rfl
theorem hk_173 : 173 < 186 := by decide
theorem rw_173_0 : (codeOf 173)[0]? = some (0, .aload 0, 0, 0, 3, 1, []) := by rw [kc173_eq]; rfl
theorem rw_173_1 : (codeOf 173)[1]? = some (1, .iload 1, 1, 0, 0, 1, []) := by rw [kc173_eq]; rfl
theorem rw_173_2 : (codeOf 173)[2]? = some (2, .invokevirtual 92, 133, 0, 0, 3, []) := by rw [kc173_eq]; rfl
theorem rw_173_3 : (codeOf 173)[3]? = some (5, .ifCond .eq 11, 16, 8, 0, 3, []) := by rw [kc173_eq]; rfl
theorem rw_173_4 : (codeOf 173)[4]? = some (8, .aload 0, 0, 0, 3, 1, []) := by rw [kc173_eq]; rfl
theorem rw_173_5 : (codeOf 173)[5]? = some (9, .iload 2, 2, 0, 0, 1, []) := by rw [kc173_eq]; rfl
theorem rw_173_6 : (codeOf 173)[6]? = some (10, .invokevirtual 92, 133, 0, 0, 3, []) := by rw [kc173_eq]; rfl
theorem rw_173_7 : (codeOf 173)[7]? = some (13, .ifCond .ne 5, 18, 10, 0, 3, []) := by rw [kc173_eq]; rfl
theorem rw_173_8 : (codeOf 173)[8]? = some (16, .iconst (-1), 2147483647, 0, 0, 1, []) := by rw [kc173_eq]; rfl
theorem rw_173_9 : (codeOf 173)[9]? = some (17, .ireturn, 1, 0, 0, 1, []) := by rw [kc173_eq]; rfl
theorem rw_173_10 : (codeOf 173)[10]? = some (18, .iload 1, 1, 0, 0, 1, []) := by rw [kc173_eq]; rfl
theorem rw_173_11 : (codeOf 173)[11]? = some (19, .istore 3, 3, 0, 0, 1, []) := by rw [kc173_eq]; rfl
theorem rw_173_12 : (codeOf 173)[12]? = some (20, .iload 2, 2, 0, 0, 1, []) := by rw [kc173_eq]; rfl
theorem rw_173_13 : (codeOf 173)[13]? = some (21, .istore 4, 4, 0, 0, 2, []) := by rw [kc173_eq]; rfl
theorem rw_173_14 : (codeOf 173)[14]? = some (23, .iconst 0, 2147483648, 0, 0, 1, []) := by rw [kc173_eq]; rfl
theorem rw_173_15 : (codeOf 173)[15]? = some (24, .istore 5, 5, 0, 0, 2, []) := by rw [kc173_eq]; rfl
theorem rw_173_16 : (codeOf 173)[16]? = some (26, .monitorexit, 1384, 0, 0, 0, []) := by rw [kc173_eq]; rfl
theorem rw_173_17 : (codeOf 173)[17]? = some (26, .iload 3, 3, 0, 0, 1, []) := by rw [kc173_eq]; rfl
theorem rw_173_18 : (codeOf 173)[18]? = some (27, .iload 4, 4, 0, 0, 2, []) := by rw [kc173_eq]; rfl
theorem rw_173_19 : (codeOf 173)[19]? = some (29, .if_icmp .eq 65, 94, 51, 0, 3, []) := by rw [kc173_eq]; rfl
theorem rw_173_20 : (codeOf 173)[20]? = some (32, .aload 0, 0, 0, 3, 1, []) := by rw [kc173_eq]; rfl
theorem rw_173_21 : (codeOf 173)[21]? = some (33, .iload 3, 3, 0, 0, 1, []) := by rw [kc173_eq]; rfl
theorem rw_173_22 : (codeOf 173)[22]? = some (34, .invokevirtual 182, 174, 0, 0, 3, []) := by rw [kc173_eq]; rfl
theorem rw_173_23 : (codeOf 173)[23]? = some (37, .aload 0, 0, 0, 3, 1, []) := by rw [kc173_eq]; rfl
theorem rw_173_24 : (codeOf 173)[24]? = some (38, .iload 4, 4, 0, 0, 2, []) := by rw [kc173_eq]; rfl
theorem rw_173_25 : (codeOf 173)[25]? = some (40, .invokevirtual 182, 174, 0, 0, 3, []) := by rw [kc173_eq]; rfl
theorem rw_173_26 : (codeOf 173)[26]? = some (43, .if_icmp .lt 7, 50, 29, 0, 3, []) := by rw [kc173_eq]; rfl
theorem rw_173_27 : (codeOf 173)[27]? = some (46, .iconst 1, 2147483649, 0, 0, 1, []) := by rw [kc173_eq]; rfl
theorem rw_173_28 : (codeOf 173)[28]? = some (47, .goto 4, 51, 30, 0, 3, []) := by rw [kc173_eq]; rfl
theorem rw_173_29 : (codeOf 173)[29]? = some (50, .iconst 0, 2147483648, 0, 0, 1, []) := by rw [kc173_eq]; rfl
theorem rw_173_30 : (codeOf 173)[30]? = some (51, .istore 6, 6, 0, 0, 2, []) := by rw [kc173_eq]; rfl
theorem rw_173_31 : (codeOf 173)[31]? = some (53, .iload 6, 6, 0, 0, 2, []) := by rw [kc173_eq]; rfl
theorem rw_173_32 : (codeOf 173)[32]? = some (55, .ifCond .eq 12, 67, 38, 0, 3, []) := by rw [kc173_eq]; rfl
theorem rw_173_33 : (codeOf 173)[33]? = some (58, .aload 0, 0, 0, 3, 1, []) := by rw [kc173_eq]; rfl
theorem rw_173_34 : (codeOf 173)[34]? = some (59, .iload 3, 3, 0, 0, 1, []) := by rw [kc173_eq]; rfl
theorem rw_173_35 : (codeOf 173)[35]? = some (60, .iconst 2, 2147483650, 0, 0, 1, []) := by rw [kc173_eq]; rfl
theorem rw_173_36 : (codeOf 173)[36]? = some (61, .invokevirtual 62, 130, 0, 0, 3, []) := by rw [kc173_eq]; rfl
theorem rw_173_37 : (codeOf 173)[37]? = some (64, .goto 4, 68, 39, 0, 3, []) := by rw [kc173_eq]; rfl
theorem rw_173_38 : (codeOf 173)[38]? = some (67, .iload 3, 3, 0, 0, 1, []) := by rw [kc173_eq]; rfl
theorem rw_173_39 : (codeOf 173)[39]? = some (68, .istore 3, 3, 0, 0, 1, []) := by rw [kc173_eq]; rfl
theorem rw_173_40 : (codeOf 173)[40]? = some (69, .iload 6, 6, 0, 0, 2, []) := by rw [kc173_eq]; rfl
theorem rw_173_41 : (codeOf 173)[41]? = some (71, .ifCond .eq 8, 79, 44, 0, 3, []) := by rw [kc173_eq]; rfl
theorem rw_173_42 : (codeOf 173)[42]? = some (74, .iload 4, 4, 0, 0, 2, []) := by rw [kc173_eq]; rfl
theorem rw_173_43 : (codeOf 173)[43]? = some (76, .goto 10, 86, 48, 0, 3, []) := by rw [kc173_eq]; rfl
theorem rw_173_44 : (codeOf 173)[44]? = some (79, .aload 0, 0, 0, 3, 1, []) := by rw [kc173_eq]; rfl
theorem rw_173_45 : (codeOf 173)[45]? = some (80, .iload 4, 4, 0, 0, 2, []) := by rw [kc173_eq]; rfl
theorem rw_173_46 : (codeOf 173)[46]? = some (82, .iconst 2, 2147483650, 0, 0, 1, []) := by rw [kc173_eq]; rfl
theorem rw_173_47 : (codeOf 173)[47]? = some (83, .invokevirtual 62, 130, 0, 0, 3, []) := by rw [kc173_eq]; rfl
theorem rw_173_48 : (codeOf 173)[48]? = some (86, .istore 4, 4, 0, 0, 2, []) := by rw [kc173_eq]; rfl
theorem rw_173_49 : (codeOf 173)[49]? = some (88, .iinc 5 1, 5, 1, 0, 3, []) := by rw [kc173_eq]; rfl
theorem rw_173_50 : (codeOf 173)[50]? = some (91, .goto (-65), 26, 16, 0, 3, []) := by rw [kc173_eq]; rfl
theorem rw_173_51 : (codeOf 173)[51]? = some (94, .iload 5, 5, 0, 0, 2, []) := by rw [kc173_eq]; rfl
theorem rw_173_52 : (codeOf 173)[52]? = some (96, .ireturn, 1, 0, 0, 1, []) := by rw [kc173_eq]; rfl
theorem kc174_eq : codeOf 174 = kc174 := rfl
theorem hk_174 : 174 < 186 := by decide
theorem rw_174_0 : (codeOf 174)[0]? = some (0, .iconst 0, 2147483648, 0, 0, 1, []) := by rw [kc174_eq]; rfl
theorem rw_174_1 : (codeOf 174)[1]? = some (1, .istore 2, 2, 0, 0, 1, []) := by rw [kc174_eq]; rfl
theorem rw_174_2 : (codeOf 174)[2]? = some (2, .iload 1, 1, 0, 0, 1, []) := by rw [kc174_eq]; rfl
theorem rw_174_3 : (codeOf 174)[3]? = some (3, .istore 3, 3, 0, 0, 1, []) := by rw [kc174_eq]; rfl
theorem rw_174_4 : (codeOf 174)[4]? = some (4, .monitorexit, 1392, 0, 0, 0, []) := by rw [kc174_eq]; rfl
theorem rw_174_5 : (codeOf 174)[5]? = some (4, .iload 3, 3, 0, 0, 1, []) := by rw [kc174_eq]; rfl
theorem rw_174_6 : (codeOf 174)[6]? = some (5, .ifCond .eq 16, 21, 14, 0, 3, []) := by rw [kc174_eq]; rfl
theorem rw_174_7 : (codeOf 174)[7]? = some (8, .iinc 2 1, 2, 1, 0, 3, []) := by rw [kc174_eq]; rfl
theorem rw_174_8 : (codeOf 174)[8]? = some (11, .aload 0, 0, 0, 3, 1, []) := by rw [kc174_eq]; rfl
theorem rw_174_9 : (codeOf 174)[9]? = some (12, .iload 3, 3, 0, 0, 1, []) := by rw [kc174_eq]; rfl
theorem rw_174_10 : (codeOf 174)[10]? = some (13, .iconst 2, 2147483650, 0, 0, 1, []) := by rw [kc174_eq]; rfl
theorem rw_174_11 : (codeOf 174)[11]? = some (14, .invokevirtual 62, 130, 0, 0, 3, []) := by rw [kc174_eq]; rfl
theorem rw_174_12 : (codeOf 174)[12]? = some (17, .istore 3, 3, 0, 0, 1, []) := by rw [kc174_eq]; rfl
theorem rw_174_13 : (codeOf 174)[13]? = some (18, .goto (-14), 4, 4, 0, 3, []) := by rw [kc174_eq]; rfl
theorem rw_174_14 : (codeOf 174)[14]? = some (21, .iload 2, 2, 0, 0, 1, []) := by rw [kc174_eq]; rfl
theorem rw_174_15 : (codeOf 174)[15]? = some (22, .ireturn, 1, 0, 0, 1, []) := by rw [kc174_eq]; rfl
theorem kc178_eq : codeOf 178 = kc178 := rfl
theorem hk_178 : 178 < 186 := by decide
theorem rw_178_0 : (codeOf 178)[0]? = some (0, .aload 0, 0, 0, 3, 1, []) := by rw [kc178_eq]; rfl
theorem rw_178_1 : (codeOf 178)[1]? = some (1, .invokevirtual 160, 161, 0, 0, 3, []) := by rw [kc178_eq]; rfl
theorem rw_178_2 : (codeOf 178)[2]? = some (4, .lconst 0, 9223372036854775808, 0, 0, 1, []) := by rw [kc178_eq]; rfl
theorem rw_178_3 : (codeOf 178)[3]? = some (5, .lstore 1, 1, 0, 2, 1, []) := by rw [kc178_eq]; rfl
theorem rw_178_4 : (codeOf 178)[4]? = some (6, .lconst 0, 9223372036854775808, 0, 0, 1, []) := by rw [kc178_eq]; rfl
theorem rw_178_5 : (codeOf 178)[5]? = some (7, .lstore 3, 3, 0, 2, 1, []) := by rw [kc178_eq]; rfl
theorem rw_178_6 : (codeOf 178)[6]? = some (8, .lconst 0, 9223372036854775808, 0, 0, 1, []) := by rw [kc178_eq]; rfl
theorem rw_178_7 : (codeOf 178)[7]? = some (9, .lstore 5, 5, 0, 2, 2, []) := by rw [kc178_eq]; rfl
theorem rw_178_8 : (codeOf 178)[8]? = some (11, .iconst 0, 2147483648, 0, 0, 1, []) := by rw [kc178_eq]; rfl
theorem rw_178_9 : (codeOf 178)[9]? = some (12, .istore 7, 7, 0, 0, 2, []) := by rw [kc178_eq]; rfl
theorem rw_178_10 : (codeOf 178)[10]? = some (14, .monitorexit, 1424, 0, 0, 0, []) := by rw [kc178_eq]; rfl
theorem rw_178_11 : (codeOf 178)[11]? = some (14, .iload 7, 7, 0, 0, 2, []) := by rw [kc178_eq]; rfl
theorem rw_178_12 : (codeOf 178)[12]? = some (16, .iconst 10, 2147483658, 0, 0, 2, []) := by rw [kc178_eq]; rfl
theorem rw_178_13 : (codeOf 178)[13]? = some (18, .if_icmp .ge 71, 89, 53, 0, 3, []) := by rw [kc178_eq]; rfl
theorem rw_178_14 : (codeOf 178)[14]? = some (21, .aload 0, 0, 0, 3, 1, []) := by rw [kc178_eq]; rfl
theorem rw_178_15 : (codeOf 178)[15]? = some (22, .iload 7, 7, 0, 0, 2, []) := by rw [kc178_eq]; rfl
theorem rw_178_16 : (codeOf 178)[16]? = some (24, .invokevirtual 92, 133, 0, 0, 3, []) := by rw [kc178_eq]; rfl
theorem rw_178_17 : (codeOf 178)[17]? = some (27, .ifCond .eq 56, 83, 51, 0, 3, []) := by rw [kc178_eq]; rfl
theorem rw_178_18 : (codeOf 178)[18]? = some (30, .aload 0, 0, 0, 3, 1, []) := by rw [kc178_eq]; rfl
theorem rw_178_19 : (codeOf 178)[19]? = some (31, .getfield 32, 9, 10, 3, 3, []) := by rw [kc178_eq]; rfl
theorem rw_178_20 : (codeOf 178)[20]? = some (34, .iload 7, 7, 0, 0, 2, []) := by rw [kc178_eq]; rfl
theorem rw_178_21 : (codeOf 178)[21]? = some (36, .iaload, 0, 0, 0, 1, []) := by rw [kc178_eq]; rfl
theorem rw_178_22 : (codeOf 178)[22]? = some (37, .ifCond .le 46, 83, 51, 0, 3, []) := by rw [kc178_eq]; rfl
theorem rw_178_23 : (codeOf 178)[23]? = some (40, .aload 0, 0, 0, 3, 1, []) := by rw [kc178_eq]; rfl
theorem rw_178_24 : (codeOf 178)[24]? = some (41, .iload 7, 7, 0, 0, 2, []) := by rw [kc178_eq]; rfl
theorem rw_178_25 : (codeOf 178)[25]? = some (43, .iconst 16, 2147483664, 0, 0, 2, []) := by rw [kc178_eq]; rfl
theorem rw_178_26 : (codeOf 178)[26]? = some (45, .invokevirtual 62, 130, 0, 0, 3, []) := by rw [kc178_eq]; rfl
theorem rw_178_27 : (codeOf 178)[27]? = some (48, .i2l, 0, 0, 0, 1, []) := by rw [kc178_eq]; rfl
theorem rw_178_28 : (codeOf 178)[28]? = some (49, .ldc2_w 185, 9223372036854775868, 0, 0, 3, []) := by rw [kc178_eq]; rfl
theorem rw_178_29 : (codeOf 178)[29]? = some (52, .lmul, 0, 0, 0, 1, []) := by rw [kc178_eq]; rfl
theorem rw_178_30 : (codeOf 178)[30]? = some (53, .aload 0, 0, 0, 3, 1, []) := by rw [kc178_eq]; rfl
theorem rw_178_31 : (codeOf 178)[31]? = some (54, .getfield 32, 9, 10, 3, 3, []) := by rw [kc178_eq]; rfl
theorem rw_178_32 : (codeOf 178)[32]? = some (57, .iload 7, 7, 0, 0, 2, []) := by rw [kc178_eq]; rfl
theorem rw_178_33 : (codeOf 178)[33]? = some (59, .iaload, 0, 0, 0, 1, []) := by rw [kc178_eq]; rfl
theorem rw_178_34 : (codeOf 178)[34]? = some (60, .i2l, 0, 0, 0, 1, []) := by rw [kc178_eq]; rfl
theorem rw_178_35 : (codeOf 178)[35]? = some (61, .ldiv, 0, 0, 0, 1, []) := by rw [kc178_eq]; rfl
theorem rw_178_36 : (codeOf 178)[36]? = some (62, .lstore 8, 8, 0, 2, 2, []) := by rw [kc178_eq]; rfl
theorem rw_178_37 : (codeOf 178)[37]? = some (64, .lload 1, 1, 0, 2, 1, []) := by rw [kc178_eq]; rfl
theorem rw_178_38 : (codeOf 178)[38]? = some (65, .lload 8, 8, 0, 2, 2, []) := by rw [kc178_eq]; rfl
theorem rw_178_39 : (codeOf 178)[39]? = some (67, .ladd, 0, 0, 0, 1, []) := by rw [kc178_eq]; rfl
theorem rw_178_40 : (codeOf 178)[40]? = some (68, .lstore 1, 1, 0, 2, 1, []) := by rw [kc178_eq]; rfl
theorem rw_178_41 : (codeOf 178)[41]? = some (69, .lload 3, 3, 0, 2, 1, []) := by rw [kc178_eq]; rfl
theorem rw_178_42 : (codeOf 178)[42]? = some (70, .lload 8, 8, 0, 2, 2, []) := by rw [kc178_eq]; rfl
theorem rw_178_43 : (codeOf 178)[43]? = some (72, .lload 8, 8, 0, 2, 2, []) := by rw [kc178_eq]; rfl
theorem rw_178_44 : (codeOf 178)[44]? = some (74, .lmul, 0, 0, 0, 1, []) := by rw [kc178_eq]; rfl
theorem rw_178_45 : (codeOf 178)[45]? = some (75, .ladd, 0, 0, 0, 1, []) := by rw [kc178_eq]; rfl
theorem rw_178_46 : (codeOf 178)[46]? = some (76, .lstore 3, 3, 0, 2, 1, []) := by rw [kc178_eq]; rfl
theorem rw_178_47 : (codeOf 178)[47]? = some (77, .lload 5, 5, 0, 2, 2, []) := by rw [kc178_eq]; rfl
theorem rw_178_48 : (codeOf 178)[48]? = some (79, .lconst 1, 9223372036854775809, 0, 0, 1, []) := by rw [kc178_eq]; rfl
theorem rw_178_49 : (codeOf 178)[49]? = some (80, .ladd, 0, 0, 0, 1, []) := by rw [kc178_eq]; rfl
theorem rw_178_50 : (codeOf 178)[50]? = some (81, .lstore 5, 5, 0, 2, 2, []) := by rw [kc178_eq]; rfl
theorem rw_178_51 : (codeOf 178)[51]? = some (83, .iinc 7 1, 7, 1, 0, 3, []) := by rw [kc178_eq]; rfl
theorem rw_178_52 : (codeOf 178)[52]? = some (86, .goto (-72), 14, 10, 0, 3, []) := by rw [kc178_eq]; rfl
theorem rw_178_53 : (codeOf 178)[53]? = some (89, .lload 3, 3, 0, 2, 1, []) := by rw [kc178_eq]; rfl
theorem rw_178_54 : (codeOf 178)[54]? = some (90, .lconst 0, 9223372036854775808, 0, 0, 1, []) := by rw [kc178_eq]; rfl
theorem rw_178_55 : (codeOf 178)[55]? = some (91, .lcmp, 0, 0, 0, 1, []) := by rw [kc178_eq]; rfl
theorem rw_178_56 : (codeOf 178)[56]? = some (92, .ifCond .ne 8, 100, 59, 0, 3, []) := by rw [kc178_eq]; rfl
theorem rw_178_57 : (codeOf 178)[57]? = some (95, .iconst (-9), 2147483639, 0, 0, 2, []) := by rw [kc178_eq]; rfl
theorem rw_178_58 : (codeOf 178)[58]? = some (97, .goto 16, 113, 69, 0, 3, []) := by rw [kc178_eq]; rfl
theorem rw_178_59 : (codeOf 178)[59]? = some (100, .ldc2_w 187, 9223372036854776808, 0, 0, 3, []) := by rw [kc178_eq]; rfl
theorem rw_178_60 : (codeOf 178)[60]? = some (103, .lload 1, 1, 0, 2, 1, []) := by rw [kc178_eq]; rfl
theorem rw_178_61 : (codeOf 178)[61]? = some (104, .lmul, 0, 0, 0, 1, []) := by rw [kc178_eq]; rfl
theorem rw_178_62 : (codeOf 178)[62]? = some (105, .lload 1, 1, 0, 2, 1, []) := by rw [kc178_eq]; rfl
theorem rw_178_63 : (codeOf 178)[63]? = some (106, .lmul, 0, 0, 0, 1, []) := by rw [kc178_eq]; rfl
theorem rw_178_64 : (codeOf 178)[64]? = some (107, .lload 5, 5, 0, 2, 2, []) := by rw [kc178_eq]; rfl
theorem rw_178_65 : (codeOf 178)[65]? = some (109, .lload 3, 3, 0, 2, 1, []) := by rw [kc178_eq]; rfl
theorem rw_178_66 : (codeOf 178)[66]? = some (110, .lmul, 0, 0, 0, 1, []) := by rw [kc178_eq]; rfl
theorem rw_178_67 : (codeOf 178)[67]? = some (111, .ldiv, 0, 0, 0, 1, []) := by rw [kc178_eq]; rfl
theorem rw_178_68 : (codeOf 178)[68]? = some (112, .l2i, 0, 0, 0, 1, []) := by rw [kc178_eq]; rfl
theorem rw_178_69 : (codeOf 178)[69]? = some (113, .ireturn, 1, 0, 0, 1, []) := by rw [kc178_eq]; rfl
section MQ
variable {d k j : Nat} {lv : List (Option Value)} {st : List Value} {ph : PH} {Q : Option Value → PH → Prop} {B : PH} {p : Nat → Int32} {a : Nat → Nat → Int32} {z : Nat → Int32}
def cnt (f : Nat → Bool) : Nat → Nat
  | 0 => 0
  | n + 1 => cnt f n + (if f n = true then 1 else 0)
theorem cnt_le (f : Nat → Bool) : ∀ n, cnt f n ≤ n
  | 0 => Nat.le_refl _
  | n + 1 => by
    have := cnt_le f n
    rw [cnt]
    split <;> omega
theorem cnt_mono {f g : Nat → Bool} : ∀ n, (∀ x, x < n → f x = true → g x = true) → cnt f n ≤ cnt g n
  | 0, _ => Nat.le_refl _
  | n + 1, h => by
    have ih := cnt_mono n (fun x hx => h x (by omega))
    have h1 := h n (by omega)
    rw [cnt, cnt]
    by_cases e : f n = true
    · rw [if_pos e, if_pos (h1 e)]
      omega
    · rw [if_neg e]
      omega
theorem cnt_lt {f g : Nat → Bool} {q : Nat} (hf : f q = false) (hg : g q = true) : ∀ n, (∀ x, x < n → f x = true → g x = true) → q < n → cnt f n < cnt g n
  | 0, _, hq => absurd hq (Nat.not_lt_zero _)
  | n + 1, h, hq => by
    rw [cnt, cnt]
    by_cases e : q = n
    · subst e
      have := cnt_mono q (fun x hx => h x (by omega))
      rw [hf, hg, if_neg (by decide), if_pos rfl]
      omega
    · have ih := cnt_lt hf hg n (fun x hx => h x (by omega)) (by omega)
      have h1 := h n (by omega)
      by_cases e : f n = true
      · rw [if_pos e, if_pos (h1 e)]
        omega
      · rw [if_neg e]
        omega
def par (p : Nat → Int32) (c : Nat) : Nat := (p (21 * c + 2)).toInt.toNat
def dpF (p : Nat → Int32) : Nat → Nat → Nat
  | 0, _ => 0
  | f + 1, c => if c = 0 then 0 else dpF p f (par p c) + 1
theorem dpF_le (p : Nat → Int32) : ∀ f c, dpF p f c ≤ f
  | 0, _ => Nat.le_refl _
  | f + 1, c => by
    rw [dpF]
    have := dpF_le p f (par p c)
    split <;> omega
theorem par_eq {p : Nat → Int32} {c q : Nat} (h : p (21 * c + 2) = iv (q : Int)) (hq : q < 10) : par p c = q := by
  unfold par
  rw [h, iv_toInt (by unfold inR; omega)]
  omega
theorem dp_stab {p : Nat → Int32} {rk : Nat → Nat} (h : ∀ c, 1 ≤ c → c < 10 → p (21 * c) = iv 1 → ∃ q : Nat, q < 10 ∧ p (21 * c + 2) = iv (q : Int) ∧ p (21 * q) = iv 1 ∧ rk q < rk c) : ∀ f c, c < 10 → p (21 * c) = iv 1 → rk c < f → dpF p f c = dpF p (f + 1) c
  | 0, _, _, _, h0 => absurd h0 (Nat.not_lt_zero _)
  | f + 1, c, hc, ho, hf => by
    rw [dpF, dpF]
    by_cases e : c = 0
    · rw [if_pos e, if_pos e]
    · rw [if_neg e, if_neg e]
      obtain ⟨q, q1, q2, q3, q4⟩ := h c (by omega) hc ho
      rw [par_eq q2 q1, dp_stab h f q q1 q3 (by omega)]
theorem Tr_dp {p : Nat → Int32} (h : TrOK p) : ∃ dp : Nat → Nat, dp 0 = 0 ∧ (∀ c, dp c ≤ 11) ∧ ∀ c, 1 ≤ c → c < 10 → p (21 * c) = iv 1 → ∃ q : Nat, q < 10 ∧ p (21 * c + 2) = iv (q : Int) ∧ p (21 * q) = iv 1 ∧ dp c = dp q + 1 := by
  obtain ⟨h0, -, rk, h3⟩ := h
  have h4 : ∀ c, 1 ≤ c → c < 10 → p (21 * c) = iv 1 → ∃ q : Nat, q < 10 ∧ p (21 * c + 2) = iv (q : Int) ∧ p (21 * q) = iv 1 ∧ cnt (fun x => decide (rk x < rk q)) 10 < cnt (fun x => decide (rk x < rk c)) 10 := by
    intro c c1 c2 ho
    obtain ⟨q, q1, q2, q3, q4⟩ := h3 c c1 c2 ho
    refine ⟨q, q1, q2, q3, cnt_lt (q := q) (by simp) (by simpa using q4) 10 (fun x _ hx => ?_) q1⟩
    simp only [decide_eq_true_eq] at hx ⊢
    omega
  refine ⟨dpF p 11, by rw [dpF, if_pos rfl], dpF_le p 11, fun c c1 c2 ho => ?_⟩
  obtain ⟨q, q1, q2, q3, q4⟩ := h4 c c1 c2 ho
  refine ⟨q, q1, q2, q3, ?_⟩
  have hle := cnt_le (fun x => decide (rk x < rk c)) 10
  rw [dp_stab h4 11 c c2 ho (by omega), dpF, if_neg (by omega), par_eq q2 q1]
theorem dep_loop (hB : 87 ≤ B.length) {c0 : Int32} {dp : Nat → Nat} (hd0 : dp 0 = 0) (hdl : ∀ c, dp c ≤ 11) (hds : ∀ c, 1 ≤ c → c < 10 → p (21 * c) = iv 1 → ∃ q : Nat, q < 10 ∧ p (21 * c + 2) = iv (q : Int) ∧ p (21 * q) = iv 1 ∧ dp c = dp q + 1) : ∀ (m x n : Nat), x < 10 → p (21 * x) = iv 1 → dp x = m → ZR (d + 1) 174 4 [some (.ref 75), some (.int (c0)), some (.int (iv ((n : Int)))), some (.int (iv ((x : Int))))] [] (mh B p a z) (fun v ph' => ph' = mh B p a z ∧ v = some (.int (iv ((n + m : Nat) : Int)))) := by
  intro m
  induction m with
  | zero =>
    intro x n hx ho hm
    have hx0 : x = 0 := by
      by_cases e : x = 0
      · exact e
      · obtain ⟨q, -, -, -, hq⟩ := hds x (by omega) hx ho
        omega
    refine zr_cut hk_174 rw_174_4 ?_
    refine zr_iload hk_174 rw_174_5 rfl ?_
    refine zi_if_eq hk_174 rw_174_6 (by unfold inR; omega) (fun h6 => ?_) (fun h6 => by omega)
    refine zr_iload hk_174 rw_174_14 rfl ?_
    refine zr_ireturn hk_174 rw_174_15 ?_
    exact ⟨rfl, rfl⟩
  | succ m ih =>
    intro x n hx ho hm
    have hx0 : x ≠ 0 := fun e => by rw [e, hd0] at hm; omega
    obtain ⟨q, hq1, hq2, hq3, hq4⟩ := hds x (by omega) hx ho
    rw [show n + (m + 1) = (n + 1) + m by omega]
    refine zr_cut hk_174 rw_174_4 ?_
    refine zr_iload hk_174 rw_174_5 rfl ?_
    refine zi_if_eq hk_174 rw_174_6 (by unfold inR; omega) (fun h6 => by omega) (fun h6 => ?_)
    refine zi_inc hk_174 rw_174_7 rfl rfl inc_1 (lv' := [some (.ref 75), some (.int (c0)), some (.int (iv ((n : Int) + 1))), some (.int (iv ((x : Int))))]) rfl ?_
    refine zr_aload hk_174 rw_174_8 rfl ?_
    refine zr_iload hk_174 rw_174_9 rfl ?_
    refine zi_const hk_174 rw_174_10 (c := 2) rfl ?_
    refine c_ofE hk_174 hB rw_174_11 (21 * x + 2) (by omega) (by omega) hq2 (Nat.le_of_ble_eq_true rfl) ?_
    refine zi_istore hk_174 rw_174_12 rfl (lv' := [some (.ref 75), some (.int (c0)), some (.int (iv ((n : Int) + 1))), some (.int (iv ((q : Int))))]) rfl ?_
    refine zr_goto hk_174 rw_174_13 ?_
    exact ih q (n + 1) hq1 hq3 (by omega)
theorem depthOf_ok (d : Nat) (hB : 87 ≤ B.length) {x : Nat} {dp : Nat → Nat} (hd0 : dp 0 = 0) (hdl : ∀ c, dp c ≤ 11) (hds : ∀ c, 1 ≤ c → c < 10 → p (21 * c) = iv 1 → ∃ q : Nat, q < 10 ∧ p (21 * c + 2) = iv (q : Int) ∧ p (21 * q) = iv 1 ∧ dp c = dp q + 1) (hx : x < 10) (ho : p (21 * x) = iv 1) : ZC (d + 1) 174 [.ref 75, .int (iv (x : Int))] (mh B p a z) (fun v ph' => ph' = mh B p a z ∧ v = some (.int (iv ((dp x : Nat) : Int)))) := by
  refine ZC.of (lv := [some (.ref 75), some (.int (iv ((x : Int))))]) hk_174 (fun i v hv => ?_) ?_
  · match i, hv with
    | 0, hv => cases hv; rfl
    | 1, hv => cases hv; rfl
    | i + 2, hv => simp at hv
  refine zi_const hk_174 rw_174_0 (c := 0) rfl ?_
  refine zi_istore hk_174 rw_174_1 rfl (lv' := [some (.ref 75), some (.int (iv ((x : Int)))), some (.int (iv (0)))]) rfl ?_
  refine zr_iload hk_174 rw_174_2 rfl ?_
  refine zi_istore hk_174 rw_174_3 rfl (lv' := [some (.ref 75), some (.int (iv ((x : Int)))), some (.int (iv (0))), some (.int (iv ((x : Int))))]) rfl ?_
  have h := dep_loop (d := d) (a := a) (z := z) (c0 := iv (x : Int)) hB hd0 hdl hds (dp x) x 0 hx ho rfl
  rw [Nat.zero_add] at h
  exact h
theorem c_depthOf (hk : k < 186) (hB : 87 ≤ B.length) {pc b x ix : Nat} {ts : List Nat} {y : Nat} (hrow : (codeOf k)[j]? = some (pc, .invokevirtual ix, 174, b, x, 3, ts)) {dp : Nat → Nat} (hd0 : dp 0 = 0) (hdl : ∀ c, dp c ≤ 11) (hds : ∀ c, 1 ≤ c → c < 10 → p (21 * c) = iv 1 → ∃ q : Nat, q < 10 ∧ p (21 * c + 2) = iv (q : Int) ∧ p (21 * q) = iv 1 ∧ dp c = dp q + 1) (hx : y < 10) (ho : p (21 * y) = iv 1) (hcat : catS st ≤ 8) (h : ZR (d + 2) k (j + 1) lv (.int (iv ((dp y : Nat) : Int)) :: st) (mh B p a z) Q) : ZR (d + 2) k j lv (.int (iv (y : Int)) :: .ref 75 :: st) (mh B p a z) Q := by
  refine mz_call (L := 4) (n := 1) (as := [.int (iv (y : Int))]) (r := st) hk hB hrow (by decide) (by decide) ⟨rfl, rfl, rfl, rfl⟩ rfl rfl hcat (Nat.le_of_ble_eq_true rfl) (depthOf_ok d hB hd0 hdl hds hx ho) ?_
  rintro w ph' ⟨rfl, rfl⟩
  exact h
theorem dist_v {dp : Nat → Nat} {v n : Nat} (hd0 : dp 0 = 0) (h : n < dp v) : 1 ≤ v := by
  by_cases e : v = 0
  · rw [e, hd0] at h
    omega
  · omega
theorem dist_u {dp : Nat → Nat} {u v : Nat} (hd0 : dp 0 = 0) (hds : ∀ c, 1 ≤ c → c < 10 → p (21 * c) = iv 1 → ∃ q : Nat, q < 10 ∧ p (21 * c + 2) = iv (q : Int) ∧ p (21 * q) = iv 1 ∧ dp c = dp q + 1) (hv : v < 10) (hvo : p (21 * v) = iv 1) (hne : u ≠ v) (hle : dp v ≤ dp u) : 1 ≤ u := by
  by_cases e : u = 0
  · rw [e, hd0] at hle
    by_cases e2 : v = 0
    · omega
    · obtain ⟨q, -, -, -, hq⟩ := hds v (by omega) hv hvo
      omega
  · omega
theorem dist_loop (hB : 87 ≤ B.length) {x0 y0 : Int32} {dp : Nat → Nat} (hd0 : dp 0 = 0) (hdl : ∀ c, dp c ≤ 11) (hds : ∀ c, 1 ≤ c → c < 10 → p (21 * c) = iv 1 → ∃ q : Nat, q < 10 ∧ p (21 * c + 2) = iv (q : Int) ∧ p (21 * q) = iv 1 ∧ dp c = dp q + 1) : ∀ (m u v n : Nat), u < 10 → v < 10 → p (21 * u) = iv 1 → p (21 * v) = iv 1 → dp u + dp v = m → ZR (d + 2) 173 16 [some (.ref 75), some (.int (x0)), some (.int (y0)), some (.int (iv ((u : Int)))), some (.int (iv ((v : Int)))), some (.int (iv ((n : Int))))] [] (mh B p a z) (fun v ph' => ph' = mh B p a z ∧ ∃ x : Int32, v = some (.int x)) := by
  intro m
  induction m with
  | zero =>
    intro u v n hu hv huo hvo hm
    have hu0 : u = 0 := by
      by_cases e : u = 0
      · exact e
      · obtain ⟨q, -, -, -, hq⟩ := hds u (by omega) hu huo
        omega
    have hv0 : v = 0 := by
      by_cases e : v = 0
      · exact e
      · obtain ⟨q, -, -, -, hq⟩ := hds v (by omega) hv hvo
        omega
    refine zr_cut hk_173 rw_173_16 ?_
    refine zr_iload hk_173 rw_173_17 rfl ?_
    refine zr_iload hk_173 rw_173_18 rfl ?_
    refine zi_icmp_eq hk_173 rw_173_19 (by unfold inR; omega) (by unfold inR; omega) (fun h19 => ?_) (fun h19 => by omega)
    refine zr_iload hk_173 rw_173_51 rfl ?_
    refine zr_ireturn hk_173 rw_173_52 ?_
    exact ⟨rfl, _, rfl⟩
  | succ m ih =>
    intro u v n hu hv huo hvo hm
    have hdu := hdl u
    have hdv := hdl v
    refine zr_cut hk_173 rw_173_16 ?_
    refine zr_iload hk_173 rw_173_17 rfl ?_
    refine zr_iload hk_173 rw_173_18 rfl ?_
    refine zi_icmp_eq hk_173 rw_173_19 (by unfold inR; omega) (by unfold inR; omega) (fun h19 => ?_) (fun h19 => ?_)
    · refine zr_iload hk_173 rw_173_51 rfl ?_
      refine zr_ireturn hk_173 rw_173_52 ?_
      exact ⟨rfl, _, rfl⟩
    · refine zr_aload hk_173 rw_173_20 rfl ?_
      refine zr_iload hk_173 rw_173_21 rfl ?_
      refine c_depthOf hk_173 hB rw_173_22 hd0 hdl hds hu huo (Nat.le_of_ble_eq_true rfl) ?_
      refine zr_aload hk_173 rw_173_23 rfl ?_
      refine zr_iload hk_173 rw_173_24 rfl ?_
      refine c_depthOf hk_173 hB rw_173_25 hd0 hdl hds hv hvo (Nat.le_of_ble_eq_true rfl) ?_
      refine zi_icmp_lt hk_173 rw_173_26 (by unfold inR; omega) (by unfold inR; omega) (fun h26 => ?_) (fun h26 => ?_)
      · refine zi_const hk_173 rw_173_29 (c := 0) rfl ?_
        refine zi_istore hk_173 rw_173_30 rfl (lv' := [some (.ref 75), some (.int (x0)), some (.int (y0)), some (.int (iv ((u : Int)))), some (.int (iv ((v : Int)))), some (.int (iv ((n : Int)))), some (.int (iv (0)))]) rfl ?_
        refine zr_iload hk_173 rw_173_31 rfl ?_
        refine zi_if_eq hk_173 rw_173_32 (by unfold inR; omega) (fun h32 => ?_) (fun h32 => by omega)
        refine zr_iload hk_173 rw_173_38 rfl ?_
        refine zi_istore hk_173 rw_173_39 rfl (lv' := [some (.ref 75), some (.int (x0)), some (.int (y0)), some (.int (iv ((u : Int)))), some (.int (iv ((v : Int)))), some (.int (iv ((n : Int)))), some (.int (iv (0)))]) rfl ?_
        refine zr_iload hk_173 rw_173_40 rfl ?_
        refine zi_if_eq hk_173 rw_173_41 (by unfold inR; omega) (fun h41 => ?_) (fun h41 => by omega)
        have hpos : 1 ≤ v := dist_v (n := dp u) hd0 (by omega)
        refine zr_aload hk_173 rw_173_44 rfl ?_
        refine zr_iload hk_173 rw_173_45 rfl ?_
        refine zi_const hk_173 rw_173_46 (c := 2) rfl ?_
        obtain ⟨q, hq1, hq2, hq3, hq4⟩ := hds v (hpos) hv hvo
        refine c_ofE hk_173 hB rw_173_47 (21 * v + 2) (by omega) (by omega) hq2 (Nat.le_of_ble_eq_true rfl) ?_
        refine zi_istore hk_173 rw_173_48 rfl (lv' := [some (.ref 75), some (.int (x0)), some (.int (y0)), some (.int (iv ((u : Int)))), some (.int (iv ((q : Int)))), some (.int (iv ((n : Int)))), some (.int (iv (0)))]) rfl ?_
        refine zi_inc hk_173 rw_173_49 rfl rfl inc_1 (lv' := [some (.ref 75), some (.int (x0)), some (.int (y0)), some (.int (iv ((u : Int)))), some (.int (iv ((q : Int)))), some (.int (iv ((n : Int) + 1))), some (.int (iv (0)))]) rfl ?_
        refine zr_goto hk_173 rw_173_50 ?_
        exact zr_app (lv := [some (.ref 75), some (.int (x0)), some (.int (y0)), some (.int (iv ((u : Int)))), some (.int (iv ((q : Int)))), some (.int (iv ((n : Int) + 1)))]) (ex := [some (.int (iv (0)))]) (ih u q (n + 1) (by omega) (by omega) huo hq3 (by omega))
      · refine zi_const hk_173 rw_173_27 (c := 1) rfl ?_
        refine zr_goto hk_173 rw_173_28 ?_
        refine zi_istore hk_173 rw_173_30 rfl (lv' := [some (.ref 75), some (.int (x0)), some (.int (y0)), some (.int (iv ((u : Int)))), some (.int (iv ((v : Int)))), some (.int (iv ((n : Int)))), some (.int (iv (1)))]) rfl ?_
        refine zr_iload hk_173 rw_173_31 rfl ?_
        refine zi_if_eq hk_173 rw_173_32 (by unfold inR; omega) (fun h32 => by omega) (fun h32 => ?_)
        have hpos : 1 ≤ u := dist_u hd0 hds hv hvo (by omega) (by omega)
        refine zr_aload hk_173 rw_173_33 rfl ?_
        refine zr_iload hk_173 rw_173_34 rfl ?_
        refine zi_const hk_173 rw_173_35 (c := 2) rfl ?_
        obtain ⟨q, hq1, hq2, hq3, hq4⟩ := hds u (hpos) hu huo
        refine c_ofE hk_173 hB rw_173_36 (21 * u + 2) (by omega) (by omega) hq2 (Nat.le_of_ble_eq_true rfl) ?_
        refine zr_goto hk_173 rw_173_37 ?_
        refine zi_istore hk_173 rw_173_39 rfl (lv' := [some (.ref 75), some (.int (x0)), some (.int (y0)), some (.int (iv ((q : Int)))), some (.int (iv ((v : Int)))), some (.int (iv ((n : Int)))), some (.int (iv (1)))]) rfl ?_
        refine zr_iload hk_173 rw_173_40 rfl ?_
        refine zi_if_eq hk_173 rw_173_41 (by unfold inR; omega) (fun h41 => by omega) (fun h41 => ?_)
        refine zr_iload hk_173 rw_173_42 rfl ?_
        refine zr_goto hk_173 rw_173_43 ?_
        refine zi_istore hk_173 rw_173_48 rfl (lv' := [some (.ref 75), some (.int (x0)), some (.int (y0)), some (.int (iv ((q : Int)))), some (.int (iv ((v : Int)))), some (.int (iv ((n : Int)))), some (.int (iv (1)))]) rfl ?_
        refine zi_inc hk_173 rw_173_49 rfl rfl inc_1 (lv' := [some (.ref 75), some (.int (x0)), some (.int (y0)), some (.int (iv ((q : Int)))), some (.int (iv ((v : Int)))), some (.int (iv ((n : Int) + 1))), some (.int (iv (1)))]) rfl ?_
        refine zr_goto hk_173 rw_173_50 ?_
        exact zr_app (lv := [some (.ref 75), some (.int (x0)), some (.int (y0)), some (.int (iv ((q : Int)))), some (.int (iv ((v : Int)))), some (.int (iv ((n : Int) + 1)))]) (ex := [some (.int (iv (1)))]) (ih q v (n + 1) (by omega) (by omega) hq3 hvo (by omega))
theorem distance_ok (d : Nat) (hB : 87 ≤ B.length) {T : Nat} {x y : Int} (hx : inR x) (hy : inR y) (hM : MInv T p z) : ZC (d + 2) 173 [.ref 75, .int (iv x), .int (iv y)] (mh B p a z) (PubQ B T a z) := by
  obtain ⟨r, hr, hz, hP⟩ := hM
  have hP0 := sl0.mp (hP 0 (Nat.zero_le _))
  obtain ⟨dp, hd0, hdl, hds⟩ := Tr_dp hP0.1.2.2
  refine ZC.of (lv := [some (.ref 75), some (.int (iv (x))), some (.int (iv (y)))]) hk_173 (fun i v hv => ?_) ?_
  · match i, hv with
    | 0, hv => cases hv; rfl
    | 1, hv => cases hv; rfl
    | 2, hv => cases hv; rfl
    | i + 3, hv => simp at hv
  refine zr_aload hk_173 rw_173_0 rfl ?_
  refine zr_iload hk_173 rw_173_1 rfl ?_
  refine c_isOpen hk_173 hB rw_173_2 (by first | assumption | (unfold inR; omega)) (Nat.le_of_ble_eq_true rfl) (fun h2c => ?_) (fun h2c => ?_)
  · obtain ⟨nx, rfl, nxle, nxo⟩ := h2c
    refine zi_if_eq hk_173 rw_173_3 (by unfold inR; omega) (fun h => absurd h (by decide)) (fun _ => ?_)
    refine zr_aload hk_173 rw_173_4 rfl ?_
    refine zr_iload hk_173 rw_173_5 rfl ?_
    refine c_isOpen hk_173 hB rw_173_6 (by first | assumption | (unfold inR; omega)) (Nat.le_of_ble_eq_true rfl) (fun h6c => ?_) (fun h6c => ?_)
    · obtain ⟨ny, rfl, nyle, nyo⟩ := h6c
      refine zi_if_ne hk_173 rw_173_7 (by unfold inR; omega) (fun _ => ?_) (fun h => absurd h (by decide))
      refine zr_iload hk_173 rw_173_10 rfl ?_
      refine zi_istore hk_173 rw_173_11 rfl (lv' := [some (.ref 75), some (.int (iv ((nx : Int)))), some (.int (iv ((ny : Int)))), some (.int (iv ((nx : Int))))]) rfl ?_
      refine zr_iload hk_173 rw_173_12 rfl ?_
      refine zi_istore hk_173 rw_173_13 rfl (lv' := [some (.ref 75), some (.int (iv ((nx : Int)))), some (.int (iv ((ny : Int)))), some (.int (iv ((nx : Int)))), some (.int (iv ((ny : Int))))]) rfl ?_
      refine zi_const hk_173 rw_173_14 (c := 0) rfl ?_
      refine zi_istore hk_173 rw_173_15 rfl (lv' := [some (.ref 75), some (.int (iv ((nx : Int)))), some (.int (iv ((ny : Int)))), some (.int (iv ((nx : Int)))), some (.int (iv ((ny : Int)))), some (.int (iv (0)))]) rfl ?_
      exact zr_mono (fun v ph' ⟨e1, x, e2⟩ => by subst e1 e2; exact MInv.same ⟨r, hr, hz, hP⟩) (dist_loop hB hd0 hdl hds _ nx ny 0 (by omega) (by omega) nxo nyo rfl)
    · refine zi_if_ne hk_173 rw_173_7 (by unfold inR; omega) (fun h => absurd h (by decide)) (fun _ => ?_)
      refine zi_const hk_173 rw_173_8 (c := -1) rfl ?_
      refine zr_ireturn hk_173 rw_173_9 ?_
      exact MInv.same ⟨r, hr, hz, hP⟩
  · refine zi_if_eq hk_173 rw_173_3 (by unfold inR; omega) (fun _ => ?_) (fun h => absurd h (by decide))
    refine zi_const hk_173 rw_173_8 (c := -1) rfl ?_
    refine zr_ireturn hk_173 rw_173_9 ?_
    exact MInv.same ⟨r, hr, hz, hP⟩
theorem oL_60 : oL 9223372036854775868 = lo 60 := by rw [oL_lo, show (((9223372036854775868 : Nat) : Int) - 9223372036854775808) = 60 from by omega]
theorem oL_1 : oL 9223372036854775809 = lo 1 := by rw [oL_lo, show (((9223372036854775809 : Nat) : Int) - 9223372036854775808) = 1 from by omega]
theorem oL_0 : oL 9223372036854775808 = lo 0 := by rw [oL_lo, show (((9223372036854775808 : Nat) : Int) - 9223372036854775808) = 0 from by omega]
theorem pos_int {y : Int32} (hy : ¬ y ≤ 0) : 0 < y.toInt ∧ y.toInt < 2147483648 := by
  have := mt Int32.le_iff_toInt_le.mpr hy
  have e0 : (0 : Int32).toInt = 0 := rfl
  have h2 := y.toInt_lt
  omega
theorem i64_ne {y : Int32} (hy : ¬ y ≤ 0) : ¬ y.toInt64 = 0 := by
  rw [i2l_lo]
  obtain ⟨h1, h2⟩ := pos_int hy
  exact lo_ne (by unfold inL64; omega) (by omega)
theorem fair_x {v y : Int32} {n : Nat} (hv : v = iv (n : Int)) (hn : n ≤ 480000) (hy : ¬ y ≤ 0) : ∃ x : Int, v.toInt64 * oL 9223372036854775868 / y.toInt64 = lo x ∧ 0 ≤ x * x ∧ x * x ≤ 829440000000000 := by
  obtain ⟨h1, h2⟩ := pos_int hy
  have e : v.toInt = (n : Int) := by rw [hv, iv_toInt (by unfold inR; omega)]
  refine ⟨(n : Int) * 60 / y.toInt, ?_, ?_, ?_⟩
  · rw [i2l_lo, i2l_lo, oL_60, lo_mul, e, lo_div (by omega) (by omega) h1 h2]
  all_goals
    have h3 : (0 : Int) ≤ (n : Int) * 60 / y.toInt := Int.ediv_nonneg (by omega) (by omega)
    have h4 : (n : Int) * 60 / y.toInt ≤ 28800000 := Int.le_trans (Int.ediv_le_self _ (by omega)) (by omega)
    generalize (n : Int) * 60 / y.toInt = x at h3 h4
  · exact Int.mul_nonneg h3 h3
  · have := Int.mul_le_mul h4 h4 h3 (by omega)
    omega
theorem fair_d {n S : Int} (h1 : 1 ≤ n) (h2 : n ≤ 10) (h3 : 1 ≤ S) (h4 : S ≤ 8294400000000000) : ¬ lo n * lo S = 0 := by
  rw [lo_mul]
  have a1 := Int.mul_le_mul h2 h4 (by omega) (by omega)
  have a2 := Int.mul_le_mul h1 h3 (by omega) (by omega)
  exact lo_ne (by unfold inL64; omega) (by omega)
theorem lg_0 {S : Int} (h : ¬ lg_cmp (lo S) (oL 9223372036854775808) = 0) : S ≠ 0 := by
  intro e
  subst e
  apply h
  rw [oL_0]
  decide
theorem fa_loop (hB : 87 ≤ B.length) {b : Nat → Nat → Int32} (hK : K4 a b) (hack : ∀ c, c < 10 → ∃ n : Nat, p (21 * c + 16) = iv (n : Int) ∧ n ≤ 480000) : ∀ (m k : Nat) (s : Int64) (S n : Int), k + m = 10 → 0 ≤ S → S ≤ 829440000000000 * k → 0 ≤ n → n ≤ k → (S ≠ 0 → 1 ≤ n) → ZR (d + 2) 178 10 [some (.ref 75), some (.long (s)), none, some (.long (lo (S))), none, some (.long (lo (n))), none, some (.int (iv ((k : Int))))] [] (mh B p b z) (fun v ph' => ∃ b, ph' = mh B p b z ∧ K4 a b ∧ ∃ x : Int32, v = some (.int x)) := by
  intro m
  induction m with
  | zero =>
    intro k s S n hkm hS0 hS1 hn0 hn1k hSn
    refine zr_cut hk_178 rw_178_10 ?_
    refine zr_iload hk_178 rw_178_11 rfl ?_
    refine zi_const hk_178 rw_178_12 (c := 10) rfl ?_
    refine zi_icmp_ge hk_178 rw_178_13 (by unfold inR; omega) (by unfold inR; omega) (fun h13 => ?_) (fun h13 => by omega)
    refine zr_lload hk_178 rw_178_53 rfl ?_
    refine zr_lconst hk_178 rw_178_54 ?_
    refine zr_lcmp hk_178 rw_178_55 ?_
    refine zo_if_ne hk_178 rw_178_56 (fun h56 => ?_) (fun h56 => ?_)
    · have hS := lg_0 h56
      refine zr_ldc hk_178 rw_178_59 ?_
      refine zr_lload hk_178 rw_178_60 rfl ?_
      refine zr_lmul hk_178 rw_178_61 ?_
      refine zr_lload hk_178 rw_178_62 rfl ?_
      refine zr_lmul hk_178 rw_178_63 ?_
      refine zr_lload hk_178 rw_178_64 rfl ?_
      refine zr_lload hk_178 rw_178_65 rfl ?_
      refine zr_lmul hk_178 rw_178_66 ?_
      refine zr_ldiv hk_178 rw_178_67 (fair_d (by omega) (by omega) (by omega) (by omega)) ?_
      refine zr_l2i hk_178 rw_178_68 ?_
      refine zr_ireturn hk_178 rw_178_69 ?_
      exact ⟨_, rfl, hK, _, rfl⟩
    · refine zi_const hk_178 rw_178_57 (c := -9) rfl ?_
      refine zr_goto hk_178 rw_178_58 ?_
      refine zr_ireturn hk_178 rw_178_69 ?_
      exact ⟨_, rfl, hK, _, rfl⟩
  | succ m ih =>
    intro k s S n hkm hS0 hS1 hn0 hn1k hSn
    refine zr_cut hk_178 rw_178_10 ?_
    refine zr_iload hk_178 rw_178_11 rfl ?_
    refine zi_const hk_178 rw_178_12 (c := 10) rfl ?_
    refine zi_icmp_ge hk_178 rw_178_13 (by unfold inR; omega) (by unfold inR; omega) (fun h13 => by omega) (fun h13 => ?_)
    refine zr_aload hk_178 rw_178_14 rfl ?_
    refine zr_iload hk_178 rw_178_15 rfl ?_
    refine c_isOpenN hk_178 hB rw_178_16 (k) (by omega) (by omega) (Nat.le_of_ble_eq_true rfl) (fun h16c => ?_) (fun h16c => ?_)
    · refine zi_if_eq hk_178 rw_178_17 (by unfold inR; omega) (fun h => absurd h (by decide)) (fun _ => ?_)
      refine zr_aload hk_178 rw_178_18 rfl ?_
      refine mz_getf hk_178 hB rw_178_19 rfl ?_
      refine zr_iload hk_178 rw_178_20 rfl ?_
      refine mz_ald hk_178 (mh_a6 hB) rw_178_21 (k) (by omega) (by omega) (by decide) ?_
      refine zo_if_le hk_178 rw_178_22 (fun h22 => ?_) (fun h22 => ?_)
      · refine zi_inc hk_178 rw_178_51 rfl rfl inc_1 (lv' := [some (.ref 75), some (.long (s)), none, some (.long (lo (S))), none, some (.long (lo (n))), none, some (.int (iv ((k : Int) + 1)))]) rfl ?_
        refine zr_goto hk_178 rw_178_52 ?_
        exact ih (k + 1) _ _ _ (by omega) (by omega) (by omega) (by omega) (by omega) (by omega)
      · obtain ⟨nn, hn1, hn2⟩ := hack k (by omega)
        refine zr_aload hk_178 rw_178_23 rfl ?_
        refine zr_iload hk_178 rw_178_24 rfl ?_
        refine zi_const hk_178 rw_178_25 (c := 16) rfl ?_
        refine c_of hk_178 hB rw_178_26 (21 * k + 16) (by omega) (by omega) (Nat.le_of_ble_eq_true rfl) ?_
        refine zr_i2l hk_178 rw_178_27 ?_
        refine zr_ldc hk_178 rw_178_28 ?_
        refine zr_lmul hk_178 rw_178_29 ?_
        refine zr_aload hk_178 rw_178_30 rfl ?_
        refine mz_getf hk_178 hB rw_178_31 rfl ?_
        refine zr_iload hk_178 rw_178_32 rfl ?_
        refine mz_ald hk_178 (mh_a6 hB) rw_178_33 (k) (by omega) (by omega) (by decide) ?_
        refine zr_i2l hk_178 rw_178_34 ?_
        refine zr_ldiv hk_178 rw_178_35 (i64_ne h22) ?_
        obtain ⟨x, hx, hx0, hx2⟩ := fair_x hn1 hn2 h22
        rw [hx]
        refine zr_lstore hk_178 rw_178_36 rfl (lv' := [some (.ref 75), some (.long (s)), none, some (.long (lo (S))), none, some (.long (lo (n))), none, some (.int (iv ((k : Int)))), some (.long (lo (x)))]) rfl ?_
        refine zr_lload hk_178 rw_178_37 rfl ?_
        refine zr_lload hk_178 rw_178_38 rfl ?_
        refine zr_ladd hk_178 rw_178_39 ?_
        refine zr_lstore hk_178 rw_178_40 rfl (lv' := [some (.ref 75), some (.long (_)), none, some (.long (lo (S))), none, some (.long (lo (n))), none, some (.int (iv ((k : Int)))), some (.long (lo (x)))]) rfl ?_
        refine zr_lload hk_178 rw_178_41 rfl ?_
        refine zr_lload hk_178 rw_178_42 rfl ?_
        refine zr_lload hk_178 rw_178_43 rfl ?_
        refine zr_lmul hk_178 rw_178_44 ?_
        refine zr_ladd hk_178 rw_178_45 ?_
        rw [lo_mul, lo_add]
        refine zr_lstore hk_178 rw_178_46 rfl (lv' := [some (.ref 75), some (.long (_)), none, some (.long (lo (S + x * x))), none, some (.long (lo (n))), none, some (.int (iv ((k : Int)))), some (.long (lo (x)))]) rfl ?_
        refine zr_lload hk_178 rw_178_47 rfl ?_
        refine zr_lconst hk_178 rw_178_48 ?_
        refine zr_ladd hk_178 rw_178_49 ?_
        rw [oL_1, lo_add]
        refine zr_lstore hk_178 rw_178_50 rfl (lv' := [some (.ref 75), some (.long (_)), none, some (.long (lo (S + x * x))), none, some (.long (lo (n + 1))), none, some (.int (iv ((k : Int)))), some (.long (lo (x)))]) rfl ?_
        refine zi_inc hk_178 rw_178_51 rfl rfl inc_1 (lv' := [some (.ref 75), some (.long (_)), none, some (.long (lo (S + x * x))), none, some (.long (lo (n + 1))), none, some (.int (iv ((k : Int) + 1))), some (.long (lo (x)))]) rfl ?_
        refine zr_goto hk_178 rw_178_52 ?_
        exact zr_app (lv := [some (.ref 75), some (.long (_)), none, some (.long (lo (S + x * x))), none, some (.long (lo (n + 1))), none, some (.int (iv ((k : Int) + 1)))]) (ex := [some (.long _)]) (ih (k + 1) _ _ _ (by omega) (by omega) (by omega) (by omega) (by omega) (by omega))
    · refine zi_if_eq hk_178 rw_178_17 (by unfold inR; omega) (fun _ => ?_) (fun h => absurd h (by decide))
      refine zi_inc hk_178 rw_178_51 rfl rfl inc_1 (lv' := [some (.ref 75), some (.long (s)), none, some (.long (lo (S))), none, some (.long (lo (n))), none, some (.int (iv ((k : Int) + 1)))]) rfl ?_
      refine zr_goto hk_178 rw_178_52 ?_
      exact ih (k + 1) _ _ _ (by omega) (by omega) (by omega) (by omega) (by omega) (by omega)
theorem fair0_ok (d : Nat) (hB : 87 ≤ B.length) {T : Nat} (hT : T ≤ 60000) (hP : PageOK T p) : ZC (d + 4) 178 [.ref 75] (mh B p a z) (fun v ph' => ∃ b, ph' = mh B p b z ∧ K4 a b ∧ ∃ x : Int32, v = some (.int x)) := by
  have hack : ∀ c, c < 10 → ∃ n : Nat, p (21 * c + 16) = iv (n : Int) ∧ n ≤ 480000 := by
    obtain ⟨t, C, t1, -, -, t4, -⟩ := hP.2
    intro c hc
    obtain ⟨n, n1, n2⟩ := t4 c hc
    exact ⟨n, n1, by omega⟩
  refine ZC.of (lv := [some (.ref 75)]) hk_178 (fun i v hv => ?_) ?_
  · match i, hv with
    | 0, hv => cases hv; rfl
    | i + 1, hv => simp at hv
  refine zr_aload hk_178 rw_178_0 rfl ?_
  refine c_shares hk_178 hB rw_178_1 hP.1 (Nat.le_of_ble_eq_true rfl) (fun b hK => ?_)
  refine zr_lconst hk_178 rw_178_2 ?_
  rw [oL_0]
  refine zr_lstore hk_178 rw_178_3 rfl (lv' := [some (.ref 75), some (.long (lo (0)))]) rfl ?_
  refine zr_lconst hk_178 rw_178_4 ?_
  refine zr_lstore hk_178 rw_178_5 rfl (lv' := [some (.ref 75), some (.long (lo (0))), none, some (.long (_))]) rfl ?_
  refine zr_lconst hk_178 rw_178_6 ?_
  refine zr_lstore hk_178 rw_178_7 rfl (lv' := [some (.ref 75), some (.long (lo (0))), none, some (.long (_)), none, some (.long (_))]) rfl ?_
  refine zi_const hk_178 rw_178_8 (c := 0) rfl ?_
  refine zi_istore hk_178 rw_178_9 rfl (lv' := [some (.ref 75), some (.long (lo (0))), none, some (.long (_)), none, some (.long (_)), none, some (.int (iv (0)))]) rfl ?_
  exact fa_loop hB hK hack 10 0 _ 0 0 (by omega) (by omega) (by omega) (by omega) (by omega) (by omega)
theorem c_fairness (hk : k < 186) (hB : 87 ≤ B.length) {pc b x ix : Nat} {ts : List Nat} (hrow : (codeOf k)[j]? = some (pc, .invokevirtual ix, 178, b, x, 3, ts)) {T : Nat} (hT : T ≤ 60000) (hP : PageOK T p) (hcat : catS st ≤ 8) (h : ∀ (b : Nat → Nat → Int32) (x : Int32), K4 a b → ZR (d + 5) k (j + 1) lv (.int x :: st) (mh B p b z) Q) : ZR (d + 5) k j lv (.ref 75 :: st) (mh B p a z) Q := by
  refine mz_call (L := 10) (n := 0) (as := []) (r := st) hk hB hrow (by decide) (by decide) ⟨rfl, rfl, rfl, rfl⟩ rfl rfl hcat (Nat.le_of_ble_eq_true rfl) (fair0_ok d hB hT hP) ?_
  rintro w ph' ⟨b, rfl, hK, x, rfl⟩
  exact h b x hK
theorem fairness_ok (d : Nat) (hB : 87 ≤ B.length) {T : Nat} (hT : T ≤ 60000) (hM : MInv T p z) : ZC (d + 4) 178 [.ref 75] (mh B p a z) (PubQ B T a z) := by
  obtain ⟨r, hr, hz, hP⟩ := hM
  obtain ⟨m, v, ph', nc, ns, r1, b, rfl, hK, x, rfl⟩ := fair0_ok d hB hT (sl0.mp (hP 0 (Nat.zero_le _))) (a := a) (z := z)
  exact ⟨m, _, _, nc, ns, r1, MInv.sameK ⟨r, hr, hz, hP⟩ hK⟩
end MQ

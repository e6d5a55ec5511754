/-! ===== by program (wip/gen/gen85.py): a family is made ===== -/
theorem kc4_eq : codeOf 4 = kc4 := rfl
theorem hk_4 : 4 < 186 := by decide
theorem rw_4_0 : (codeOf 4)[0]? = some (0, .aload 0, 0, 0, 3, 1, []) := by rw [kc4_eq]; rfl
theorem rw_4_1 : (codeOf 4)[1]? = some (1, .nop, 0, 0, 0, 3, []) := by rw [kc4_eq]; rfl
theorem rw_4_2 : (codeOf 4)[2]? = some (4, .aload 0, 0, 0, 3, 1, []) := by rw [kc4_eq]; rfl
theorem rw_4_3 : (codeOf 4)[3]? = some (5, .iconst 10, 2147483658, 0, 0, 2, []) := by rw [kc4_eq]; rfl
theorem rw_4_4 : (codeOf 4)[4]? = some (7, .anewarray 9, 6, 0, 0, 3, []) := by rw [kc4_eq]; rfl
theorem rw_4_5 : (codeOf 4)[5]? = some (10, .putfield 11, 3, 0, 3, 3, []) := by rw [kc4_eq]; rfl
theorem rw_4_6 : (codeOf 4)[6]? = some (13, .aload 0, 0, 0, 3, 1, []) := by rw [kc4_eq]; rfl
theorem rw_4_7 : (codeOf 4)[7]? = some (14, .new 17, 4, 0, 0, 3, []) := by rw [kc4_eq]; rfl
theorem rw_4_8 : (codeOf 4)[8]? = some (17, .dup, 0, 0, 0, 1, []) := by rw [kc4_eq]; rfl
theorem rw_4_9 : (codeOf 4)[9]? = some (18, .invokespecial 19, 5, 0, 0, 3, []) := by rw [kc4_eq]; rfl
theorem rw_4_10 : (codeOf 4)[10]? = some (21, .putfield 20, 3, 1, 3, 3, []) := by rw [kc4_eq]; rfl
theorem rw_4_11 : (codeOf 4)[11]? = some (24, .aload 0, 0, 0, 3, 1, []) := by rw [kc4_eq]; rfl
theorem rw_4_12 : (codeOf 4)[12]? = some (25, .iconst 40, 2147483688, 0, 0, 2, []) := by rw [kc4_eq]; rfl
theorem rw_4_13 : (codeOf 4)[13]? = some (27, .putfield 24, 3, 2, 0, 3, []) := by rw [kc4_eq]; rfl
theorem rw_4_14 : (codeOf 4)[14]? = some (30, .aload 0, 0, 0, 3, 1, []) := by rw [kc4_eq]; rfl
theorem rw_4_15 : (codeOf 4)[15]? = some (31, .iconst 10, 2147483658, 0, 0, 2, []) := by rw [kc4_eq]; rfl
theorem rw_4_16 : (codeOf 4)[16]? = some (33, .newarray .int, 0, 0, 0, 2, []) := by rw [kc4_eq]; rfl
theorem rw_4_17 : (codeOf 4)[17]? = some (35, .putfield 28, 3, 6, 3, 3, []) := by rw [kc4_eq]; rfl
theorem rw_4_18 : (codeOf 4)[18]? = some (38, .aload 0, 0, 0, 3, 1, []) := by rw [kc4_eq]; rfl
theorem rw_4_19 : (codeOf 4)[19]? = some (39, .iconst 10, 2147483658, 0, 0, 2, []) := by rw [kc4_eq]; rfl
theorem rw_4_20 : (codeOf 4)[20]? = some (41, .newarray .int, 0, 0, 0, 2, []) := by rw [kc4_eq]; rfl
theorem rw_4_21 : (codeOf 4)[21]? = some (43, .putfield 32, 3, 7, 3, 3, []) := by rw [kc4_eq]; rfl
theorem rw_4_22 : (codeOf 4)[22]? = some (46, .iconst 0, 2147483648, 0, 0, 1, []) := by rw [kc4_eq]; rfl
theorem rw_4_23 : (codeOf 4)[23]? = some (47, .istore 1, 1, 0, 0, 1, []) := by rw [kc4_eq]; rfl
theorem rw_4_24 : (codeOf 4)[24]? = some (48, .monitorexit, 32, 0, 0, 0, []) := by rw [kc4_eq]; rfl
theorem rw_4_25 : (codeOf 4)[25]? = some (48, .iload 1, 1, 0, 0, 1, []) := by rw [kc4_eq]; rfl
theorem rw_4_26 : (codeOf 4)[26]? = some (49, .iconst 10, 2147483658, 0, 0, 2, []) := by rw [kc4_eq]; rfl
theorem rw_4_27 : (codeOf 4)[27]? = some (51, .if_icmp .ge 22, 73, 37, 0, 3, []) := by rw [kc4_eq]; rfl
theorem rw_4_28 : (codeOf 4)[28]? = some (54, .aload 0, 0, 0, 3, 1, []) := by rw [kc4_eq]; rfl
theorem rw_4_29 : (codeOf 4)[29]? = some (55, .getfield 11, 3, 0, 3, 3, []) := by rw [kc4_eq]; rfl
theorem rw_4_30 : (codeOf 4)[30]? = some (58, .iload 1, 1, 0, 0, 1, []) := by rw [kc4_eq]; rfl
theorem rw_4_31 : (codeOf 4)[31]? = some (59, .new 9, 6, 0, 0, 3, []) := by rw [kc4_eq]; rfl
theorem rw_4_32 : (codeOf 4)[32]? = some (62, .dup, 0, 0, 0, 1, []) := by rw [kc4_eq]; rfl
theorem rw_4_33 : (codeOf 4)[33]? = some (63, .invokespecial 35, 8, 0, 0, 3, []) := by rw [kc4_eq]; rfl
theorem rw_4_34 : (codeOf 4)[34]? = some (66, .aastore, 0, 0, 0, 1, []) := by rw [kc4_eq]; rfl
theorem rw_4_35 : (codeOf 4)[35]? = some (67, .iinc 1 1, 1, 1, 0, 3, []) := by rw [kc4_eq]; rfl
theorem rw_4_36 : (codeOf 4)[36]? = some (70, .goto (-22), 48, 24, 0, 3, []) := by rw [kc4_eq]; rfl
theorem kc5_eq : codeOf 5 = kc5 := rfl
theorem hk_5 : 5 < 186 := by decide
theorem rw_5_0 : (codeOf 5)[0]? = some (0, .aload 0, 0, 0, 3, 1, []) := by rw [kc5_eq]; rfl
theorem rw_5_1 : (codeOf 5)[1]? = some (1, .nop, 0, 0, 0, 3, []) := by rw [kc5_eq]; rfl
theorem rw_5_2 : (codeOf 5)[2]? = some (4, .aload 0, 0, 0, 3, 1, []) := by rw [kc5_eq]; rfl
theorem rw_5_3 : (codeOf 5)[3]? = some (5, .iconst 20, 2147483668, 0, 0, 2, []) := by rw [kc5_eq]; rfl
theorem rw_5_4 : (codeOf 5)[4]? = some (7, .putfield 9, 4, 0, 0, 3, []) := by rw [kc5_eq]; rfl
theorem rw_5_5 : (codeOf 5)[5]? = some (10, .aload 0, 0, 0, 3, 1, []) := by rw [kc5_eq]; rfl
theorem rw_5_6 : (codeOf 5)[6]? = some (11, .iconst 2, 2147483650, 0, 0, 1, []) := by rw [kc5_eq]; rfl
theorem rw_5_7 : (codeOf 5)[7]? = some (12, .putfield 15, 4, 1, 0, 3, []) := by rw [kc5_eq]; rfl
theorem rw_5_8 : (codeOf 5)[8]? = some (15, .aload 0, 0, 0, 3, 1, []) := by rw [kc5_eq]; rfl
theorem rw_5_9 : (codeOf 5)[9]? = some (16, .iconst 5, 2147483653, 0, 0, 1, []) := by rw [kc5_eq]; rfl
theorem rw_5_10 : (codeOf 5)[10]? = some (17, .putfield 18, 4, 2, 0, 3, []) := by rw [kc5_eq]; rfl
theorem rw_5_11 : (codeOf 5)[11]? = some (20, .aload 0, 0, 0, 3, 1, []) := by rw [kc5_eq]; rfl
theorem rw_5_12 : (codeOf 5)[12]? = some (21, .new 21, 5, 0, 0, 3, []) := by rw [kc5_eq]; rfl
theorem rw_5_13 : (codeOf 5)[13]? = some (24, .dup, 0, 0, 0, 1, []) := by rw [kc5_eq]; rfl
theorem rw_5_14 : (codeOf 5)[14]? = some (25, .iconst 60, 2147483708, 0, 0, 2, []) := by rw [kc5_eq]; rfl
theorem rw_5_15 : (codeOf 5)[15]? = some (27, .invokespecial 23, 6, 0, 0, 3, []) := by rw [kc5_eq]; rfl
theorem rw_5_16 : (codeOf 5)[16]? = some (30, .putfield 26, 4, 3, 3, 3, []) := by rw [kc5_eq]; rfl
theorem rw_5_17 : (codeOf 5)[17]? = some (33, .aload 0, 0, 0, 3, 1, []) := by rw [kc5_eq]; rfl
theorem rw_5_18 : (codeOf 5)[18]? = some (34, .new 21, 5, 0, 0, 3, []) := by rw [kc5_eq]; rfl
theorem rw_5_19 : (codeOf 5)[19]? = some (37, .dup, 0, 0, 0, 1, []) := by rw [kc5_eq]; rfl
theorem rw_5_20 : (codeOf 5)[20]? = some (38, .iconst 240, 2147483888, 0, 0, 3, []) := by rw [kc5_eq]; rfl
theorem rw_5_21 : (codeOf 5)[21]? = some (41, .invokespecial 23, 6, 0, 0, 3, []) := by rw [kc5_eq]; rfl
theorem rw_5_22 : (codeOf 5)[22]? = some (44, .putfield 30, 4, 4, 3, 3, []) := by rw [kc5_eq]; rfl
theorem rw_5_23 : (codeOf 5)[23]? = some (47, .return_, 0, 0, 0, 1, []) := by rw [kc5_eq]; rfl
theorem kc6_eq : codeOf 6 = kc6 := rfl
theorem hk_6 : 6 < 186 := by decide
theorem rw_6_0 : (codeOf 6)[0]? = some (0, .aload 0, 0, 0, 3, 1, []) := by rw [kc6_eq]; rfl
theorem rw_6_1 : (codeOf 6)[1]? = some (1, .nop, 0, 0, 0, 3, []) := by rw [kc6_eq]; rfl
theorem rw_6_2 : (codeOf 6)[2]? = some (4, .iconst 0, 2147483648, 0, 0, 1, []) := by rw [kc6_eq]; rfl
theorem rw_6_3 : (codeOf 6)[3]? = some (5, .iload 1, 1, 0, 0, 1, []) := by rw [kc6_eq]; rfl
theorem rw_6_4 : (codeOf 6)[4]? = some (6, .invokestatic 7, 7, 0, 0, 3, []) := by rw [kc6_eq]; rfl
theorem rw_6_5 : (codeOf 6)[5]? = some (9, .istore 2, 2, 0, 0, 1, []) := by rw [kc6_eq]; rfl
theorem rw_6_6 : (codeOf 6)[6]? = some (10, .aload 0, 0, 0, 3, 1, []) := by rw [kc6_eq]; rfl
theorem rw_6_7 : (codeOf 6)[7]? = some (11, .iload 2, 2, 0, 0, 1, []) := by rw [kc6_eq]; rfl
theorem rw_6_8 : (codeOf 6)[8]? = some (12, .newarray .int, 0, 0, 0, 2, []) := by rw [kc6_eq]; rfl
theorem rw_6_9 : (codeOf 6)[9]? = some (14, .putfield 13, 5, 0, 3, 3, []) := by rw [kc6_eq]; rfl
theorem rw_6_10 : (codeOf 6)[10]? = some (17, .aload 0, 0, 0, 3, 1, []) := by rw [kc6_eq]; rfl
theorem rw_6_11 : (codeOf 6)[11]? = some (18, .iload 2, 2, 0, 0, 1, []) := by rw [kc6_eq]; rfl
theorem rw_6_12 : (codeOf 6)[12]? = some (19, .newarray .int, 0, 0, 0, 2, []) := by rw [kc6_eq]; rfl
theorem rw_6_13 : (codeOf 6)[13]? = some (21, .putfield 19, 5, 1, 3, 3, []) := by rw [kc6_eq]; rfl
theorem rw_6_14 : (codeOf 6)[14]? = some (24, .aload 0, 0, 0, 3, 1, []) := by rw [kc6_eq]; rfl
theorem rw_6_15 : (codeOf 6)[15]? = some (25, .iload 2, 2, 0, 0, 1, []) := by rw [kc6_eq]; rfl
theorem rw_6_16 : (codeOf 6)[16]? = some (26, .newarray .int, 0, 0, 0, 2, []) := by rw [kc6_eq]; rfl
theorem rw_6_17 : (codeOf 6)[17]? = some (28, .putfield 22, 5, 2, 3, 3, []) := by rw [kc6_eq]; rfl
theorem rw_6_18 : (codeOf 6)[18]? = some (31, .aload 0, 0, 0, 3, 1, []) := by rw [kc6_eq]; rfl
theorem rw_6_19 : (codeOf 6)[19]? = some (32, .iload 2, 2, 0, 0, 1, []) := by rw [kc6_eq]; rfl
theorem rw_6_20 : (codeOf 6)[20]? = some (33, .newarray .int, 0, 0, 0, 2, []) := by rw [kc6_eq]; rfl
theorem rw_6_21 : (codeOf 6)[21]? = some (35, .putfield 25, 5, 3, 3, 3, []) := by rw [kc6_eq]; rfl
theorem rw_6_22 : (codeOf 6)[22]? = some (38, .return_, 0, 0, 0, 1, []) := by rw [kc6_eq]; rfl
theorem kc7_eq : codeOf 7 = kc7 := rfl
theorem hk_7 : 7 < 186 := by decide
theorem rw_7_0 : (codeOf 7)[0]? = some (0, .iload 0, 0, 0, 0, 1, []) := by rw [kc7_eq]; rfl
theorem rw_7_1 : (codeOf 7)[1]? = some (1, .iload 1, 1, 0, 0, 1, []) := by rw [kc7_eq]; rfl
theorem rw_7_2 : (codeOf 7)[2]? = some (2, .if_icmp .lt 7, 9, 5, 0, 3, []) := by rw [kc7_eq]; rfl
theorem rw_7_3 : (codeOf 7)[3]? = some (5, .iload 0, 0, 0, 0, 1, []) := by rw [kc7_eq]; rfl
theorem rw_7_4 : (codeOf 7)[4]? = some (6, .goto 4, 10, 6, 0, 3, []) := by rw [kc7_eq]; rfl
theorem rw_7_5 : (codeOf 7)[5]? = some (9, .iload 1, 1, 0, 0, 1, []) := by rw [kc7_eq]; rfl
theorem rw_7_6 : (codeOf 7)[6]? = some (10, .ireturn, 1, 0, 0, 1, []) := by rw [kc7_eq]; rfl
theorem kc8_eq : codeOf 8 = kc8 := rfl
theorem hk_8 : 8 < 186 := by decide
theorem rw_8_0 : (codeOf 8)[0]? = some (0, .aload 0, 0, 0, 3, 1, []) := by rw [kc8_eq]; rfl
theorem rw_8_1 : (codeOf 8)[1]? = some (1, .nop, 0, 0, 0, 3, []) := by rw [kc8_eq]; rfl
theorem rw_8_2 : (codeOf 8)[2]? = some (4, .aload 0, 0, 0, 3, 1, []) := by rw [kc8_eq]; rfl
theorem rw_8_3 : (codeOf 8)[3]? = some (5, .new 9, 7, 0, 0, 3, []) := by rw [kc8_eq]; rfl
theorem rw_8_4 : (codeOf 8)[4]? = some (8, .dup, 0, 0, 0, 1, []) := by rw [kc8_eq]; rfl
theorem rw_8_5 : (codeOf 8)[5]? = some (9, .invokespecial 11, 9, 0, 0, 3, []) := by rw [kc8_eq]; rfl
theorem rw_8_6 : (codeOf 8)[6]? = some (12, .putfield 12, 6, 18, 3, 3, []) := by rw [kc8_eq]; rfl
theorem rw_8_7 : (codeOf 8)[7]? = some (15, .aload 0, 0, 0, 3, 1, []) := by rw [kc8_eq]; rfl
theorem rw_8_8 : (codeOf 8)[8]? = some (16, .new 18, 8, 0, 0, 3, []) := by rw [kc8_eq]; rfl
theorem rw_8_9 : (codeOf 8)[9]? = some (19, .dup, 0, 0, 0, 1, []) := by rw [kc8_eq]; rfl
theorem rw_8_10 : (codeOf 8)[10]? = some (20, .invokespecial 20, 10, 0, 0, 3, []) := by rw [kc8_eq]; rfl
theorem rw_8_11 : (codeOf 8)[11]? = some (23, .putfield 21, 6, 19, 3, 3, []) := by rw [kc8_eq]; rfl
theorem rw_8_12 : (codeOf 8)[12]? = some (26, .return_, 0, 0, 0, 1, []) := by rw [kc8_eq]; rfl
theorem kc9_eq : codeOf 9 = kc9 := rfl
theorem hk_9 : 9 < 186 := by decide
theorem rw_9_0 : (codeOf 9)[0]? = some (0, .aload 0, 0, 0, 3, 1, []) := by rw [kc9_eq]; rfl
theorem rw_9_1 : (codeOf 9)[1]? = some (1, .nop, 0, 0, 0, 3, []) := by rw [kc9_eq]; rfl
theorem rw_9_2 : (codeOf 9)[2]? = some (4, .return_, 0, 0, 0, 1, []) := by rw [kc9_eq]; rfl
theorem kc10_eq : codeOf 10 = kc10 := rfl
theorem hk_10 : 10 < 186 := by decide
theorem rw_10_0 : (codeOf 10)[0]? = some (0, .aload 0, 0, 0, 3, 1, []) := by rw [kc10_eq]; rfl
theorem rw_10_1 : (codeOf 10)[1]? = some (1, .nop, 0, 0, 0, 3, []) := by rw [kc10_eq]; rfl
theorem rw_10_2 : (codeOf 10)[2]? = some (4, .aload 0, 0, 0, 3, 1, []) := by rw [kc10_eq]; rfl
theorem rw_10_3 : (codeOf 10)[3]? = some (5, .iconst 64, 2147483712, 0, 0, 2, []) := by rw [kc10_eq]; rfl
theorem rw_10_4 : (codeOf 10)[4]? = some (7, .newarray .int, 0, 0, 0, 2, []) := by rw [kc10_eq]; rfl
theorem rw_10_5 : (codeOf 10)[5]? = some (9, .putfield 9, 8, 0, 3, 3, []) := by rw [kc10_eq]; rfl
theorem rw_10_6 : (codeOf 10)[6]? = some (12, .aload 0, 0, 0, 3, 1, []) := by rw [kc10_eq]; rfl
theorem rw_10_7 : (codeOf 10)[7]? = some (13, .iconst 64, 2147483712, 0, 0, 2, []) := by rw [kc10_eq]; rfl
theorem rw_10_8 : (codeOf 10)[8]? = some (15, .newarray .int, 0, 0, 0, 2, []) := by rw [kc10_eq]; rfl
theorem rw_10_9 : (codeOf 10)[9]? = some (17, .putfield 15, 8, 1, 3, 3, []) := by rw [kc10_eq]; rfl
theorem rw_10_10 : (codeOf 10)[10]? = some (20, .return_, 0, 0, 0, 1, []) := by rw [kc10_eq]; rfl
/-- an array of zeros -/
def A0 (m : Nat) : PE := .inl (m, fun _ => 0)
/-- a heap whose object v is under way, and what was made behind it -/
def G (h : PH) (v ci : Nat) (fs : List Value) (M : PH) : PH := h.set v (.inr (.inr (ci, fs))) ++ M
section ZH
variable {d k j : Nat} {lv : List (Option Value)} {st : List Value} {Q : Option Value → PH → Prop} {h : PH} {v ci : Nat} {fs : List Value} {M : PH}
theorem G_0 (hv : h[v]? = some (.inr (.inr (ci, fs)))) : h = G h v ci fs [] := by
  unfold G
  rw [set_same hv, List.append_nil]
theorem zc_G {as : List Value} {P : Option Value → PH → Prop} (hv : h[v]? = some (.inr (.inr (ci, fs)))) (hz : ZC d k as (G h v ci fs []) P) : ZC d k as h P := by
  rw [← G_0 hv] at hz
  exact hz
theorem G_len : (G h v ci fs M).length = h.length + M.length := by
  unfold G
  rw [List.length_append, List.length_set]
theorem G_v (hv : v < h.length) : (G h v ci fs M)[v]? = some (.inr (.inr (ci, fs))) := by
  unfold G
  rw [List.getElem?_append_left (by rw [List.length_set]; exact hv), List.getElem?_set_self hv]
theorem G_M (i : Nat) : (G h v ci fs M)[h.length + i]? = M[i]? := by
  unfold G
  rw [List.getElem?_append_right (by rw [List.length_set]; omega), List.length_set, Nat.add_sub_cancel_left]
theorem G_lo {i : Nat} (hi : i < h.length) (hne : i ≠ v) : (G h v ci fs M)[i]? = h[i]? := by
  unfold G
  rw [List.getElem?_append_left (by rw [List.length_set]; exact hi), List.getElem?_set_ne (fun z => hne z.symm)]
theorem G_setv (hv : v < h.length) {fs' : List Value} : (G h v ci fs M).set v (.inr (.inr (ci, fs'))) = G h v ci fs' M := by
  unfold G
  rw [List.set_append_left _ _ (by rw [List.length_set]; exact hv), List.set_set]
theorem G_setM (i : Nat) {c : PE} : (G h v ci fs M).set (h.length + i) c = G h v ci fs (M.set i c) := by
  unfold G
  rw [List.set_append_right _ _ (by rw [List.length_set]; omega), List.length_set, Nat.add_sub_cancel_left]
theorem G_app {N : PH} : G h v ci fs M ++ N = G h v ci fs (M ++ N) := by
  unfold G
  rw [List.append_assoc]
theorem g_put (hk : k < 186) {pc b x ix : Nat} {y : Value} {ts : List Nat} {q : vw_C} {t : Nat → FieldType} {fs' : List Value} (hrow : (codeOf k)[j]? = some (pc, .putfield ix, ci, b, x, 3, ts)) (hv : v < h.length) (h2 : 2 ≤ v) (hb : b < fs.length) (hq : cls[ci]? = some q) (ht : tyL[ci]? = some t) (hfit : fitV (t b) y = true) (hs : fs.set b y = fs') (hz : ZR d k (j + 1) lv st (G h v ci fs' M) Q) : ZR d k j lv (y :: .ref v :: st) (G h v ci fs M) Q := by
  subst hs
  refine zr_putX hk hrow (G_v hv) h2 hb hq ht hfit ?_
  rw [G_setv hv]
  exact hz
theorem g_get (hk : k < 186) {pc b x ix : Nat} {y : Value} {ts : List Nat} (hrow : (codeOf k)[j]? = some (pc, .getfield ix, ci, b, x, 3, ts)) (hv : v < h.length) (h2 : 2 ≤ v) (hb : fs[b]? = some y) (hz : ZR d k (j + 1) lv (y :: st) (G h v ci fs M) Q) : ZR d k j lv (.ref v :: st) (G h v ci fs M) Q :=
  zr_getfield hk hrow (G_v hv) h2 hb hz
theorem g_newa (hk : k < 186) {pc a b x n : Nat} {ty : ArrayType} {e : Int} {ts : List Nat} {N : PH} (hrow : (codeOf k)[j]? = some (pc, .newarray ty, a, b, x, 2, ts)) (m : Nat) (he : e = (m : Int)) (hm : m ≤ 100000) (hl : M.length = n) (hN : M ++ [A0 m] = N) (hz : ZR d k (j + 1) lv (.ref (h.length + n) :: st) (G h v ci fs N) Q) : ZR d k j lv (.int (iv e) :: st) (G h v ci fs M) Q := by
  subst hl hN
  obtain ⟨a1, a2⟩ := iv_clamp he (by omega)
  refine zr_newarray hk hrow a1 (by rw [a2]; exact hm) ?_
  rw [a2, G_len, G_app]
  exact hz
theorem g_anew (hk : k < 186) {pc a b x n ix : Nat} {e : Int} {ts : List Nat} {N : PH} (hrow : (codeOf k)[j]? = some (pc, .anewarray ix, a, b, x, 3, ts)) (m : Nat) (he : e = (m : Int)) (hm : m ≤ 100000) (hl : M.length = n) (hN : M ++ [.inr (.inl (a, m, fun _ => none))] = N) (hz : ZR d k (j + 1) lv (.ref (h.length + n) :: st) (G h v ci fs N) Q) : ZR d k j lv (.int (iv e) :: st) (G h v ci fs M) Q := by
  subst hl hN
  obtain ⟨a1, a2⟩ := iv_clamp he (by omega)
  refine zr_anewarray hk hrow a1 (by rw [a2]; exact hm) ?_
  rw [a2, G_len, G_app]
  exact hz
theorem g_new (hk : k < 186) {pc a b x n ix : Nat} {q : vw_C} {gs : List Value} {ts : List Nat} {N : PH} (hrow : (codeOf k)[j]? = some (pc, .new ix, a, b, x, 3, ts)) (hq : cls[a]? = some q) (hfs : dfL[a]? = some gs) (hl : M.length = n) (hN : M ++ [.inr (.inr (a, gs))] = N) (hz : ZR d k (j + 1) lv (.ref (h.length + n) :: st) (G h v ci fs N) Q) : ZR d k j lv st (G h v ci fs M) Q := by
  subst hl hN
  refine zr_new hk hrow hq hfs ?_
  rw [G_len, G_app]
  exact hz
end ZH
theorem est_init (d : Nat) {h : PH} {v : Nat} : ZC (d + 1) 9 [.ref v] h (fun w h' => w = none ∧ h' = h) := by
  refine ZC.of (lv := [some (.ref v)]) hk_9 (fun i v hv => ?_) ?_
  · match i, hv with
    | 0, hv => cases hv; rfl
    | i + 1, hv => simp at hv
  refine zr_aload hk_9 rw_9_0 rfl ?_
  refine zr_oi hk_9 rw_9_1 (by omega) (by decide) ?_
  exact zr_return (a := 0) hk_9 rw_9_2 ⟨rfl, rfl⟩
theorem fli_init (d : Nat) {h : PH} {v : Nat} (hv : h[v]? = some (.inr (.inr (8, [.null, .null, .int 0])))) (h2 : 2 ≤ v) : ZC (d + 1) 10 [.ref v] h (fun w h' => w = none ∧ h' = G h v 8 [.ref (h.length + 0), .ref (h.length + 1), .int 0] [A0 64, A0 64]) := by
  refine zc_G hv ?_
  refine ZC.of (lv := [some (.ref v)]) hk_10 (fun i v hv => ?_) ?_
  · match i, hv with
    | 0, hv => cases hv; rfl
    | i + 1, hv => simp at hv
  have hvl := (List.getElem?_eq_some_iff.mp hv).1
  refine zr_aload hk_10 rw_10_0 rfl ?_
  refine zr_oi hk_10 rw_10_1 (by omega) (by decide) ?_
  refine zr_aload hk_10 rw_10_2 rfl ?_
  refine zi_const hk_10 rw_10_3 (c := 64) rfl ?_
  refine g_newa (n := 0) (N := [A0 64]) hk_10 rw_10_4 64 rfl (by decide) rfl rfl ?_
  refine g_put (fs' := [.ref (h.length + 0), .null, .int 0]) hk_10 rw_10_5 hvl h2 (Nat.le_of_ble_eq_true rfl) rfl rfl (fit_a _ _) rfl ?_
  refine zr_aload hk_10 rw_10_6 rfl ?_
  refine zi_const hk_10 rw_10_7 (c := 64) rfl ?_
  refine g_newa (n := 1) (N := [A0 64, A0 64]) hk_10 rw_10_8 64 rfl (by decide) rfl rfl ?_
  refine g_put (fs' := [.ref (h.length + 0), .ref (h.length + 1), .int 0]) hk_10 rw_10_9 hvl h2 (Nat.le_of_ble_eq_true rfl) rfl rfl (fit_a _ _) rfl ?_
  exact zr_return (a := 0) hk_10 rw_10_10 ⟨rfl, rfl⟩
theorem GG {h : PH} {v ci cj : Nat} {fs o : List Value} {M N : PH} (i : Nat) : G (G h v ci fs M) (h.length + i) cj o N = G h v ci fs (M.set i (.inr (.inr (cj, o))) ++ N) := by
  show (G h v ci fs M).set (h.length + i) (.inr (.inr (cj, o))) ++ N = _
  rw [G_setM, G_app]
theorem con_init (d : Nat) {h : PH} {v : Nat} (hv : h[v]? = some (.inr (.inr (6, [.int 0, .int 0, .int 0, .int 0, .int 0, .int 0, .int 0, .int 0, .int 0, .int 0, .int 0, .int 0, .int 0, .int 0, .int 0, .int 0, .int 0, .int 0, .null, .null])))) (h2 : 2 ≤ v) : ZC (d + 2) 8 [.ref v] h (fun w h' => w = none ∧ h' = G h v 6 [.int 0, .int 0, .int 0, .int 0, .int 0, .int 0, .int 0, .int 0, .int 0, .int 0, .int 0, .int 0, .int 0, .int 0, .int 0, .int 0, .int 0, .int 0, .ref (h.length + 0), .ref (h.length + 1)] [.inr (.inr (7, [.int 0, .int 0, .long 0, .int 0])), .inr (.inr (8, [.ref (h.length + 2), .ref (h.length + 3), .int 0])), A0 64, A0 64]) := by
  refine zc_G hv ?_
  refine ZC.of (lv := [some (.ref v)]) hk_8 (fun i v hv => ?_) ?_
  · match i, hv with
    | 0, hv => cases hv; rfl
    | i + 1, hv => simp at hv
  have hvl := (List.getElem?_eq_some_iff.mp hv).1
  refine zr_aload hk_8 rw_8_0 rfl ?_
  refine zr_oi hk_8 rw_8_1 (by omega) (by decide) ?_
  refine zr_aload hk_8 rw_8_2 rfl ?_
  refine g_new (n := 0) (N := [.inr (.inr (7, [.int 0, .int 0, .long 0, .int 0]))]) hk_8 rw_8_3 rfl rfl rfl rfl ?_
  refine zr_dup hk_8 rw_8_4 rfl ?_
  refine zr_special (L := 1) (n := 0) (as := []) (r := [.ref (h.length + 0), .ref v]) hk_8 rw_8_5 (by decide) (by decide) ⟨rfl, rfl, rfl⟩ rfl rfl (Nat.le_of_ble_eq_true rfl) (Nat.le_of_ble_eq_true rfl) (est_init d) ?_
  rintro w ph' ⟨rfl, rfl⟩
  refine g_put (fs' := [.int 0, .int 0, .int 0, .int 0, .int 0, .int 0, .int 0, .int 0, .int 0, .int 0, .int 0, .int 0, .int 0, .int 0, .int 0, .int 0, .int 0, .int 0, .ref (h.length + 0), .null]) hk_8 rw_8_6 hvl h2 (Nat.le_of_ble_eq_true rfl) rfl rfl (fit_o _ _) rfl ?_
  refine zr_aload hk_8 rw_8_7 rfl ?_
  refine g_new (n := 1) (N := [.inr (.inr (7, [.int 0, .int 0, .long 0, .int 0])), .inr (.inr (8, [.null, .null, .int 0]))]) hk_8 rw_8_8 rfl rfl rfl rfl ?_
  refine zr_dup hk_8 rw_8_9 rfl ?_
  refine zr_special (L := 1) (n := 0) (as := []) (r := [.ref (h.length + 1), .ref v]) hk_8 rw_8_10 (by decide) (by decide) ⟨rfl, rfl, rfl⟩ rfl rfl (Nat.le_of_ble_eq_true rfl) (Nat.le_of_ble_eq_true rfl) (fli_init d (G_M 1) (by omega)) ?_
  rintro w ph' ⟨rfl, rfl⟩
  rw [GG 1, G_len]
  refine g_put (fs' := [.int 0, .int 0, .int 0, .int 0, .int 0, .int 0, .int 0, .int 0, .int 0, .int 0, .int 0, .int 0, .int 0, .int 0, .int 0, .int 0, .int 0, .int 0, .ref (h.length + 0), .ref (h.length + 1)]) hk_8 rw_8_11 hvl h2 (Nat.le_of_ble_eq_true rfl) rfl rfl (fit_o _ _) rfl ?_
  exact zr_return (a := 0) hk_8 rw_8_12 ⟨rfl, rfl⟩
theorem max_ok (d : Nat) {m : Nat} (hm : m < 100000) (ph : PH) : ZC d 7 [.int (iv 0), .int (iv (m : Int))] ph (fun w ph' => ph' = ph ∧ w = some (.int (iv (m : Int)))) := by
  refine ZC.of (lv := [some (.int (iv 0)), some (.int (iv (m : Int)))]) hk_7 (fun i v hv => ?_) ?_
  · match i, hv with
    | 0, hv => cases hv; rfl
    | 1, hv => cases hv; rfl
    | i + 2, hv => simp at hv
  refine zr_iload hk_7 rw_7_0 rfl ?_
  refine zr_iload hk_7 rw_7_1 rfl ?_
  refine zi_icmp_lt hk_7 rw_7_2 (by unfold inR; omega) (by unfold inR; omega) (fun h => ?_) (fun h => ?_)
  · refine zr_iload (j := 5) hk_7 rw_7_5 rfl ?_
    exact zr_ireturn hk_7 rw_7_6 ⟨rfl, rfl⟩
  · refine zr_iload hk_7 rw_7_3 rfl ?_
    refine zr_goto hk_7 rw_7_4 ?_
    refine zr_ireturn hk_7 rw_7_6 ⟨rfl, ?_⟩
    rw [show (m : Int) = 0 by omega]
theorem row_init (d : Nat) {h : PH} {v m : Nat} (hv : h[v]? = some (.inr (.inr (5, [.null, .null, .null, .null, .int 0])))) (h2 : 2 ≤ v) (hm : m < 100000) : ZC (d + 1) 6 [.ref v, .int (iv (m : Int))] h (fun w h' => w = none ∧ h' = G h v 5 [.ref (h.length + 0), .ref (h.length + 1), .ref (h.length + 2), .ref (h.length + 3), .int 0] [A0 m, A0 m, A0 m, A0 m]) := by
  refine zc_G hv ?_
  refine ZC.of (lv := [some (.ref v), some (.int (iv (m : Int)))]) hk_6 (fun i v hv => ?_) ?_
  · match i, hv with
    | 0, hv => cases hv; rfl
    | 1, hv => cases hv; rfl
    | i + 2, hv => simp at hv
  have hvl := (List.getElem?_eq_some_iff.mp hv).1
  refine zr_aload hk_6 rw_6_0 rfl ?_
  refine zr_oi hk_6 rw_6_1 (by omega) (by decide) ?_
  refine zi_const hk_6 rw_6_2 (c := 0) rfl ?_
  refine zr_iload hk_6 rw_6_3 rfl ?_
  refine zr_static (L := 2) (n := 2) (as := [.int (iv 0), .int (iv (m : Int))]) (r := []) hk_6 rw_6_4 (by decide) (by decide) ⟨rfl, rfl, rfl⟩ rfl rfl (by decide) (Nat.le_refl 2) (max_ok d hm _) ?_
  rintro w ph' ⟨rfl, rfl⟩
  refine zi_istore hk_6 rw_6_5 rfl (lv' := [some (.ref v), some (.int (iv (m : Int))), some (.int (iv (m : Int)))]) rfl ?_
  refine zr_aload hk_6 rw_6_6 rfl ?_
  refine zr_iload hk_6 rw_6_7 rfl ?_
  refine g_newa (n := 0) (N := [A0 m]) hk_6 rw_6_8 m rfl (by omega) rfl rfl ?_
  refine g_put (fs' := [.ref (h.length + 0), .null, .null, .null, .int 0]) hk_6 rw_6_9 hvl h2 (Nat.le_of_ble_eq_true rfl) rfl rfl (fit_a _ _) rfl ?_
  refine zr_aload hk_6 rw_6_10 rfl ?_
  refine zr_iload hk_6 rw_6_11 rfl ?_
  refine g_newa (n := 1) (N := [A0 m, A0 m]) hk_6 rw_6_12 m rfl (by omega) rfl rfl ?_
  refine g_put (fs' := [.ref (h.length + 0), .ref (h.length + 1), .null, .null, .int 0]) hk_6 rw_6_13 hvl h2 (Nat.le_of_ble_eq_true rfl) rfl rfl (fit_a _ _) rfl ?_
  refine zr_aload hk_6 rw_6_14 rfl ?_
  refine zr_iload hk_6 rw_6_15 rfl ?_
  refine g_newa (n := 2) (N := [A0 m, A0 m, A0 m]) hk_6 rw_6_16 m rfl (by omega) rfl rfl ?_
  refine g_put (fs' := [.ref (h.length + 0), .ref (h.length + 1), .ref (h.length + 2), .null, .int 0]) hk_6 rw_6_17 hvl h2 (Nat.le_of_ble_eq_true rfl) rfl rfl (fit_a _ _) rfl ?_
  refine zr_aload hk_6 rw_6_18 rfl ?_
  refine zr_iload hk_6 rw_6_19 rfl ?_
  refine g_newa (n := 3) (N := [A0 m, A0 m, A0 m, A0 m]) hk_6 rw_6_20 m rfl (by omega) rfl rfl ?_
  refine g_put (fs' := [.ref (h.length + 0), .ref (h.length + 1), .ref (h.length + 2), .ref (h.length + 3), .int 0]) hk_6 rw_6_21 hvl h2 (Nat.le_of_ble_eq_true rfl) rfl rfl (fit_a _ _) rfl ?_
  exact zr_return (a := 0) hk_6 rw_6_22 ⟨rfl, rfl⟩
theorem lnk_init (d : Nat) {h : PH} {v : Nat} (hv : h[v]? = some (.inr (.inr (4, [.int 0, .int 0, .int 0, .null, .null])))) (h2 : 2 ≤ v) : ZC (d + 2) 5 [.ref v] h (fun w h' => w = none ∧ h' = G h v 4 [.int (iv 20), .int (iv 2), .int (iv 5), .ref (h.length + 0), .ref (h.length + 5)] [.inr (.inr (5, [.ref (h.length + 1), .ref (h.length + 2), .ref (h.length + 3), .ref (h.length + 4), .int 0])), A0 60, A0 60, A0 60, A0 60, .inr (.inr (5, [.ref (h.length + 6), .ref (h.length + 7), .ref (h.length + 8), .ref (h.length + 9), .int 0])), A0 240, A0 240, A0 240, A0 240]) := by
  refine zc_G hv ?_
  refine ZC.of (lv := [some (.ref v)]) hk_5 (fun i v hv => ?_) ?_
  · match i, hv with
    | 0, hv => cases hv; rfl
    | i + 1, hv => simp at hv
  have hvl := (List.getElem?_eq_some_iff.mp hv).1
  refine zr_aload hk_5 rw_5_0 rfl ?_
  refine zr_oi hk_5 rw_5_1 (by omega) (by decide) ?_
  refine zr_aload hk_5 rw_5_2 rfl ?_
  refine zi_const hk_5 rw_5_3 (c := 20) rfl ?_
  refine g_put (fs' := [.int (iv 20), .int 0, .int 0, .null, .null]) hk_5 rw_5_4 hvl h2 (Nat.le_of_ble_eq_true rfl) rfl rfl (fit_i _) rfl ?_
  refine zr_aload hk_5 rw_5_5 rfl ?_
  refine zi_const hk_5 rw_5_6 (c := 2) rfl ?_
  refine g_put (fs' := [.int (iv 20), .int (iv 2), .int 0, .null, .null]) hk_5 rw_5_7 hvl h2 (Nat.le_of_ble_eq_true rfl) rfl rfl (fit_i _) rfl ?_
  refine zr_aload hk_5 rw_5_8 rfl ?_
  refine zi_const hk_5 rw_5_9 (c := 5) rfl ?_
  refine g_put (fs' := [.int (iv 20), .int (iv 2), .int (iv 5), .null, .null]) hk_5 rw_5_10 hvl h2 (Nat.le_of_ble_eq_true rfl) rfl rfl (fit_i _) rfl ?_
  refine zr_aload hk_5 rw_5_11 rfl ?_
  refine g_new (n := 0) (N := [.inr (.inr (5, [.null, .null, .null, .null, .int 0]))]) hk_5 rw_5_12 rfl rfl rfl rfl ?_
  refine zr_dup hk_5 rw_5_13 rfl ?_
  refine zi_const hk_5 rw_5_14 (c := ((60 : Nat) : Int)) rfl ?_
  refine zr_special (L := 3) (n := 1) (as := [.int (iv ((60 : Nat) : Int))]) (r := [.ref (h.length + 0), .ref v]) hk_5 rw_5_15 (by decide) (by decide) ⟨rfl, rfl, rfl⟩ rfl rfl (Nat.le_of_ble_eq_true rfl) (Nat.le_of_ble_eq_true rfl) (row_init d (G_M 0) (by omega) (by decide)) ?_
  rintro w ph' ⟨rfl, rfl⟩
  rw [GG 0, G_len]
  refine g_put (M := [.inr (.inr (5, [.ref (h.length + 1), .ref (h.length + 2), .ref (h.length + 3), .ref (h.length + 4), .int 0])), A0 60, A0 60, A0 60, A0 60]) (fs' := [.int (iv 20), .int (iv 2), .int (iv 5), .ref (h.length + 0), .null]) hk_5 rw_5_16 hvl h2 (Nat.le_of_ble_eq_true rfl) rfl rfl (fit_o _ _) rfl ?_
  refine zr_aload hk_5 rw_5_17 rfl ?_
  refine g_new (n := 5) (N := [.inr (.inr (5, [.ref (h.length + 1), .ref (h.length + 2), .ref (h.length + 3), .ref (h.length + 4), .int 0])), A0 60, A0 60, A0 60, A0 60, .inr (.inr (5, [.null, .null, .null, .null, .int 0]))]) hk_5 rw_5_18 rfl rfl rfl rfl ?_
  refine zr_dup hk_5 rw_5_19 rfl ?_
  refine zi_const hk_5 rw_5_20 (c := ((240 : Nat) : Int)) rfl ?_
  refine zr_special (L := 3) (n := 1) (as := [.int (iv ((240 : Nat) : Int))]) (r := [.ref (h.length + 5), .ref v]) hk_5 rw_5_21 (by decide) (by decide) ⟨rfl, rfl, rfl⟩ rfl rfl (Nat.le_of_ble_eq_true rfl) (Nat.le_of_ble_eq_true rfl) (row_init d (G_M 5) (by omega) (by decide)) ?_
  rintro w ph' ⟨rfl, rfl⟩
  rw [GG 5, G_len]
  refine g_put (M := [.inr (.inr (5, [.ref (h.length + 1), .ref (h.length + 2), .ref (h.length + 3), .ref (h.length + 4), .int 0])), A0 60, A0 60, A0 60, A0 60, .inr (.inr (5, [.ref (h.length + 6), .ref (h.length + 7), .ref (h.length + 8), .ref (h.length + 9), .int 0])), A0 240, A0 240, A0 240, A0 240]) (fs' := [.int (iv 20), .int (iv 2), .int (iv 5), .ref (h.length + 0), .ref (h.length + 5)]) hk_5 rw_5_22 hvl h2 (Nat.le_of_ble_eq_true rfl) rfl rfl (fit_o _ _) rfl ?_
  exact zr_return (a := 0) hk_5 rw_5_23 ⟨rfl, rfl⟩
/-- a connection and its parts, the first at address q -/
def cn5 (q : Nat) : PH := [.inr (.inr (6, [.int 0, .int 0, .int 0, .int 0, .int 0, .int 0, .int 0, .int 0, .int 0, .int 0, .int 0, .int 0, .int 0, .int 0, .int 0, .int 0, .int 0, .int 0, .ref (q + 1), .ref (q + 2)])), .inr (.inr (7, [.int 0, .int 0, .long 0, .int 0])), .inr (.inr (8, [.ref (q + 3), .ref (q + 4), .int 0])), A0 64, A0 64]
def cns (q : Nat) : Nat → PH
  | 0 => []
  | k + 1 => cns q k ++ cn5 (q + 14 + 5 * k)
theorem cns_len (q : Nat) : ∀ k, (cns q k).length = 5 * k
  | 0 => rfl
  | k + 1 => by
    rw [cns, List.length_append, cns_len q k]
    show 5 * k + 5 = _
    omega
/-- which connections there are -/
def mkF (q k : Nat) : Nat → Option Nat := fun j => if j < k then some (q + 14 + 5 * j) else none
theorem mkF_up (q k : Nat) : va_up (mkF q k) k (some (q + 14 + 5 * k)) = mkF q (k + 1) := by
  funext j
  unfold va_up mkF
  by_cases e : j = k
  · rw [if_pos e, if_pos (by omega), e]
  · rw [if_neg e]
    by_cases h : j < k
    · rw [if_pos h, if_pos (by omega)]
    · rw [if_neg h, if_neg (by omega)]
/-- the cells behind a family's own, from address q on -/
def hd (q : Nat) (f : Nat → Option Nat) : PH := .inr (.inl (6, 10, f)) :: [.inr (.inr (4, [.int (iv 20), .int (iv 2), .int (iv 5), .ref (q + 2), .ref (q + 7)])), .inr (.inr (5, [.ref (q + 3), .ref (q + 4), .ref (q + 5), .ref (q + 6), .int 0])), A0 60, A0 60, A0 60, A0 60, .inr (.inr (5, [.ref (q + 8), .ref (q + 9), .ref (q + 10), .ref (q + 11), .int 0])), A0 240, A0 240, A0 240, A0 240, A0 10, A0 10]
def fmF (q : Nat) : List Value := [.ref (q + 0), .ref (q + 1), .int (iv 40), .int 0, .int 0, .int 0, .ref (q + 12), .ref (q + 13)]
theorem fam_loop {d : Nat} {h : PH} {v : Nat} {Q : Option Value → PH → Prop} (hvl : v < h.length) (h2 : 2 ≤ v) (hQ : ZR (d + 4) 4 37 [some (.ref v)] [] (G h v 3 (fmF h.length) (hd h.length (mkF h.length 10) ++ cns h.length 10)) Q) : ∀ (m k : Nat), k + m = 10 → ZR (d + 4) 4 24 [some (.ref v), some (.int (iv (k : Int)))] [] (G h v 3 (fmF h.length) (hd h.length (mkF h.length k) ++ cns h.length k)) Q := by
  intro m
  induction m with
  | zero =>
    intro k hkm
    refine zr_cut hk_4 rw_4_24 ?_
    refine zr_iload hk_4 rw_4_25 rfl ?_
    refine zi_const hk_4 rw_4_26 (c := 10) rfl ?_
    refine zi_icmp_ge hk_4 rw_4_27 (by unfold inR; omega) (by unfold inR; omega) (fun hlt => ?_) (fun hlt => by omega)
    obtain rfl : k = 10 := by omega
    exact zr_app (lv := [some (.ref v)]) (ex := [some (.int _)]) hQ
  | succ m ih =>
    intro k hkm
    refine zr_cut hk_4 rw_4_24 ?_
    refine zr_iload hk_4 rw_4_25 rfl ?_
    refine zi_const hk_4 rw_4_26 (c := 10) rfl ?_
    refine zi_icmp_ge hk_4 rw_4_27 (by unfold inR; omega) (by unfold inR; omega) (fun hlt => by omega) (fun hlt => ?_)
    refine zr_aload hk_4 rw_4_28 rfl ?_
    refine g_get hk_4 rw_4_29 hvl h2 rfl ?_
    refine zr_iload hk_4 rw_4_30 rfl ?_
    refine g_new (n := 14 + 5 * k) (N := hd h.length (mkF h.length k) ++ (cns h.length k ++ [.inr (.inr (6, [.int 0, .int 0, .int 0, .int 0, .int 0, .int 0, .int 0, .int 0, .int 0, .int 0, .int 0, .int 0, .int 0, .int 0, .int 0, .int 0, .int 0, .int 0, .null, .null]))])) hk_4 rw_4_31 rfl rfl (by rw [List.length_append, cns_len]; rfl) (by rw [List.append_assoc]) ?_
    refine zr_dup hk_4 rw_4_32 rfl ?_
    have hg : (hd h.length (mkF h.length k) ++ (cns h.length k ++ [.inr (.inr (6, [.int 0, .int 0, .int 0, .int 0, .int 0, .int 0, .int 0, .int 0, .int 0, .int 0, .int 0, .int 0, .int 0, .int 0, .int 0, .int 0, .int 0, .int 0, .null, .null]))]))[14 + 5 * k]? = some (.inr (.inr (6, [.int 0, .int 0, .int 0, .int 0, .int 0, .int 0, .int 0, .int 0, .int 0, .int 0, .int 0, .int 0, .int 0, .int 0, .int 0, .int 0, .int 0, .int 0, .null, .null]))) := by
      rw [List.getElem?_append_right (by show 14 ≤ _; omega)]
      show (cns h.length k ++ [_])[14 + 5 * k - 14]? = _
      rw [Nat.add_sub_cancel_left, List.getElem?_append_right (by rw [cns_len]; omega), cns_len, Nat.sub_self]
      rfl
    refine zr_special (L := 1) (n := 0) (as := []) (r := [.ref (h.length + (14 + 5 * k)), .int (iv (k : Int)), .ref (h.length + 0)]) hk_4 rw_4_33 (by decide) (by decide) ⟨rfl, rfl, rfl⟩ rfl rfl (Nat.le_of_ble_eq_true rfl) (Nat.le_of_ble_eq_true rfl) (con_init (d + 1) ((G_M _).trans hg) (by omega)) ?_
    rintro w ph' ⟨rfl, rfl⟩
    rw [GG (14 + 5 * k), G_len]
    have hs : (hd h.length (mkF h.length k) ++ (cns h.length k ++ ([.inr (.inr (6, [.int 0, .int 0, .int 0, .int 0, .int 0, .int 0, .int 0, .int 0, .int 0, .int 0, .int 0, .int 0, .int 0, .int 0, .int 0, .int 0, .int 0, .int 0, .null, .null]))] : PH)) : PH).length = 14 + 5 * k + 1 := by rw [List.length_append, List.length_append, cns_len]; show 14 + (5 * k + 1) = _; omega
    rw [hs]
    have hset : ∀ c : PE, ∀ N : PH, (hd h.length (mkF h.length k) ++ (cns h.length k ++ ([.inr (.inr (6, [.int 0, .int 0, .int 0, .int 0, .int 0, .int 0, .int 0, .int 0, .int 0, .int 0, .int 0, .int 0, .int 0, .int 0, .int 0, .int 0, .int 0, .int 0, .null, .null]))] : PH)) : PH).set (14 + 5 * k) c ++ N = hd h.length (mkF h.length k) ++ (cns h.length k ++ c :: N) := by
      intro c N
      rw [List.set_append_right _ _ (by show 14 ≤ _; omega)]
      show hd h.length (mkF h.length k) ++ (cns h.length k ++ [_]).set (14 + 5 * k - 14) c ++ N = _
      rw [Nat.add_sub_cancel_left, List.set_append_right _ _ (by rw [cns_len]; omega), cns_len, Nat.sub_self, List.append_assoc, List.append_assoc]
      rfl
    rw [hset]
    have hlen5 : ∀ N : PH, (hd h.length (mkF h.length k) ++ (cns h.length k ++ N))[0]? = some (.inr (.inl (6, 10, mkF h.length k))) := fun N => rfl
    have hget : ∀ (c : PE) (N : PH), (hd h.length (mkF h.length k) ++ (cns h.length k ++ c :: N))[14 + 5 * k]? = some c := by
      intro c N
      rw [List.getElem?_append_right (by show 14 ≤ _; omega)]
      show (cns h.length k ++ _)[14 + 5 * k - 14]? = _
      rw [Nat.add_sub_cancel_left, List.getElem?_append_right (by rw [cns_len]; omega), cns_len, Nat.sub_self]
      rfl
    refine zr_aastore hk_4 rw_4_34 ((G_M 0).trans (hlen5 _)) ((G_M (14 + 5 * k)).trans (hget _ _)) (iv_clamp (i := k) rfl (by omega)).1 (by rw [(iv_clamp (e := (k : Int)) (i := k) rfl (by omega)).2]; omega) (by omega) (by omega) (by decide) ?_
    rw [(iv_clamp (e := (k : Int)) (i := k) rfl (by omega)).2, show h.length + (14 + 5 * k) = h.length + 14 + 5 * k by omega, mkF_up, G_setM 0]
    refine zi_inc hk_4 rw_4_35 rfl rfl inc_1 (lv' := [some (.ref v), some (.int (iv ((k : Int) + 1)))]) rfl ?_
    refine zr_goto hk_4 rw_4_36 ?_
    have hfin := ih (k + 1) (by omega)
    rw [cns] at hfin
    rw [show h.length + (14 + 5 * k + 1) = h.length + 14 + 5 * k + 1 by omega]
    exact hfin
set_option maxHeartbeats 1000000 in
theorem fam_init {d : Nat} {h : PH} {v : Nat} {Q : Option Value → PH → Prop} (hv : h[v]? = some (.inr (.inr (3, [.null, .null, .int 0, .int 0, .int 0, .int 0, .null, .null])))) (h2 : 2 ≤ v) (hQ : ZR (d + 4) 4 37 [some (.ref v)] [] (G h v 3 (fmF h.length) (hd h.length (mkF h.length 10) ++ cns h.length 10)) Q) : ZC (d + 4) 4 [.ref v] h Q := by
  refine zc_G hv ?_
  refine ZC.of (lv := [some (.ref v)]) hk_4 (fun i v hv => ?_) ?_
  · match i, hv with
    | 0, hv => cases hv; rfl
    | i + 1, hv => simp at hv
  have hvl := (List.getElem?_eq_some_iff.mp hv).1
  refine zr_aload hk_4 rw_4_0 rfl ?_
  refine zr_oi hk_4 rw_4_1 (by omega) (by decide) ?_
  refine zr_aload hk_4 rw_4_2 rfl ?_
  refine zi_const hk_4 rw_4_3 (c := 10) rfl ?_
  refine g_anew (n := 0) (N := [.inr (.inl (6, 10, fun _ => none))]) hk_4 rw_4_4 10 rfl (by decide) rfl rfl ?_
  refine g_put (fs' := [.ref (h.length + 0), .null, .int 0, .int 0, .int 0, .int 0, .null, .null]) hk_4 rw_4_5 hvl h2 (Nat.le_of_ble_eq_true rfl) rfl rfl (fit_a _ _) rfl ?_
  refine zr_aload hk_4 rw_4_6 rfl ?_
  refine g_new (n := 1) (N := [.inr (.inl (6, 10, fun _ => none)), .inr (.inr (4, [.int 0, .int 0, .int 0, .null, .null]))]) hk_4 rw_4_7 rfl rfl rfl rfl ?_
  refine zr_dup hk_4 rw_4_8 rfl ?_
  refine zr_special (L := 1) (n := 0) (as := []) (r := [.ref (h.length + 1), .ref v]) hk_4 rw_4_9 (by decide) (by decide) ⟨rfl, rfl, rfl⟩ rfl rfl (Nat.le_of_ble_eq_true rfl) (Nat.le_of_ble_eq_true rfl) (lnk_init (d + 1) (G_M 1) (by omega)) ?_
  rintro w ph' ⟨rfl, rfl⟩
  rw [GG 1, G_len]
  refine g_put (M := [.inr (.inl (6, 10, fun _ => none)), .inr (.inr (4, [.int (iv 20), .int (iv 2), .int (iv 5), .ref (h.length + 2), .ref (h.length + 7)])), .inr (.inr (5, [.ref (h.length + 3), .ref (h.length + 4), .ref (h.length + 5), .ref (h.length + 6), .int 0])), A0 60, A0 60, A0 60, A0 60, .inr (.inr (5, [.ref (h.length + 8), .ref (h.length + 9), .ref (h.length + 10), .ref (h.length + 11), .int 0])), A0 240, A0 240, A0 240, A0 240]) (fs' := [.ref (h.length + 0), .ref (h.length + 1), .int 0, .int 0, .int 0, .int 0, .null, .null]) hk_4 rw_4_10 hvl h2 (Nat.le_of_ble_eq_true rfl) rfl rfl (fit_o _ _) rfl ?_
  refine zr_aload hk_4 rw_4_11 rfl ?_
  refine zi_const hk_4 rw_4_12 (c := 40) rfl ?_
  refine g_put (fs' := [.ref (h.length + 0), .ref (h.length + 1), .int (iv 40), .int 0, .int 0, .int 0, .null, .null]) hk_4 rw_4_13 hvl h2 (Nat.le_of_ble_eq_true rfl) rfl rfl (fit_i _) rfl ?_
  refine zr_aload hk_4 rw_4_14 rfl ?_
  refine zi_const hk_4 rw_4_15 (c := 10) rfl ?_
  refine g_newa (n := 12) (N := [.inr (.inl (6, 10, fun _ => none)), .inr (.inr (4, [.int (iv 20), .int (iv 2), .int (iv 5), .ref (h.length + 2), .ref (h.length + 7)])), .inr (.inr (5, [.ref (h.length + 3), .ref (h.length + 4), .ref (h.length + 5), .ref (h.length + 6), .int 0])), A0 60, A0 60, A0 60, A0 60, .inr (.inr (5, [.ref (h.length + 8), .ref (h.length + 9), .ref (h.length + 10), .ref (h.length + 11), .int 0])), A0 240, A0 240, A0 240, A0 240, A0 10]) hk_4 rw_4_16 10 rfl (by decide) rfl rfl ?_
  refine g_put (fs' := [.ref (h.length + 0), .ref (h.length + 1), .int (iv 40), .int 0, .int 0, .int 0, .ref (h.length + 12), .null]) hk_4 rw_4_17 hvl h2 (Nat.le_of_ble_eq_true rfl) rfl rfl (fit_a _ _) rfl ?_
  refine zr_aload hk_4 rw_4_18 rfl ?_
  refine zi_const hk_4 rw_4_19 (c := 10) rfl ?_
  refine g_newa (n := 13) (N := [.inr (.inl (6, 10, fun _ => none)), .inr (.inr (4, [.int (iv 20), .int (iv 2), .int (iv 5), .ref (h.length + 2), .ref (h.length + 7)])), .inr (.inr (5, [.ref (h.length + 3), .ref (h.length + 4), .ref (h.length + 5), .ref (h.length + 6), .int 0])), A0 60, A0 60, A0 60, A0 60, .inr (.inr (5, [.ref (h.length + 8), .ref (h.length + 9), .ref (h.length + 10), .ref (h.length + 11), .int 0])), A0 240, A0 240, A0 240, A0 240, A0 10, A0 10]) hk_4 rw_4_20 10 rfl (by decide) rfl rfl ?_
  refine g_put (fs' := [.ref (h.length + 0), .ref (h.length + 1), .int (iv 40), .int 0, .int 0, .int 0, .ref (h.length + 12), .ref (h.length + 13)]) hk_4 rw_4_21 hvl h2 (Nat.le_of_ble_eq_true rfl) rfl rfl (fit_a _ _) rfl ?_
  refine zi_const hk_4 rw_4_22 (c := 0) rfl ?_
  refine zi_istore hk_4 rw_4_23 rfl (lv' := [some (.ref v), some (.int (iv ((0 : Nat) : Int)))]) rfl ?_
  exact fam_loop hvl h2 hQ 10 0 (by omega)

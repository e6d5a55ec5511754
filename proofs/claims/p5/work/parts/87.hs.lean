/-! ===== by program (wip/gen/gen87.py): states are remembered and restored, trials ===== -/
theorem kc30_eq : codeOf 30 = kc30 := rfl
theorem hk_30 : 30 < 186 := by decide
theorem rw_30_0 : (codeOf 30)[0]? = some (0, .aload 0, 0, 0, 3, 1, []) := by rw [kc30_eq]; rfl
theorem rw_30_1 : (codeOf 30)[1]? = some (1, .getfield 17, 2, 1, 0, 3, []) := by rw [kc30_eq]; rfl
theorem rw_30_2 : (codeOf 30)[2]? = some (4, .iconst 5, 2147483653, 0, 0, 1, []) := by rw [kc30_eq]; rfl
theorem rw_30_3 : (codeOf 30)[3]? = some (5, .if_icmp .lt 7, 12, 6, 0, 3, []) := by rw [kc30_eq]; rfl
theorem rw_30_4 : (codeOf 30)[4]? = some (8, .aload 0, 0, 0, 3, 1, []) := by rw [kc30_eq]; rfl
theorem rw_30_5 : (codeOf 30)[5]? = some (9, .invokevirtual 21, 31, 0, 0, 3, []) := by rw [kc30_eq]; rfl
theorem rw_30_6 : (codeOf 30)[6]? = some (12, .aload 0, 0, 0, 3, 1, []) := by rw [kc30_eq]; rfl
theorem rw_30_7 : (codeOf 30)[7]? = some (13, .getfield 11, 2, 0, 3, 3, []) := by rw [kc30_eq]; rfl
theorem rw_30_8 : (codeOf 30)[8]? = some (16, .aload 0, 0, 0, 3, 1, []) := by rw [kc30_eq]; rfl
theorem rw_30_9 : (codeOf 30)[9]? = some (17, .getfield 17, 2, 1, 0, 3, []) := by rw [kc30_eq]; rfl
theorem rw_30_10 : (codeOf 30)[10]? = some (20, .aaload, 0, 0, 0, 1, []) := by rw [kc30_eq]; rfl
theorem rw_30_11 : (codeOf 30)[11]? = some (21, .ifnonnull 19, 40, 20, 0, 3, []) := by rw [kc30_eq]; rfl
theorem rw_30_12 : (codeOf 30)[12]? = some (24, .aload 0, 0, 0, 3, 1, []) := by rw [kc30_eq]; rfl
theorem rw_30_13 : (codeOf 30)[13]? = some (25, .getfield 11, 2, 0, 3, 3, []) := by rw [kc30_eq]; rfl
theorem rw_30_14 : (codeOf 30)[14]? = some (28, .aload 0, 0, 0, 3, 1, []) := by rw [kc30_eq]; rfl
theorem rw_30_15 : (codeOf 30)[15]? = some (29, .getfield 17, 2, 1, 0, 3, []) := by rw [kc30_eq]; rfl
theorem rw_30_16 : (codeOf 30)[16]? = some (32, .new 9, 3, 0, 0, 3, []) := by rw [kc30_eq]; rfl
theorem rw_30_17 : (codeOf 30)[17]? = some (35, .dup, 0, 0, 0, 1, []) := by rw [kc30_eq]; rfl
theorem rw_30_18 : (codeOf 30)[18]? = some (36, .invokespecial 24, 4, 0, 0, 3, []) := by rw [kc30_eq]; rfl
theorem rw_30_19 : (codeOf 30)[19]? = some (39, .aastore, 0, 0, 0, 1, []) := by rw [kc30_eq]; rfl
theorem rw_30_20 : (codeOf 30)[20]? = some (40, .aload 0, 0, 0, 3, 1, []) := by rw [kc30_eq]; rfl
theorem rw_30_21 : (codeOf 30)[21]? = some (41, .getfield 11, 2, 0, 3, 3, []) := by rw [kc30_eq]; rfl
theorem rw_30_22 : (codeOf 30)[22]? = some (44, .aload 0, 0, 0, 3, 1, []) := by rw [kc30_eq]; rfl
theorem rw_30_23 : (codeOf 30)[23]? = some (45, .getfield 17, 2, 1, 0, 3, []) := by rw [kc30_eq]; rfl
theorem rw_30_24 : (codeOf 30)[24]? = some (48, .aaload, 0, 0, 0, 1, []) := by rw [kc30_eq]; rfl
theorem rw_30_25 : (codeOf 30)[25]? = some (49, .aload 1, 1, 0, 3, 1, []) := by rw [kc30_eq]; rfl
theorem rw_30_26 : (codeOf 30)[26]? = some (50, .invokevirtual 25, 32, 0, 0, 3, []) := by rw [kc30_eq]; rfl
theorem rw_30_27 : (codeOf 30)[27]? = some (53, .aload 0, 0, 0, 3, 1, []) := by rw [kc30_eq]; rfl
theorem rw_30_28 : (codeOf 30)[28]? = some (54, .dup, 0, 0, 0, 1, []) := by rw [kc30_eq]; rfl
theorem rw_30_29 : (codeOf 30)[29]? = some (55, .getfield 17, 2, 1, 0, 3, []) := by rw [kc30_eq]; rfl
theorem rw_30_30 : (codeOf 30)[30]? = some (58, .iconst 1, 2147483649, 0, 0, 1, []) := by rw [kc30_eq]; rfl
theorem rw_30_31 : (codeOf 30)[31]? = some (59, .iadd, 0, 0, 0, 1, []) := by rw [kc30_eq]; rfl
theorem rw_30_32 : (codeOf 30)[32]? = some (60, .putfield 17, 2, 1, 0, 3, []) := by rw [kc30_eq]; rfl
theorem rw_30_33 : (codeOf 30)[33]? = some (63, .return_, 0, 0, 0, 1, []) := by rw [kc30_eq]; rfl
theorem kc31_eq : codeOf 31 = kc31 := rfl
theorem hk_31 : 31 < 186 := by decide
theorem rw_31_0 : (codeOf 31)[0]? = some (0, .aload 0, 0, 0, 3, 1, []) := by rw [kc31_eq]; rfl
theorem rw_31_1 : (codeOf 31)[1]? = some (1, .getfield 11, 2, 0, 3, 3, []) := by rw [kc31_eq]; rfl
theorem rw_31_2 : (codeOf 31)[2]? = some (4, .iconst 0, 2147483648, 0, 0, 1, []) := by rw [kc31_eq]; rfl
theorem rw_31_3 : (codeOf 31)[3]? = some (5, .aaload, 0, 0, 0, 1, []) := by rw [kc31_eq]; rfl
theorem rw_31_4 : (codeOf 31)[4]? = some (6, .astore 1, 1, 0, 3, 1, []) := by rw [kc31_eq]; rfl
theorem rw_31_5 : (codeOf 31)[5]? = some (7, .iconst 1, 2147483649, 0, 0, 1, []) := by rw [kc31_eq]; rfl
theorem rw_31_6 : (codeOf 31)[6]? = some (8, .istore 2, 2, 0, 0, 1, []) := by rw [kc31_eq]; rfl
theorem rw_31_7 : (codeOf 31)[7]? = some (9, .monitorexit, 248, 0, 0, 0, []) := by rw [kc31_eq]; rfl
theorem rw_31_8 : (codeOf 31)[8]? = some (9, .iload 2, 2, 0, 0, 1, []) := by rw [kc31_eq]; rfl
theorem rw_31_9 : (codeOf 31)[9]? = some (10, .iconst 5, 2147483653, 0, 0, 1, []) := by rw [kc31_eq]; rfl
theorem rw_31_10 : (codeOf 31)[10]? = some (11, .if_icmp .ge 23, 34, 23, 0, 3, []) := by rw [kc31_eq]; rfl
theorem rw_31_11 : (codeOf 31)[11]? = some (14, .aload 0, 0, 0, 3, 1, []) := by rw [kc31_eq]; rfl
theorem rw_31_12 : (codeOf 31)[12]? = some (15, .getfield 11, 2, 0, 3, 3, []) := by rw [kc31_eq]; rfl
theorem rw_31_13 : (codeOf 31)[13]? = some (18, .iload 2, 2, 0, 0, 1, []) := by rw [kc31_eq]; rfl
theorem rw_31_14 : (codeOf 31)[14]? = some (19, .iconst 1, 2147483649, 0, 0, 1, []) := by rw [kc31_eq]; rfl
theorem rw_31_15 : (codeOf 31)[15]? = some (20, .isub, 0, 0, 0, 1, []) := by rw [kc31_eq]; rfl
theorem rw_31_16 : (codeOf 31)[16]? = some (21, .aload 0, 0, 0, 3, 1, []) := by rw [kc31_eq]; rfl
theorem rw_31_17 : (codeOf 31)[17]? = some (22, .getfield 11, 2, 0, 3, 3, []) := by rw [kc31_eq]; rfl
theorem rw_31_18 : (codeOf 31)[18]? = some (25, .iload 2, 2, 0, 0, 1, []) := by rw [kc31_eq]; rfl
theorem rw_31_19 : (codeOf 31)[19]? = some (26, .aaload, 0, 0, 0, 1, []) := by rw [kc31_eq]; rfl
theorem rw_31_20 : (codeOf 31)[20]? = some (27, .aastore, 0, 0, 0, 1, []) := by rw [kc31_eq]; rfl
theorem rw_31_21 : (codeOf 31)[21]? = some (28, .iinc 2 1, 2, 1, 0, 3, []) := by rw [kc31_eq]; rfl
theorem rw_31_22 : (codeOf 31)[22]? = some (31, .goto (-22), 9, 7, 0, 3, []) := by rw [kc31_eq]; rfl
theorem rw_31_23 : (codeOf 31)[23]? = some (34, .aload 0, 0, 0, 3, 1, []) := by rw [kc31_eq]; rfl
theorem rw_31_24 : (codeOf 31)[24]? = some (35, .getfield 11, 2, 0, 3, 3, []) := by rw [kc31_eq]; rfl
theorem rw_31_25 : (codeOf 31)[25]? = some (38, .iconst 4, 2147483652, 0, 0, 1, []) := by rw [kc31_eq]; rfl
theorem rw_31_26 : (codeOf 31)[26]? = some (39, .aload 1, 1, 0, 3, 1, []) := by rw [kc31_eq]; rfl
theorem rw_31_27 : (codeOf 31)[27]? = some (40, .aastore, 0, 0, 0, 1, []) := by rw [kc31_eq]; rfl
theorem rw_31_28 : (codeOf 31)[28]? = some (41, .aload 0, 0, 0, 3, 1, []) := by rw [kc31_eq]; rfl
theorem rw_31_29 : (codeOf 31)[29]? = some (42, .iconst 4, 2147483652, 0, 0, 1, []) := by rw [kc31_eq]; rfl
theorem rw_31_30 : (codeOf 31)[30]? = some (43, .putfield 17, 2, 1, 0, 3, []) := by rw [kc31_eq]; rfl
theorem rw_31_31 : (codeOf 31)[31]? = some (46, .return_, 0, 0, 0, 1, []) := by rw [kc31_eq]; rfl
theorem kc110_eq : codeOf 110 = kc110 := rfl
theorem hk_110 : 110 < 186 := by decide
theorem rw_110_0 : (codeOf 110)[0]? = some (0, .aload 0, 0, 0, 3, 1, []) := by rw [kc110_eq]; rfl
theorem rw_110_1 : (codeOf 110)[1]? = some (1, .getfield 257, 0, 3, 3, 3, []) := by rw [kc110_eq]; rfl
theorem rw_110_2 : (codeOf 110)[2]? = some (4, .ifnonnull 14, 18, 8, 0, 3, []) := by rw [kc110_eq]; rfl
theorem rw_110_3 : (codeOf 110)[3]? = some (7, .aload 0, 0, 0, 3, 1, []) := by rw [kc110_eq]; rfl
theorem rw_110_4 : (codeOf 110)[4]? = some (8, .new 23, 3, 0, 0, 3, []) := by rw [kc110_eq]; rfl
theorem rw_110_5 : (codeOf 110)[5]? = some (11, .dup, 0, 0, 0, 1, []) := by rw [kc110_eq]; rfl
theorem rw_110_6 : (codeOf 110)[6]? = some (12, .invokespecial 25, 4, 0, 0, 3, []) := by rw [kc110_eq]; rfl
theorem rw_110_7 : (codeOf 110)[7]? = some (15, .putfield 257, 0, 3, 3, 3, []) := by rw [kc110_eq]; rfl
theorem rw_110_8 : (codeOf 110)[8]? = some (18, .aload 0, 0, 0, 3, 1, []) := by rw [kc110_eq]; rfl
theorem rw_110_9 : (codeOf 110)[9]? = some (19, .getfield 257, 0, 3, 3, 3, []) := by rw [kc110_eq]; rfl
theorem rw_110_10 : (codeOf 110)[10]? = some (22, .aload 0, 0, 0, 3, 1, []) := by rw [kc110_eq]; rfl
theorem rw_110_11 : (codeOf 110)[11]? = some (23, .getfield 26, 0, 2, 3, 3, []) := by rw [kc110_eq]; rfl
theorem rw_110_12 : (codeOf 110)[12]? = some (26, .invokevirtual 260, 32, 0, 0, 3, []) := by rw [kc110_eq]; rfl
theorem rw_110_13 : (codeOf 110)[13]? = some (29, .aload 0, 0, 0, 3, 1, []) := by rw [kc110_eq]; rfl
theorem rw_110_14 : (codeOf 110)[14]? = some (30, .getfield 257, 0, 3, 3, 3, []) := by rw [kc110_eq]; rfl
theorem rw_110_15 : (codeOf 110)[15]? = some (33, .areturn, 4, 0, 0, 1, []) := by rw [kc110_eq]; rfl
theorem kc114_eq : codeOf 114 = kc114 := rfl
theorem hk_114 : 114 < 186 := by decide
theorem rw_114_0 : (codeOf 114)[0]? = some (0, .aload 0, 0, 0, 3, 1, []) := by rw [kc114_eq]; rfl
theorem rw_114_1 : (codeOf 114)[1]? = some (1, .getfield 17, 2, 1, 0, 3, []) := by rw [kc114_eq]; rfl
theorem rw_114_2 : (codeOf 114)[2]? = some (4, .iconst 1, 2147483649, 0, 0, 1, []) := by rw [kc114_eq]; rfl
theorem rw_114_3 : (codeOf 114)[3]? = some (5, .if_icmp .lt 17, 22, 12, 0, 3, []) := by rw [kc114_eq]; rfl
theorem rw_114_4 : (codeOf 114)[4]? = some (8, .aload 0, 0, 0, 3, 1, []) := by rw [kc114_eq]; rfl
theorem rw_114_5 : (codeOf 114)[5]? = some (9, .getfield 11, 2, 0, 3, 3, []) := by rw [kc114_eq]; rfl
theorem rw_114_6 : (codeOf 114)[6]? = some (12, .aload 0, 0, 0, 3, 1, []) := by rw [kc114_eq]; rfl
theorem rw_114_7 : (codeOf 114)[7]? = some (13, .getfield 17, 2, 1, 0, 3, []) := by rw [kc114_eq]; rfl
theorem rw_114_8 : (codeOf 114)[8]? = some (16, .iconst 1, 2147483649, 0, 0, 1, []) := by rw [kc114_eq]; rfl
theorem rw_114_9 : (codeOf 114)[9]? = some (17, .isub, 0, 0, 0, 1, []) := by rw [kc114_eq]; rfl
theorem rw_114_10 : (codeOf 114)[10]? = some (18, .aaload, 0, 0, 0, 1, []) := by rw [kc114_eq]; rfl
theorem rw_114_11 : (codeOf 114)[11]? = some (19, .ifnonnull 5, 24, 14, 0, 3, []) := by rw [kc114_eq]; rfl
theorem rw_114_12 : (codeOf 114)[12]? = some (22, .iconst 0, 2147483648, 0, 0, 1, []) := by rw [kc114_eq]; rfl
theorem rw_114_13 : (codeOf 114)[13]? = some (23, .ireturn, 2, 0, 0, 1, []) := by rw [kc114_eq]; rfl
theorem rw_114_14 : (codeOf 114)[14]? = some (24, .aload 0, 0, 0, 3, 1, []) := by rw [kc114_eq]; rfl
theorem rw_114_15 : (codeOf 114)[15]? = some (25, .dup, 0, 0, 0, 1, []) := by rw [kc114_eq]; rfl
theorem rw_114_16 : (codeOf 114)[16]? = some (26, .getfield 17, 2, 1, 0, 3, []) := by rw [kc114_eq]; rfl
theorem rw_114_17 : (codeOf 114)[17]? = some (29, .iconst 1, 2147483649, 0, 0, 1, []) := by rw [kc114_eq]; rfl
theorem rw_114_18 : (codeOf 114)[18]? = some (30, .isub, 0, 0, 0, 1, []) := by rw [kc114_eq]; rfl
theorem rw_114_19 : (codeOf 114)[19]? = some (31, .putfield 17, 2, 1, 0, 3, []) := by rw [kc114_eq]; rfl
theorem rw_114_20 : (codeOf 114)[20]? = some (34, .aload 1, 1, 0, 3, 1, []) := by rw [kc114_eq]; rfl
theorem rw_114_21 : (codeOf 114)[21]? = some (35, .aload 0, 0, 0, 3, 1, []) := by rw [kc114_eq]; rfl
theorem rw_114_22 : (codeOf 114)[22]? = some (36, .getfield 11, 2, 0, 3, 3, []) := by rw [kc114_eq]; rfl
theorem rw_114_23 : (codeOf 114)[23]? = some (39, .aload 0, 0, 0, 3, 1, []) := by rw [kc114_eq]; rfl
theorem rw_114_24 : (codeOf 114)[24]? = some (40, .getfield 17, 2, 1, 0, 3, []) := by rw [kc114_eq]; rfl
theorem rw_114_25 : (codeOf 114)[25]? = some (43, .aaload, 0, 0, 0, 1, []) := by rw [kc114_eq]; rfl
theorem rw_114_26 : (codeOf 114)[26]? = some (44, .invokevirtual 25, 32, 0, 0, 3, []) := by rw [kc114_eq]; rfl
theorem rw_114_27 : (codeOf 114)[27]? = some (47, .iconst 1, 2147483649, 0, 0, 1, []) := by rw [kc114_eq]; rfl
theorem rw_114_28 : (codeOf 114)[28]? = some (48, .ireturn, 2, 0, 0, 1, []) := by rw [kc114_eq]; rfl
theorem lo_id : ∀ r, r < 10 → loT.getD r 0 = r := by decide
theorem fa_ge : ∀ i, i < 65 → 10 ≤ faT.getD i 0 := by decide
theorem psi_id {r t : Nat} (h : psi r = t) (ht : t < 10) : r = t := by
  by_cases h2 : 75 ≤ r ∧ r < 87
  · obtain ⟨i, rfl⟩ : ∃ i, r = 75 + i := ⟨r - 75, by omega⟩
    have := psi_mo i (by omega)
    omega
  · unfold psi at h
    by_cases h1 : r < 10
    · rw [if_pos h1, lo_id r h1] at h
      exact h
    · rw [if_neg h1] at h
      by_cases h3 : r < 75
      · rw [if_pos h3] at h
        have := fa_ge (r - 10) (by omega)
        omega
      · rw [if_neg h3, if_neg (by omega)] at h
        have := fa_ge ((r - 87) % 65) (by omega)
        omega
theorem WT_set9 {ph : PH} {c : PE} (hW : WT ph) (h9 : 9 < ph.length) : WT (ph.set 9 c) := hW.set h9 (fun T hT => by
  rw [show psi 9 = 9 from rfl, ty_9] at hT
  cases hT
  exact Or.inl rfl)
theorem WT_set8 {ph : PH} {s : Nat} (hW : WT ph) (h8 : 8 < ph.length) (hs : s ≤ 5) : WT (ph.set 8 (.inr (.inr (2, [.ref 9, .int (iv (s : Int))])))) := hW.set h8 (fun T hT => by
  rw [show psi 8 = 8 from rfl, ty_8] at hT
  cases hT
  refine ⟨_, rfl, rfl, fun j q hq => ?_⟩
  match j, hq with
  | 0, hq => cases hq; exact ⟨_, rfl, trivial⟩
  | 1, hq => cases hq; exact ⟨_, rfl, nat_fit (by omega) (by omega) (by omega)⟩
  | j + 2, hq => simp at hq)
theorem WT_set2 {ph : PH} {x : Value} (hW : WT ph) (h2 : 87 ≤ ph.length) : WT (ph.set 2 (.inr (.inr (0, [.ref 3, .ref 8, .ref 10, x])))) := hW.set (by omega) (fun T hT => by
  rw [show psi 2 = 2 from rfl, ty_2] at hT
  cases hT
  refine ⟨_, rfl, rfl, fun j q hq => ?_⟩
  match j, hq with
  | 0, hq => cases hq; exact ⟨_, rfl, fit_ref (by decide) (by omega) (by decide)⟩
  | 1, hq => cases hq; exact ⟨_, rfl, fit_ref (by decide) (by omega) (by decide)⟩
  | 2, hq => cases hq; exact ⟨_, rfl, fit_ref (by decide) (by omega) (by decide)⟩
  | 3, hq => cases hq; exact ⟨_, rfl, trivial⟩
  | j + 4, hq => simp at hq)
theorem MH.set {ph : PH} {p : Nat → Int32} {a : Nat → Nat → Int32} {z : Nat → Int32} {x : Nat} {c : PE} (h : MH ph p a z) (hx : x < 75) : MH (ph.set x c) p a z := fun i hi => by
  rw [List.getElem?_set_ne (by omega)]
  exact h i hi
theorem GC.ge {S0 e : Nat} {ph : PH} {tr : Option Nat} {f : Nat → Option Nat} {s : Nat} (h : GC S0 e ph tr f s) : 87 ≤ ph.length := by
  have := h.2.2.2.2.2.2.2.1
  omega
theorem GC.set8 {S0 e : Nat} {ph : PH} {tr : Option Nat} {f : Nat → Option Nat} {s s' : Nat} (h : GC S0 e ph tr f s) (hs : s' ≤ 5) (hn : ∀ j, j < s' → ∃ r, f j = some r) : GC S0 e (ph.set 8 (.inr (.inr (2, [.ref 9, .int (iv (s' : Int))])))) tr f s' := by
  have hg := h.ge
  obtain ⟨a2, a8, a9, as, an, at', af, al, az⟩ := h
  refine ⟨?_, ?_, ?_, hs, hn, ?_, ?_, ?_, ?_⟩
  · rw [List.getElem?_set_ne (by decide)]; exact a2
  · exact List.getElem?_set_self (by omega)
  · rw [List.getElem?_set_ne (by decide)]; exact a9
  · rw [List.length_set]; exact at'
  · rw [List.length_set]; exact af
  · rw [List.length_set]; exact al
  · rw [← az]; exact szH_set a8 rfl
theorem GC.set9 {S0 e e' : Nat} {ph : PH} {tr : Option Nat} {f f' : Nat → Option Nat} {s : Nat} (h : GC S0 e ph tr f s) (hb : blk tr f' + e' = blk tr f + e) (hn : ∀ j, j < s → ∃ r, f' j = some r) (hf : ∀ j, j < 5 → ∀ r, f' j = some r → isF ph.length r) : GC S0 e' (ph.set 9 (.inr (.inl (3, 5, f')))) tr f' s := by
  have hg := h.ge
  obtain ⟨a2, a8, a9, as, an, at', af, al, az⟩ := h
  refine ⟨?_, ?_, ?_, as, hn, ?_, ?_, ?_, ?_⟩
  · rw [List.getElem?_set_ne (by decide)]; exact a2
  · rw [List.getElem?_set_ne (by decide)]; exact a8
  · exact List.getElem?_set_self (by omega)
  · rw [List.length_set]; exact at'
  · rw [List.length_set]; exact hf
  · rw [List.length_set, hb]; exact al
  · rw [hb, ← az]; exact szH_set a9 rfl
theorem GC.set2 {S0 r : Nat} {ph : PH} {f : Nat → Option Nat} {s : Nat} (h : GC S0 1 ph none f s) (hr : isF ph.length r) : GC S0 0 (ph.set 2 (.inr (.inr (0, [.ref 3, .ref 8, .ref 10, .ref r])))) (some r) f s := by
  have hg := h.ge
  obtain ⟨a2, a8, a9, as, an, at', af, al, az⟩ := h
  have hb : blk (some r) f + 0 = blk none f + 1 := by
    unfold blk
    show 1 + _ + 0 = 0 + _ + 1
    omega
  refine ⟨?_, ?_, ?_, as, an, ?_, ?_, ?_, ?_⟩
  · exact List.getElem?_set_self (by omega)
  · rw [List.getElem?_set_ne (by decide)]; exact a8
  · rw [List.getElem?_set_ne (by decide)]; exact a9
  · rw [List.length_set]; intro r' e; cases e; exact hr
  · rw [List.length_set]; exact af
  · rw [List.length_set, hb]; exact al
  · rw [hb, ← az]; exact szH_set a2 rfl
theorem blk_up {tr : Option Nat} {f : Nat → Option Nat} {s n : Nat} (hs : s ≤ 4) (hf : f s = none) : blk tr (va_up f s (some n)) + 0 = blk tr f + 1 := by
  have hu : ∀ j, nn (va_up f s (some n) j) = if j = s then 1 else nn (f j) := by
    intro j
    unfold va_up
    by_cases e : j = s
    · rw [if_pos e, if_pos e]; rfl
    · rw [if_neg e, if_neg e]
  have h0 : nn (f s) = 0 := by rw [hf]; rfl
  unfold blk
  rw [hu, hu, hu, hu, hu]
  have : s = 0 ∨ s = 1 ∨ s = 2 ∨ s = 3 ∨ s = 4 := by omega
  rcases this with rfl | rfl | rfl | rfl | rfl <;> (repeat (first | rw [if_pos rfl] | rw [if_neg (by decide)])) <;> omega
theorem rec_tl {S0 d : Nat} {p z : Nat → Int32} (hK : CtAll (GI S0 0 p z) 4) {ph0 ph : PH} {q r : Nat} {tr : Option Nat} {f : Nat → Option Nat} {s : Nat} {a : Nat → Nat → Int32} (hW : WT ph) (hC : GC S0 0 ph tr f s) (hM : MH ph p a z) (hs : s ≤ 4) (hr : f s = some r) (q1 : 1 ≤ q) (q2 : q < ph.length) (q3 : psi q = 10) (hF : Fr 4722366482869649407744 ph0 ph) : ZR (d + 5) 30 20 [some (.ref 8), some (.ref q)] [] ph (fun w ph' => w = none ∧ WT ph' ∧ GI S0 0 p z ph' ∧ Fr 4722366482869649407744 ph0 ph') := by
  have hg := hC.ge
  obtain ⟨h9a, h9b⟩ := iv_clamp (e := (s : Int)) (i := s) rfl (by omega)
  have hrF := hC.2.2.2.2.2.2.1 s (by omega) r hr
  have hr1 : 1 ≤ r := by have := hrF.1; omega
  obtain ⟨fs, hfs⟩ := fam_cell hW hr1 hrF.2.1 hrF.psi
  refine zr_aload hk_30 rw_30_20 rfl ?_
  refine zr_getfield hk_30 rw_30_21 hC.2.1 (by decide) rfl ?_
  refine zr_aload hk_30 rw_30_22 rfl ?_
  refine zr_getfield hk_30 rw_30_23 hC.2.1 (by decide) rfl ?_
  refine zr_aaload hk_30 rw_30_24 hC.2.2.1 h9a (by rw [h9b]; omega) (by decide) (by decide) ?_
  rw [h9b, hr]
  refine zr_aload hk_30 rw_30_25 rfl ?_
  refine zr_virtual (L := 3) (n := 1) (as := [.ref q]) (r := []) hk_30 rw_30_26 (by decide) (by decide) ⟨rfl, rfl, rfl, rfl⟩ hfs (by have := hrF.1; omega) rfl rfl (by decide) (Nat.le_of_ble_eq_true rfl) (zc_ct hK ct_32 (by show 3 < 4; omega) (by show 3 ≤ d + 4; omega) hW ⟨⟨tr, f, s, hC⟩, a, hM⟩ ⟨fit_ref hr1 hrF.2.1 hrF.psi, fit_ref q1 q2 q3, trivial⟩) ?_
  rintro w1 ph1 ⟨W1, I1, F1, v1⟩
  cases none_of v1
  obtain ⟨⟨tr', f', s', hC1⟩, a', hM1⟩ := I1
  obtain ⟨rfl, rfl, rfl⟩ := hC.det hC1 ((F1.at hC.1 (by decide)).trans hC.1.symm) ((F1.at hC.2.1 (by decide)).trans hC.2.1.symm) ((F1.at hC.2.2.1 (by decide)).trans hC.2.2.1.symm)
  have hg1 := hC1.ge
  refine zr_aload hk_30 rw_30_27 rfl ?_
  refine zr_dup hk_30 rw_30_28 rfl ?_
  refine zr_getfield hk_30 rw_30_29 hC1.2.1 (by decide) rfl ?_
  refine zi_const hk_30 rw_30_30 (c := 1) rfl ?_
  refine zi_add hk_30 rw_30_31 ?_
  refine zr_putI hk_30 rw_30_32 hC1.2.1 (by decide) (Nat.le_of_ble_eq_true rfl) ?_
  have hC2 := hC1.set8 (s' := s' + 1) (by omega) (fun j hj => by
    by_cases ej : j = s'
    · exact ⟨r, by rw [ej]; exact hr⟩
    · exact hC1.2.2.2.2.1 j (by omega))
  exact zr_return (a := 0) hk_30 rw_30_33 ⟨rfl, WT_set8 (s := s' + 1) W1 (by omega) (by omega), ⟨⟨tr', f', s' + 1, hC2⟩, a', hM1.set (by decide)⟩, (hF.trans (F1.widen (by decide))).trans (Fr_setX hC1.2.1 (by decide) (Or.inl (by decide)))⟩
theorem rec_md {S0 d : Nat} {p z : Nat → Int32} (hK : CtAll (GI S0 0 p z) 4) (hK1 : CtAll (GI S0 1 p z) 4) {ph0 ph : PH} {q : Nat} {tr : Option Nat} {f : Nat → Option Nat} {s : Nat} {a : Nat → Nat → Int32} (hW : WT ph) (hC : GC S0 0 ph tr f s) (hM : MH ph p a z) (hs : s ≤ 4) (q1 : 1 ≤ q) (q2 : q < ph.length) (q3 : psi q = 10) (hF : Fr 4722366482869649407744 ph0 ph) : ZR (d + 5) 30 6 [some (.ref 8), some (.ref q)] [] ph (fun w ph' => w = none ∧ WT ph' ∧ GI S0 0 p z ph' ∧ Fr 4722366482869649407744 ph0 ph') := by
  have hg := hC.ge
  obtain ⟨h9a, h9b⟩ := iv_clamp (e := (s : Int)) (i := s) rfl (by omega)
  refine zr_aload hk_30 rw_30_6 rfl ?_
  refine zr_getfield hk_30 rw_30_7 hC.2.1 (by decide) rfl ?_
  refine zr_aload hk_30 rw_30_8 rfl ?_
  refine zr_getfield hk_30 rw_30_9 hC.2.1 (by decide) rfl ?_
  refine zr_aaload hk_30 rw_30_10 hC.2.2.1 h9a (by rw [h9b]; omega) (by decide) (by decide) ?_
  rw [h9b]
  cases hr : f s with
  | some r =>
    refine zr_ifnn_ref hk_30 rw_30_11 ?_
    exact rec_tl hK hW hC hM hs hr q1 q2 q3 hF
  | none =>
    refine zr_ifnn_null hk_30 rw_30_11 ?_
    refine zr_aload hk_30 rw_30_12 rfl ?_
    refine zr_getfield hk_30 rw_30_13 hC.2.1 (by decide) rfl ?_
    refine zr_aload hk_30 rw_30_14 rfl ?_
    refine zr_getfield hk_30 rw_30_15 hC.2.1 (by decide) rfl ?_
    refine zr_new hk_30 rw_30_16 rfl rfl ?_
    refine zr_dup hk_30 rw_30_17 rfl ?_
    refine zr_special (L := 2) (n := 0) (as := []) (r := [.ref ph.length, .int (iv (s : Int)), .ref 9]) hk_30 rw_30_18 (by decide) (by decide) ⟨rfl, rfl, rfl⟩ rfl rfl (Nat.le_of_ble_eq_true rfl) (Nat.le_of_ble_eq_true rfl) (fam_new (d := d) hK1 hW hC hM) ?_
    rintro w1 ph1 ⟨rfl, W1, ⟨hC1, a1, hM1⟩, F1⟩
    have hl1 : ph1.length = ph.length + 65 := by have h1 := hC.2.2.2.2.2.2.2.1; have h2 := hC1.2.2.2.2.2.2.2.1; omega
    have hnF : isF ph1.length ph.length := ⟨hg, by omega, by have h1 := hC.2.2.2.2.2.2.2.1; omega⟩
    obtain ⟨fs, hfs⟩ := fam_cell W1 (by omega) hnF.2.1 hnF.psi
    refine zr_aastore hk_30 rw_30_19 hC1.2.2.1 hfs h9a (by rw [h9b]; omega) (by decide) (by omega) (by decide) ?_
    rw [h9b]
    have hC2 : GC S0 0 (ph1.set 9 (.inr (.inl (3, 5, va_up f s (some ph.length))))) tr (va_up f s (some ph.length)) s := by
      refine hC1.set9 (blk_up hs hr) (fun j hj => ?_) (fun j hj r hjr => ?_)
      · rw [show va_up f s (some ph.length) j = f j from if_neg (by omega)]
        exact hC1.2.2.2.2.1 j hj
      · by_cases ej : j = s
        · rw [show va_up f s (some ph.length) j = some ph.length from if_pos ej] at hjr
          cases hjr
          exact hnF
        · rw [show va_up f s (some ph.length) j = f j from if_neg ej] at hjr
          exact hC1.2.2.2.2.2.2.1 j hj r hjr
    exact rec_tl hK (WT_set9 W1 (by omega)) hC2 (hM1.set (by decide)) hs (if_pos rfl) q1 (by rw [List.length_set]; omega) q3 ((hF.trans (F1.widen (by decide))).trans (Fr_setX hC1.2.2.1 (by decide) (Or.inr trivial)))
theorem zr_astoreE {d k j : Nat} {lv : List (Option Value)} {st : List Value} {ph : PH} {Q : Option Value → PH → Prop} (hk : k < 186) {pc a b len n : Nat} {z : Nat} {lv' : List (Option Value)} {ts : List Nat} (hrow : (codeOf k)[j]? = some (pc, .astore n, a, b, 3, len, ts)) (hp : preZ lv a = true) (hl : lzS lv a (.ref z) = lv') (h : ZR d k (j + 1) lv' st ph Q) : ZR d k j lv (.ref z :: st) ph Q := by
  subst hl
  exact zr_astore hk hrow hp h
set_option maxHeartbeats 1000000 in
theorem drop_ok {S0 d : Nat} {p z : Nat → Int32} {ph : PH} {tr : Option Nat} {f : Nat → Option Nat} {a : Nat → Nat → Int32} (hW : WT ph) (hC : GC S0 0 ph tr f 5) (hM : MH ph p a z) : ZC d 31 [.ref 8] ph (fun w ph' => w = none ∧ WT ph' ∧ (∃ f', GC S0 0 ph' tr f' 4 ∧ MH ph' p a z) ∧ Fr 4722366482869649407744 ph ph') := by
  have hg := hC.ge
  obtain ⟨r0, h0⟩ := hC.2.2.2.2.1 0 (by omega)
  have k0 := hC.2.2.2.2.2.2.1 0 (by omega) r0 h0
  obtain ⟨g0, c0⟩ := fam_cell hW (by have := k0.1; omega) k0.2.1 k0.psi
  have l0 := k0.1
  obtain ⟨r1, h1⟩ := hC.2.2.2.2.1 1 (by omega)
  have k1 := hC.2.2.2.2.2.2.1 1 (by omega) r1 h1
  obtain ⟨g1, c1⟩ := fam_cell hW (by have := k1.1; omega) k1.2.1 k1.psi
  have l1 := k1.1
  obtain ⟨r2, h2⟩ := hC.2.2.2.2.1 2 (by omega)
  have k2 := hC.2.2.2.2.2.2.1 2 (by omega) r2 h2
  obtain ⟨g2, c2⟩ := fam_cell hW (by have := k2.1; omega) k2.2.1 k2.psi
  have l2 := k2.1
  obtain ⟨r3, h3⟩ := hC.2.2.2.2.1 3 (by omega)
  have k3 := hC.2.2.2.2.2.2.1 3 (by omega) r3 h3
  obtain ⟨g3, c3⟩ := fam_cell hW (by have := k3.1; omega) k3.2.1 k3.psi
  have l3 := k3.1
  obtain ⟨r4, h4⟩ := hC.2.2.2.2.1 4 (by omega)
  have k4 := hC.2.2.2.2.2.2.1 4 (by omega) r4 h4
  obtain ⟨g4, c4⟩ := fam_cell hW (by have := k4.1; omega) k4.2.1 k4.psi
  have l4 := k4.1
  refine ZC.of (lv := [some (.ref 8)]) hk_31 (fun i v hv => ?_) ?_
  · match i, hv with
    | 0, hv => cases hv; rfl
    | i + 1, hv => simp at hv
  refine zr_aload hk_31 rw_31_0 rfl ?_
  refine zr_getfield hk_31 rw_31_1 hC.2.1 (by decide) rfl ?_
  refine zi_const hk_31 rw_31_2 (c := 0) rfl ?_
  refine zr_aaload hk_31 rw_31_3 hC.2.2.1 (iv_clamp (e := 0) (i := 0) rfl (by omega)).1 (by rw [(iv_clamp (e := 0) (i := 0) rfl (by omega)).2]; omega) (by decide) (by decide) ?_
  rw [(iv_clamp (e := 0) (i := 0) rfl (by omega)).2, h0]
  refine zr_astoreE hk_31 rw_31_4 rfl (lv' := [some (.ref 8), some (.ref r0)]) rfl ?_
  refine zi_const hk_31 rw_31_5 (c := 1) rfl ?_
  refine zi_istore hk_31 rw_31_6 rfl (lv' := [some (.ref 8), some (.ref r0), some (.int (iv 1))]) rfl ?_
  refine zr_cut hk_31 rw_31_7 ?_
  refine zr_iload hk_31 rw_31_8 rfl ?_
  refine zi_const hk_31 rw_31_9 (c := 5) rfl ?_
  refine zi_icmp_ge hk_31 rw_31_10 (by unfold inR; omega) (by unfold inR; omega) (fun h => by omega) (fun h => ?_)
  refine zr_aload hk_31 rw_31_11 rfl ?_
  refine zr_getfield hk_31 rw_31_12 hC.2.1 (by decide) rfl ?_
  refine zr_iload hk_31 rw_31_13 rfl ?_
  refine zi_const hk_31 rw_31_14 (c := 1) rfl ?_
  refine zi_sub hk_31 rw_31_15 ?_
  refine zr_aload hk_31 rw_31_16 rfl ?_
  refine zr_getfield hk_31 rw_31_17 hC.2.1 (by decide) rfl ?_
  refine zr_iload hk_31 rw_31_18 rfl ?_
  refine zr_aaload hk_31 rw_31_19 hC.2.2.1 (iv_clamp (e := 1) (i := 1) (by omega) (by omega)).1 (by rw [(iv_clamp (e := 1) (i := 1) (by omega) (by omega)).2]; omega) (by decide) (by decide) ?_
  rw [(iv_clamp (e := 1) (i := 1) (by omega) (by omega)).2, show f 1 = some r1 from h1]
  refine zr_aastore hk_31 rw_31_20 hC.2.2.1 c1 (iv_clamp (e := 1 - 1) (i := 0) (by omega) (by omega)).1 (by rw [(iv_clamp (e := 1 - 1) (i := 0) (by omega) (by omega)).2]; omega) (by decide) (by omega) (by decide) ?_
  rw [(iv_clamp (e := 1 - 1) (i := 0) (by omega) (by omega)).2]
  refine zi_inc hk_31 rw_31_21 rfl rfl inc_1 (lv' := [some (.ref 8), some (.ref r0), some (.int (iv (1 + 1)))]) rfl ?_
  refine zr_goto hk_31 rw_31_22 ?_
  refine zr_cut hk_31 rw_31_7 ?_
  refine zr_iload hk_31 rw_31_8 rfl ?_
  refine zi_const hk_31 rw_31_9 (c := 5) rfl ?_
  refine zi_icmp_ge hk_31 rw_31_10 (by unfold inR; omega) (by unfold inR; omega) (fun h => by omega) (fun h => ?_)
  refine zr_aload hk_31 rw_31_11 rfl ?_
  refine zr_getfield hk_31 rw_31_12 ((List.getElem?_set_ne (by decide)).trans hC.2.1) (by decide) rfl ?_
  refine zr_iload hk_31 rw_31_13 rfl ?_
  refine zi_const hk_31 rw_31_14 (c := 1) rfl ?_
  refine zi_sub hk_31 rw_31_15 ?_
  refine zr_aload hk_31 rw_31_16 rfl ?_
  refine zr_getfield hk_31 rw_31_17 ((List.getElem?_set_ne (by decide)).trans hC.2.1) (by decide) rfl ?_
  refine zr_iload hk_31 rw_31_18 rfl ?_
  refine zr_aaload hk_31 rw_31_19 (List.getElem?_set_self (by omega)) (iv_clamp (e := (1 + 1)) (i := 2) (by omega) (by omega)).1 (by rw [(iv_clamp (e := (1 + 1)) (i := 2) (by omega) (by omega)).2]; omega) (by decide) (by decide) ?_
  rw [(iv_clamp (e := (1 + 1)) (i := 2) (by omega) (by omega)).2, show (va_up f 0 (some r1)) 2 = some r2 from h2]
  refine zr_aastore hk_31 rw_31_20 (List.getElem?_set_self (by omega)) ((List.getElem?_set_ne (by omega)).trans c2) (iv_clamp (e := (1 + 1) - 1) (i := 1) (by omega) (by omega)).1 (by rw [(iv_clamp (e := (1 + 1) - 1) (i := 1) (by omega) (by omega)).2]; omega) (by decide) (by omega) (by decide) ?_
  rw [(iv_clamp (e := (1 + 1) - 1) (i := 1) (by omega) (by omega)).2, List.set_set]
  refine zi_inc hk_31 rw_31_21 rfl rfl inc_1 (lv' := [some (.ref 8), some (.ref r0), some (.int (iv ((1 + 1) + 1)))]) rfl ?_
  refine zr_goto hk_31 rw_31_22 ?_
  refine zr_cut hk_31 rw_31_7 ?_
  refine zr_iload hk_31 rw_31_8 rfl ?_
  refine zi_const hk_31 rw_31_9 (c := 5) rfl ?_
  refine zi_icmp_ge hk_31 rw_31_10 (by unfold inR; omega) (by unfold inR; omega) (fun h => by omega) (fun h => ?_)
  refine zr_aload hk_31 rw_31_11 rfl ?_
  refine zr_getfield hk_31 rw_31_12 ((List.getElem?_set_ne (by decide)).trans hC.2.1) (by decide) rfl ?_
  refine zr_iload hk_31 rw_31_13 rfl ?_
  refine zi_const hk_31 rw_31_14 (c := 1) rfl ?_
  refine zi_sub hk_31 rw_31_15 ?_
  refine zr_aload hk_31 rw_31_16 rfl ?_
  refine zr_getfield hk_31 rw_31_17 ((List.getElem?_set_ne (by decide)).trans hC.2.1) (by decide) rfl ?_
  refine zr_iload hk_31 rw_31_18 rfl ?_
  refine zr_aaload hk_31 rw_31_19 (List.getElem?_set_self (by omega)) (iv_clamp (e := ((1 + 1) + 1)) (i := 3) (by omega) (by omega)).1 (by rw [(iv_clamp (e := ((1 + 1) + 1)) (i := 3) (by omega) (by omega)).2]; omega) (by decide) (by decide) ?_
  rw [(iv_clamp (e := ((1 + 1) + 1)) (i := 3) (by omega) (by omega)).2, show (va_up (va_up f 0 (some r1)) 1 (some r2)) 3 = some r3 from h3]
  refine zr_aastore hk_31 rw_31_20 (List.getElem?_set_self (by omega)) ((List.getElem?_set_ne (by omega)).trans c3) (iv_clamp (e := ((1 + 1) + 1) - 1) (i := 2) (by omega) (by omega)).1 (by rw [(iv_clamp (e := ((1 + 1) + 1) - 1) (i := 2) (by omega) (by omega)).2]; omega) (by decide) (by omega) (by decide) ?_
  rw [(iv_clamp (e := ((1 + 1) + 1) - 1) (i := 2) (by omega) (by omega)).2, List.set_set]
  refine zi_inc hk_31 rw_31_21 rfl rfl inc_1 (lv' := [some (.ref 8), some (.ref r0), some (.int (iv (((1 + 1) + 1) + 1)))]) rfl ?_
  refine zr_goto hk_31 rw_31_22 ?_
  refine zr_cut hk_31 rw_31_7 ?_
  refine zr_iload hk_31 rw_31_8 rfl ?_
  refine zi_const hk_31 rw_31_9 (c := 5) rfl ?_
  refine zi_icmp_ge hk_31 rw_31_10 (by unfold inR; omega) (by unfold inR; omega) (fun h => by omega) (fun h => ?_)
  refine zr_aload hk_31 rw_31_11 rfl ?_
  refine zr_getfield hk_31 rw_31_12 ((List.getElem?_set_ne (by decide)).trans hC.2.1) (by decide) rfl ?_
  refine zr_iload hk_31 rw_31_13 rfl ?_
  refine zi_const hk_31 rw_31_14 (c := 1) rfl ?_
  refine zi_sub hk_31 rw_31_15 ?_
  refine zr_aload hk_31 rw_31_16 rfl ?_
  refine zr_getfield hk_31 rw_31_17 ((List.getElem?_set_ne (by decide)).trans hC.2.1) (by decide) rfl ?_
  refine zr_iload hk_31 rw_31_18 rfl ?_
  refine zr_aaload hk_31 rw_31_19 (List.getElem?_set_self (by omega)) (iv_clamp (e := (((1 + 1) + 1) + 1)) (i := 4) (by omega) (by omega)).1 (by rw [(iv_clamp (e := (((1 + 1) + 1) + 1)) (i := 4) (by omega) (by omega)).2]; omega) (by decide) (by decide) ?_
  rw [(iv_clamp (e := (((1 + 1) + 1) + 1)) (i := 4) (by omega) (by omega)).2, show (va_up (va_up (va_up f 0 (some r1)) 1 (some r2)) 2 (some r3)) 4 = some r4 from h4]
  refine zr_aastore hk_31 rw_31_20 (List.getElem?_set_self (by omega)) ((List.getElem?_set_ne (by omega)).trans c4) (iv_clamp (e := (((1 + 1) + 1) + 1) - 1) (i := 3) (by omega) (by omega)).1 (by rw [(iv_clamp (e := (((1 + 1) + 1) + 1) - 1) (i := 3) (by omega) (by omega)).2]; omega) (by decide) (by omega) (by decide) ?_
  rw [(iv_clamp (e := (((1 + 1) + 1) + 1) - 1) (i := 3) (by omega) (by omega)).2, List.set_set]
  refine zi_inc hk_31 rw_31_21 rfl rfl inc_1 (lv' := [some (.ref 8), some (.ref r0), some (.int (iv ((((1 + 1) + 1) + 1) + 1)))]) rfl ?_
  refine zr_goto hk_31 rw_31_22 ?_
  refine zr_cut hk_31 rw_31_7 ?_
  refine zr_iload hk_31 rw_31_8 rfl ?_
  refine zi_const hk_31 rw_31_9 (c := 5) rfl ?_
  refine zi_icmp_ge hk_31 rw_31_10 (by unfold inR; omega) (by unfold inR; omega) (fun h => ?_) (fun h => by omega)
  refine zr_aload hk_31 rw_31_23 rfl ?_
  refine zr_getfield hk_31 rw_31_24 ((List.getElem?_set_ne (by decide)).trans hC.2.1) (by decide) rfl ?_
  refine zi_const hk_31 rw_31_25 (c := 4) rfl ?_
  refine zr_aload hk_31 rw_31_26 rfl ?_
  refine zr_aastore hk_31 rw_31_27 (List.getElem?_set_self (by omega)) ((List.getElem?_set_ne (by omega)).trans c0) (iv_clamp (e := 4) (i := 4) rfl (by omega)).1 (by rw [(iv_clamp (e := 4) (i := 4) rfl (by omega)).2]; omega) (by decide) (by omega) (by decide) ?_
  rw [(iv_clamp (e := 4) (i := 4) rfl (by omega)).2, List.set_set]
  refine zr_aload hk_31 rw_31_28 rfl ?_
  refine zi_const hk_31 rw_31_29 (c := 4) rfl ?_
  refine zr_putI hk_31 rw_31_30 ((List.getElem?_set_ne (by decide)).trans hC.2.1) (by decide) (Nat.le_of_ble_eq_true rfl) ?_
  have hblk : blk tr (va_up (va_up (va_up (va_up (va_up f 0 (some r1)) 1 (some r2)) 2 (some r3)) 3 (some r4)) 4 (some r0)) + 0 = blk tr f + 0 := by
    unfold blk
    rw [h0, h1, h2, h3, h4]
    rfl
  have hC2 : GC S0 0 (ph.set 9 (.inr (.inl (3, 5, va_up (va_up (va_up (va_up (va_up f 0 (some r1)) 1 (some r2)) 2 (some r3)) 3 (some r4)) 4 (some r0))))) tr (va_up (va_up (va_up (va_up (va_up f 0 (some r1)) 1 (some r2)) 2 (some r3)) 3 (some r4)) 4 (some r0)) 5 := by
    refine hC.set9 hblk (fun j hj => ?_) (fun j hj r hjr => ?_)
    · match j, hj with
      | 0, _ => exact ⟨_, rfl⟩
      | 1, _ => exact ⟨_, rfl⟩
      | 2, _ => exact ⟨_, rfl⟩
      | 3, _ => exact ⟨_, rfl⟩
      | 4, _ => exact ⟨_, rfl⟩
      | j + 5, hj => exact absurd hj (by omega)
    · match j, hj, hjr with
      | 0, _, hjr => cases hjr; exact k1
      | 1, _, hjr => cases hjr; exact k2
      | 2, _, hjr => cases hjr; exact k3
      | 3, _, hjr => cases hjr; exact k4
      | 4, _, hjr => cases hjr; exact k0
      | j + 5, hj, _ => exact absurd hj (by omega)
  have hC3 := hC2.set8 (s' := 4) (by omega) (fun j hj => hC2.2.2.2.2.1 j (by omega))
  exact zr_return (a := 0) hk_31 rw_31_31 ⟨rfl, WT_set8 (s := 4) (WT_set9 hW (by omega)) (by rw [List.length_set]; omega) (by omega), ⟨_, hC3, (hM.set (by decide)).set (by decide)⟩, (Fr_setX hC.2.2.1 (by decide) (Or.inr trivial)).trans (Fr_setX hC2.2.1 (by decide) (Or.inl (by decide)))⟩
theorem record_ok {S0 : Nat} {p z : Nat → Int32} (hK : CtAll (GI S0 0 p z) 4) (hK1 : CtAll (GI S0 1 p z) 4) : CtH (GI S0 0 p z) 30 ([(2, 8, 0), (2, 10, 0)], [none], 4722366482869649407744, 5) := by
  intro d ph as hd hW hGI hf
  match as, hf with
  | [v0, n0], ⟨⟨v, hv, v1, v2, v3⟩, ⟨q, hq, q1, q2, q3⟩, _⟩ =>
    subst hv
    subst hq
    obtain rfl := psi_id v3 (by omega)
    obtain ⟨⟨tr, f, s, hC⟩, a, hM⟩ := hGI
    obtain ⟨d, rfl⟩ : ∃ d', d = d' + 5 := ⟨d - 5, by have : 5 ≤ d := hd; omega⟩
    have hz : ZC (d + 5) 30 [.ref 8, .ref q] ph (fun w ph' => w = none ∧ WT ph' ∧ GI S0 0 p z ph' ∧ Fr 4722366482869649407744 ph ph') := by
      refine ZC.of (lv := [some (.ref 8), some (.ref q)]) hk_30 (fun i v hv => ?_) ?_
      · match i, hv with
        | 0, hv => cases hv; rfl
        | 1, hv => cases hv; rfl
        | i + 2, hv => simp at hv
      refine zr_aload hk_30 rw_30_0 rfl ?_
      refine zr_getfield hk_30 rw_30_1 hC.2.1 (by decide) rfl ?_
      refine zi_const hk_30 rw_30_2 (c := 5) rfl ?_
      have hs5 := hC.2.2.2.1
      refine zi_icmp_lt hk_30 rw_30_3 (by unfold inR; omega) (by unfold inR; omega) (fun h => ?_) (fun h => ?_)
      · exact rec_md hK hK1 hW hC hM (by omega) q1 q2 q3 (Fr.rfl' _ _)
      · obtain rfl : s = 5 := by omega
        refine zr_aload hk_30 rw_30_4 rfl ?_
        refine zr_virtual (L := 3) (n := 0) (as := []) (r := []) hk_30 rw_30_5 (by decide) (by decide) ⟨rfl, rfl, rfl, rfl⟩ hC.2.1 (by decide) rfl rfl (by decide) (Nat.le_of_ble_eq_true rfl) (drop_ok hW hC hM) ?_
        rintro w1 ph1 ⟨rfl, W1, ⟨f', hC1, hM1⟩, F1⟩
        exact rec_md hK hK1 W1 hC1 hM1 (by omega) q1 (Nat.lt_of_lt_of_le q2 F1.1) q3 F1
    obtain ⟨m, w, ph', nc, ns, r1, rfl, r2, r3, r4⟩ := hz
    exact ⟨m, none, ph', nc, ns, r1, r2, r3, r4, none, List.mem_cons_self, trivial⟩
theorem restore_ok {S0 : Nat} {p z : Nat → Int32} (hK : CtAll (GI S0 0 p z) 4) : CtH (GI S0 0 p z) 114 ([(2, 8, 0), (2, 10, 0)], [some (0, 2147483648, 2147483649)], 4722366482869649407232, 4) := by
  intro d ph as hd hW hGI hf
  match as, hf with
  | [v0, n0], ⟨⟨v, hv, v1, v2, v3⟩, ⟨q, hq, q1, q2, q3⟩, _⟩ =>
    subst hv
    subst hq
    obtain rfl := psi_id v3 (by omega)
    obtain ⟨⟨tr, f, s, hC⟩, a, hM⟩ := hGI
    obtain ⟨d, rfl⟩ : ∃ d', d = d' + 4 := ⟨d - 4, by have : 4 ≤ d := hd; omega⟩
    have hz : ZC (d + 4) 114 [.ref 8, .ref q] ph (fun w ph' => fitO ph'.length (some (0, 2147483648, 2147483649)) w ∧ WT ph' ∧ GI S0 0 p z ph' ∧ Fr 4722366482869649407232 ph ph') := by
      refine ZC.of (lv := [some (.ref 8), some (.ref q)]) hk_114 (fun i v hv => ?_) ?_
      · match i, hv with
        | 0, hv => cases hv; rfl
        | 1, hv => cases hv; rfl
        | i + 2, hv => simp at hv
      refine zr_aload hk_114 rw_114_0 rfl ?_
      refine zr_getfield hk_114 rw_114_1 hC.2.1 (by decide) rfl ?_
      refine zi_const hk_114 rw_114_2 (c := 1) rfl ?_
      have hs5 := hC.2.2.2.1
      have hg := hC.ge
      refine zi_icmp_lt hk_114 rw_114_3 (by unfold inR; omega) (by unfold inR; omega) (fun h => ?_) (fun h => ?_)
      · refine zi_const (j := 12) hk_114 rw_114_12 (c := 0) rfl ?_
        exact zr_ireturnB hk_114 rw_114_13 (by decide) ⟨fit_k (len := ph.length) 0 rfl (by omega) (by omega) (by omega), hW, ⟨⟨tr, f, s, hC⟩, a, hM⟩, Fr.rfl' _ _⟩
      obtain ⟨r, hr⟩ := hC.2.2.2.2.1 (s - 1) (by omega)
      have hrF := hC.2.2.2.2.2.2.1 (s - 1) (by omega) r hr
      refine zr_aload hk_114 rw_114_4 rfl ?_
      refine zr_getfield hk_114 rw_114_5 hC.2.1 (by decide) rfl ?_
      refine zr_aload hk_114 rw_114_6 rfl ?_
      refine zr_getfield hk_114 rw_114_7 hC.2.1 (by decide) rfl ?_
      refine zi_const hk_114 rw_114_8 (c := 1) rfl ?_
      refine zi_sub hk_114 rw_114_9 ?_
      refine zr_aaload hk_114 rw_114_10 hC.2.2.1 (iv_clamp (e := (s : Int) - 1) (i := s - 1) (by omega) (by omega)).1 (by rw [(iv_clamp (e := (s : Int) - 1) (i := s - 1) (by omega) (by omega)).2]; omega) (by decide) (by decide) ?_
      rw [(iv_clamp (e := (s : Int) - 1) (i := s - 1) (by omega) (by omega)).2, hr]
      refine zr_ifnn_ref hk_114 rw_114_11 ?_
      refine zr_aload hk_114 rw_114_14 rfl ?_
      refine zr_dup hk_114 rw_114_15 rfl ?_
      refine zr_getfield hk_114 rw_114_16 hC.2.1 (by decide) rfl ?_
      refine zi_const hk_114 rw_114_17 (c := 1) rfl ?_
      refine zi_sub hk_114 rw_114_18 ?_
      rw [show (s : Int) - 1 = ((s - 1 : Nat) : Int) by omega]
      refine zr_putI hk_114 rw_114_19 hC.2.1 (by decide) (Nat.le_of_ble_eq_true rfl) ?_
      have hC1 := hC.set8 (s' := s - 1) (by omega) (fun j hj => hC.2.2.2.2.1 j (by omega))
      have W1 := WT_set8 (s := s - 1) hW (by omega) (by omega)
      have hM1 := hM.set (x := 8) (c := .inr (.inr (2, [.ref 9, .int (iv ((s - 1 : Nat) : Int))]))) (by decide)
      have F1 : Fr 4722366482869649407232 ph (ph.set 8 (.inr (.inr (2, [.ref 9, .int (iv ((s - 1 : Nat) : Int))])))) := Fr_setX hC.2.1 (by decide) (Or.inl (by decide))
      have hl1 : (ph.set 8 (.inr (.inr (2, [.ref 9, .int (iv ((s - 1 : Nat) : Int))])))).length = ph.length := List.length_set
      show ZR (d + 4) 114 20 _ [] (ph.set 8 (.inr (.inr (2, [.ref 9, .int (iv ((s - 1 : Nat) : Int))])))) _
      generalize ph.set 8 (.inr (.inr (2, [.ref 9, .int (iv ((s - 1 : Nat) : Int))]))) = ph1 at *
      refine zr_aload hk_114 rw_114_20 rfl ?_
      refine zr_aload hk_114 rw_114_21 rfl ?_
      refine zr_getfield hk_114 rw_114_22 hC1.2.1 (by decide) rfl ?_
      refine zr_aload hk_114 rw_114_23 rfl ?_
      refine zr_getfield hk_114 rw_114_24 hC1.2.1 (by decide) rfl ?_
      refine zr_aaload hk_114 rw_114_25 hC1.2.2.1 (iv_clamp (e := ((s - 1 : Nat) : Int)) (i := s - 1) rfl (by omega)).1 (by rw [(iv_clamp (e := ((s - 1 : Nat) : Int)) (i := s - 1) rfl (by omega)).2]; omega) (by decide) (by decide) ?_
      rw [(iv_clamp (e := ((s - 1 : Nat) : Int)) (i := s - 1) rfl (by omega)).2, hr]
      obtain ⟨fs, hfs⟩ := fam_cell W1 q1 (by rw [hl1]; exact q2) q3
      refine zr_virtual (L := 3) (n := 1) (as := [.ref r]) (r := []) hk_114 rw_114_26 (by decide) (by decide) ⟨rfl, rfl, rfl, rfl⟩ hfs (two_le q1 (by rw [q3]; decide)) rfl rfl (by decide) (Nat.le_of_ble_eq_true rfl) (zc_ct hK ct_32 (by show 3 < 4; omega) (by show 3 ≤ d + 3; omega) W1 ⟨⟨tr, f, s - 1, hC1⟩, a, hM1⟩ ⟨fit_ref q1 (by rw [hl1]; exact q2) q3, fit_ref (by have := hrF.1; omega) (by rw [hl1]; exact hrF.2.1) hrF.psi, trivial⟩) ?_
      rintro w2 ph2 ⟨W2, I2, F2, v2⟩
      cases none_of v2
      refine zi_const hk_114 rw_114_27 (c := 1) rfl ?_
      exact zr_ireturnB hk_114 rw_114_28 (by decide) ⟨fit_k (len := ph2.length) 1 rfl (by omega) (by omega) (by omega), W2, I2, F1.trans (F2.widen (by decide))⟩
    obtain ⟨m, w, ph', nc, ns, r1, r2, r3, r4, r5⟩ := hz
    exact ⟨m, w, ph', nc, ns, r1, r3, r4, r5, _, List.mem_cons_self, r2⟩
theorem cft_tl {S0 d : Nat} {p z : Nat → Int32} (hK : CtAll (GI S0 0 p z) 4) {ph0 ph : PH} {r : Nat} {f : Nat → Option Nat} {s : Nat} {a : Nat → Nat → Int32} (hW : WT ph) (hC : GC S0 0 ph (some r) f s) (hM : MH ph p a z) (hF : Fr 73786976294842399748 ph0 ph) : ZR (d + 5) 110 8 [some (.ref 2)] [] ph (fun w ph' => fitO ph'.length (some (2, 10, 0)) w ∧ WT ph' ∧ GI S0 0 p z ph' ∧ Fr 73786976294842399748 ph0 ph') := by
  have hg := hC.ge
  have hrF := hC.2.2.2.2.2.1 r rfl
  have hr1 : 1 ≤ r := by have := hrF.1; omega
  obtain ⟨fs, hfs⟩ := fam_cell hW hr1 hrF.2.1 hrF.psi
  refine zr_aload hk_110 rw_110_8 rfl ?_
  refine zr_getfield hk_110 rw_110_9 hC.1 (by decide) rfl ?_
  refine zr_aload hk_110 rw_110_10 rfl ?_
  refine zr_getfield hk_110 rw_110_11 hC.1 (by decide) rfl ?_
  refine zr_virtual (L := 3) (n := 1) (as := [.ref 10]) (r := []) hk_110 rw_110_12 (by decide) (by decide) ⟨rfl, rfl, rfl, rfl⟩ hfs (by have := hrF.1; omega) rfl rfl (by decide) (Nat.le_of_ble_eq_true rfl) (zc_ct hK ct_32 (by show 3 < 4; omega) (by show 3 ≤ d + 4; omega) hW ⟨⟨some r, f, s, hC⟩, a, hM⟩ ⟨fit_ref hr1 hrF.2.1 hrF.psi, fit_ref (by decide) (by omega) (by decide), trivial⟩) ?_
  rintro w1 ph1 ⟨W1, I1, F1, v1⟩
  cases none_of v1
  have h2 := F1.at hC.1 (by decide)
  refine zr_aload hk_110 rw_110_13 rfl ?_
  refine zr_getfield hk_110 rw_110_14 h2 (by decide) rfl ?_
  exact zr_areturn hk_110 rw_110_15 ⟨fit_ref hr1 (Nat.lt_of_lt_of_le hrF.2.1 F1.1) hrF.psi, W1, I1, hF.trans (F1.widen (by decide))⟩
theorem cft_ok {S0 : Nat} {p z : Nat → Int32} (hK : CtAll (GI S0 0 p z) 4) (hK1 : CtAll (GI S0 1 p z) 4) : CtH (GI S0 0 p z) 110 ([(2, 2, 0)], [some (2, 10, 0)], 73786976294842399748, 5) := by
  intro d ph as hd hW hGI hf
  match as, hf with
  | [v0], ⟨⟨v, hv, v1, v2, v3⟩, _⟩ =>
    subst hv
    obtain rfl := psi_id v3 (by omega)
    obtain ⟨⟨tr, f, s, hC⟩, a, hM⟩ := hGI
    obtain ⟨d, rfl⟩ : ∃ d', d = d' + 5 := ⟨d - 5, by have : 5 ≤ d := hd; omega⟩
    have hz : ZC (d + 5) 110 [.ref 2] ph (fun w ph' => fitO ph'.length (some (2, 10, 0)) w ∧ WT ph' ∧ GI S0 0 p z ph' ∧ Fr 73786976294842399748 ph ph') := by
      refine ZC.of (lv := [some (.ref 2)]) hk_110 (fun i v hv => ?_) ?_
      · match i, hv with
        | 0, hv => cases hv; rfl
        | i + 1, hv => simp at hv
      refine zr_aload hk_110 rw_110_0 rfl ?_
      refine zr_getfield hk_110 rw_110_1 hC.1 (by decide) rfl ?_
      have hg := hC.ge
      cases tr with
      | some r =>
        refine zr_ifnn_ref hk_110 rw_110_2 ?_
        exact cft_tl hK hW hC hM (Fr.rfl' _ _)
      | none =>
        refine zr_ifnn_null hk_110 rw_110_2 ?_
        refine zr_aload hk_110 rw_110_3 rfl ?_
        refine zr_new hk_110 rw_110_4 rfl rfl ?_
        refine zr_dup hk_110 rw_110_5 rfl ?_
        refine zr_special (L := 2) (n := 0) (as := []) (r := [.ref ph.length, .ref 2]) hk_110 rw_110_6 (by decide) (by decide) ⟨rfl, rfl, rfl⟩ rfl rfl (Nat.le_of_ble_eq_true rfl) (Nat.le_of_ble_eq_true rfl) (fam_new (d := d) hK1 hW hC hM) ?_
        rintro w1 ph1 ⟨rfl, W1, ⟨hC1, a1, hM1⟩, F1⟩
        have hl1 : ph1.length = ph.length + 65 := by have h1 := hC.2.2.2.2.2.2.2.1; have h2 := hC1.2.2.2.2.2.2.2.1; omega
        have hnF : isF ph1.length ph.length := ⟨hg, by omega, by have h1 := hC.2.2.2.2.2.2.2.1; omega⟩
        refine zr_putX hk_110 rw_110_7 hC1.1 (by decide) (Nat.le_of_ble_eq_true rfl) rfl rfl (fit_o _ _) ?_
        exact cft_tl hK (WT_set2 W1 (by omega)) (hC1.set2 hnF) (hM1.set (by decide)) ((F1.widen (by decide)).trans (Fr_setX hC1.1 (by decide) (Or.inl (by decide))))
    obtain ⟨m, w, ph', nc, ns, r1, r2, r3, r4, r5⟩ := hz
    exact ⟨m, w, ph', nc, ns, r1, r3, r4, r5, _, List.mem_cons_self, r2⟩

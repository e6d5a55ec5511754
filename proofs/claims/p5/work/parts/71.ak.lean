/-! ===== by program (wip/gen/m71.py): the acknowledgements of a tick ===== -/
theorem kc146_eq : codeOf 146 = kc146 := rfl
theorem hk_146 : 146 < 186 := by decide
theorem rw_146_0 : (codeOf 146)[0]? = some (0, .iconst 0, 2147483648, 0, 0, 1, []) := by rw [kc146_eq]; rfl
theorem rw_146_1 : (codeOf 146)[1]? = some (1, .istore 1, 1, 0, 0, 1, []) := by rw [kc146_eq]; rfl
theorem rw_146_2 : (codeOf 146)[2]? = some (2, .iconst 0, 2147483648, 0, 0, 1, []) := by rw [kc146_eq]; rfl
theorem rw_146_3 : (codeOf 146)[3]? = some (3, .istore 2, 2, 0, 0, 1, []) := by rw [kc146_eq]; rfl
theorem rw_146_4 : (codeOf 146)[4]? = some (4, .aload 0, 0, 0, 3, 1, []) := by rw [kc146_eq]; rfl
theorem rw_146_5 : (codeOf 146)[5]? = some (5, .getfield 7, 9, 0, 3, 3, []) := by rw [kc146_eq]; rfl
theorem rw_146_6 : (codeOf 146)[6]? = some (8, .iconst 219, 2147483867, 0, 0, 3, []) := by rw [kc146_eq]; rfl
theorem rw_146_7 : (codeOf 146)[7]? = some (11, .iaload, 0, 0, 0, 1, []) := by rw [kc146_eq]; rfl
theorem rw_146_8 : (codeOf 146)[8]? = some (12, .istore 3, 3, 0, 0, 1, []) := by rw [kc146_eq]; rfl
theorem rw_146_9 : (codeOf 146)[9]? = some (13, .iconst 0, 2147483648, 0, 0, 1, []) := by rw [kc146_eq]; rfl
theorem rw_146_10 : (codeOf 146)[10]? = some (14, .istore 4, 4, 0, 0, 2, []) := by rw [kc146_eq]; rfl
theorem rw_146_11 : (codeOf 146)[11]? = some (16, .monitorexit, 1168, 0, 0, 0, []) := by rw [kc146_eq]; rfl
theorem rw_146_12 : (codeOf 146)[12]? = some (16, .iload 4, 4, 0, 0, 2, []) := by rw [kc146_eq]; rfl
theorem rw_146_13 : (codeOf 146)[13]? = some (18, .iload 3, 3, 0, 0, 1, []) := by rw [kc146_eq]; rfl
theorem rw_146_14 : (codeOf 146)[14]? = some (19, .if_icmp .ge 125, 144, 85, 0, 3, []) := by rw [kc146_eq]; rfl
theorem rw_146_15 : (codeOf 146)[15]? = some (22, .iconst 1000, 2147484648, 0, 0, 3, []) := by rw [kc146_eq]; rfl
theorem rw_146_16 : (codeOf 146)[16]? = some (25, .iconst 4, 2147483652, 0, 0, 1, []) := by rw [kc146_eq]; rfl
theorem rw_146_17 : (codeOf 146)[17]? = some (26, .iload 4, 4, 0, 0, 2, []) := by rw [kc146_eq]; rfl
theorem rw_146_18 : (codeOf 146)[18]? = some (28, .imul, 0, 0, 0, 1, []) := by rw [kc146_eq]; rfl
theorem rw_146_19 : (codeOf 146)[19]? = some (29, .iadd, 0, 0, 0, 1, []) := by rw [kc146_eq]; rfl
theorem rw_146_20 : (codeOf 146)[20]? = some (30, .istore 5, 5, 0, 0, 2, []) := by rw [kc146_eq]; rfl
theorem rw_146_21 : (codeOf 146)[21]? = some (32, .aload 0, 0, 0, 3, 1, []) := by rw [kc146_eq]; rfl
theorem rw_146_22 : (codeOf 146)[22]? = some (33, .getfield 7, 9, 0, 3, 3, []) := by rw [kc146_eq]; rfl
theorem rw_146_23 : (codeOf 146)[23]? = some (36, .iload 5, 5, 0, 0, 2, []) := by rw [kc146_eq]; rfl
theorem rw_146_24 : (codeOf 146)[24]? = some (38, .iaload, 0, 0, 0, 1, []) := by rw [kc146_eq]; rfl
theorem rw_146_25 : (codeOf 146)[25]? = some (39, .aload 0, 0, 0, 3, 1, []) := by rw [kc146_eq]; rfl
theorem rw_146_26 : (codeOf 146)[26]? = some (40, .getfield 7, 9, 0, 3, 3, []) := by rw [kc146_eq]; rfl
theorem rw_146_27 : (codeOf 146)[27]? = some (43, .iconst 214, 2147483862, 0, 0, 3, []) := by rw [kc146_eq]; rfl
theorem rw_146_28 : (codeOf 146)[28]? = some (46, .iaload, 0, 0, 0, 1, []) := by rw [kc146_eq]; rfl
theorem rw_146_29 : (codeOf 146)[29]? = some (47, .if_icmp .ne 48, 95, 58, 0, 3, []) := by rw [kc146_eq]; rfl
theorem rw_146_30 : (codeOf 146)[30]? = some (50, .iload 1, 1, 0, 0, 1, []) := by rw [kc146_eq]; rfl
theorem rw_146_31 : (codeOf 146)[31]? = some (51, .aload 0, 0, 0, 3, 1, []) := by rw [kc146_eq]; rfl
theorem rw_146_32 : (codeOf 146)[32]? = some (52, .aload 0, 0, 0, 3, 1, []) := by rw [kc146_eq]; rfl
theorem rw_146_33 : (codeOf 146)[33]? = some (53, .getfield 7, 9, 0, 3, 3, []) := by rw [kc146_eq]; rfl
theorem rw_146_34 : (codeOf 146)[34]? = some (56, .iload 5, 5, 0, 0, 2, []) := by rw [kc146_eq]; rfl
theorem rw_146_35 : (codeOf 146)[35]? = some (58, .iconst 1, 2147483649, 0, 0, 1, []) := by rw [kc146_eq]; rfl
theorem rw_146_36 : (codeOf 146)[36]? = some (59, .iadd, 0, 0, 0, 1, []) := by rw [kc146_eq]; rfl
theorem rw_146_37 : (codeOf 146)[37]? = some (60, .iaload, 0, 0, 0, 1, []) := by rw [kc146_eq]; rfl
theorem rw_146_38 : (codeOf 146)[38]? = some (61, .aload 0, 0, 0, 3, 1, []) := by rw [kc146_eq]; rfl
theorem rw_146_39 : (codeOf 146)[39]? = some (62, .getfield 7, 9, 0, 3, 3, []) := by rw [kc146_eq]; rfl
theorem rw_146_40 : (codeOf 146)[40]? = some (65, .iload 5, 5, 0, 0, 2, []) := by rw [kc146_eq]; rfl
theorem rw_146_41 : (codeOf 146)[41]? = some (67, .iconst 2, 2147483650, 0, 0, 1, []) := by rw [kc146_eq]; rfl
theorem rw_146_42 : (codeOf 146)[42]? = some (68, .iadd, 0, 0, 0, 1, []) := by rw [kc146_eq]; rfl
theorem rw_146_43 : (codeOf 146)[43]? = some (69, .iaload, 0, 0, 0, 1, []) := by rw [kc146_eq]; rfl
theorem rw_146_44 : (codeOf 146)[44]? = some (70, .aload 0, 0, 0, 3, 1, []) := by rw [kc146_eq]; rfl
theorem rw_146_45 : (codeOf 146)[45]? = some (71, .getfield 7, 9, 0, 3, 3, []) := by rw [kc146_eq]; rfl
theorem rw_146_46 : (codeOf 146)[46]? = some (74, .iload 5, 5, 0, 0, 2, []) := by rw [kc146_eq]; rfl
theorem rw_146_47 : (codeOf 146)[47]? = some (76, .iconst 3, 2147483651, 0, 0, 1, []) := by rw [kc146_eq]; rfl
theorem rw_146_48 : (codeOf 146)[48]? = some (77, .iadd, 0, 0, 0, 1, []) := by rw [kc146_eq]; rfl
theorem rw_146_49 : (codeOf 146)[49]? = some (78, .iaload, 0, 0, 0, 1, []) := by rw [kc146_eq]; rfl
theorem rw_146_50 : (codeOf 146)[50]? = some (79, .invokevirtual 142, 147, 0, 0, 3, []) := by rw [kc146_eq]; rfl
theorem rw_146_51 : (codeOf 146)[51]? = some (82, .ifCond .eq 7, 89, 54, 0, 3, []) := by rw [kc146_eq]; rfl
theorem rw_146_52 : (codeOf 146)[52]? = some (85, .iconst 1, 2147483649, 0, 0, 1, []) := by rw [kc146_eq]; rfl
theorem rw_146_53 : (codeOf 146)[53]? = some (86, .goto 4, 90, 55, 0, 3, []) := by rw [kc146_eq]; rfl
theorem rw_146_54 : (codeOf 146)[54]? = some (89, .iconst 0, 2147483648, 0, 0, 1, []) := by rw [kc146_eq]; rfl
theorem rw_146_55 : (codeOf 146)[55]? = some (90, .iadd, 0, 0, 0, 1, []) := by rw [kc146_eq]; rfl
theorem rw_146_56 : (codeOf 146)[56]? = some (91, .istore 1, 1, 0, 0, 1, []) := by rw [kc146_eq]; rfl
theorem rw_146_57 : (codeOf 146)[57]? = some (92, .goto 46, 138, 83, 0, 3, []) := by rw [kc146_eq]; rfl
theorem rw_146_58 : (codeOf 146)[58]? = some (95, .iconst 0, 2147483648, 0, 0, 1, []) := by rw [kc146_eq]; rfl
theorem rw_146_59 : (codeOf 146)[59]? = some (96, .istore 6, 6, 0, 0, 2, []) := by rw [kc146_eq]; rfl
theorem rw_146_60 : (codeOf 146)[60]? = some (98, .monitorexit, 1169, 0, 0, 0, []) := by rw [kc146_eq]; rfl
theorem rw_146_61 : (codeOf 146)[61]? = some (98, .iload 6, 6, 0, 0, 2, []) := by rw [kc146_eq]; rfl
theorem rw_146_62 : (codeOf 146)[62]? = some (100, .iconst 4, 2147483652, 0, 0, 1, []) := by rw [kc146_eq]; rfl
theorem rw_146_63 : (codeOf 146)[63]? = some (101, .if_icmp .ge 34, 135, 82, 0, 3, []) := by rw [kc146_eq]; rfl
theorem rw_146_64 : (codeOf 146)[64]? = some (104, .aload 0, 0, 0, 3, 1, []) := by rw [kc146_eq]; rfl
theorem rw_146_65 : (codeOf 146)[65]? = some (105, .getfield 7, 9, 0, 3, 3, []) := by rw [kc146_eq]; rfl
theorem rw_146_66 : (codeOf 146)[66]? = some (108, .iconst 1000, 2147484648, 0, 0, 3, []) := by rw [kc146_eq]; rfl
theorem rw_146_67 : (codeOf 146)[67]? = some (111, .iconst 4, 2147483652, 0, 0, 1, []) := by rw [kc146_eq]; rfl
theorem rw_146_68 : (codeOf 146)[68]? = some (112, .iload 2, 2, 0, 0, 1, []) := by rw [kc146_eq]; rfl
theorem rw_146_69 : (codeOf 146)[69]? = some (113, .imul, 0, 0, 0, 1, []) := by rw [kc146_eq]; rfl
theorem rw_146_70 : (codeOf 146)[70]? = some (114, .iadd, 0, 0, 0, 1, []) := by rw [kc146_eq]; rfl
theorem rw_146_71 : (codeOf 146)[71]? = some (115, .iload 6, 6, 0, 0, 2, []) := by rw [kc146_eq]; rfl
theorem rw_146_72 : (codeOf 146)[72]? = some (117, .iadd, 0, 0, 0, 1, []) := by rw [kc146_eq]; rfl
theorem rw_146_73 : (codeOf 146)[73]? = some (118, .aload 0, 0, 0, 3, 1, []) := by rw [kc146_eq]; rfl
theorem rw_146_74 : (codeOf 146)[74]? = some (119, .getfield 7, 9, 0, 3, 3, []) := by rw [kc146_eq]; rfl
theorem rw_146_75 : (codeOf 146)[75]? = some (122, .iload 5, 5, 0, 0, 2, []) := by rw [kc146_eq]; rfl
theorem rw_146_76 : (codeOf 146)[76]? = some (124, .iload 6, 6, 0, 0, 2, []) := by rw [kc146_eq]; rfl
theorem rw_146_77 : (codeOf 146)[77]? = some (126, .iadd, 0, 0, 0, 1, []) := by rw [kc146_eq]; rfl
theorem rw_146_78 : (codeOf 146)[78]? = some (127, .iaload, 0, 0, 0, 1, []) := by rw [kc146_eq]; rfl
theorem rw_146_79 : (codeOf 146)[79]? = some (128, .iastore, 0, 0, 0, 1, []) := by rw [kc146_eq]; rfl
theorem rw_146_80 : (codeOf 146)[80]? = some (129, .iinc 6 1, 6, 1, 0, 3, []) := by rw [kc146_eq]; rfl
theorem rw_146_81 : (codeOf 146)[81]? = some (132, .goto (-34), 98, 60, 0, 3, []) := by rw [kc146_eq]; rfl
theorem rw_146_82 : (codeOf 146)[82]? = some (135, .iinc 2 1, 2, 1, 0, 3, []) := by rw [kc146_eq]; rfl
theorem rw_146_83 : (codeOf 146)[83]? = some (138, .iinc 4 1, 4, 1, 0, 3, []) := by rw [kc146_eq]; rfl
theorem rw_146_84 : (codeOf 146)[84]? = some (141, .goto (-125), 16, 11, 0, 3, []) := by rw [kc146_eq]; rfl
theorem rw_146_85 : (codeOf 146)[85]? = some (144, .aload 0, 0, 0, 3, 1, []) := by rw [kc146_eq]; rfl
theorem rw_146_86 : (codeOf 146)[86]? = some (145, .getfield 7, 9, 0, 3, 3, []) := by rw [kc146_eq]; rfl
theorem rw_146_87 : (codeOf 146)[87]? = some (148, .iconst 219, 2147483867, 0, 0, 3, []) := by rw [kc146_eq]; rfl
theorem rw_146_88 : (codeOf 146)[88]? = some (151, .iload 2, 2, 0, 0, 1, []) := by rw [kc146_eq]; rfl
theorem rw_146_89 : (codeOf 146)[89]? = some (152, .iastore, 0, 0, 0, 1, []) := by rw [kc146_eq]; rfl
theorem rw_146_90 : (codeOf 146)[90]? = some (153, .iload 1, 1, 0, 0, 1, []) := by rw [kc146_eq]; rfl
theorem rw_146_91 : (codeOf 146)[91]? = some (154, .ireturn, 1, 0, 0, 1, []) := by rw [kc146_eq]; rfl
section MH
variable {d k j : Nat} {lv : List (Option Value)} {st : List Value} {ph : PH} {Q : Option Value → PH → Prop} {B : PH} {p : Nat → Int32} {a : Nat → Nat → Int32} {z : Nat → Int32}
/-- behind the acknowledgements of a tick: what is still on its way is due later -/
def AckS (f : Nat → Int32) (t C : Nat) : Prop := ∃ s : Nat → Nat, (∀ k, k + 1 < C → s k ≤ s (k + 1)) ∧ (∀ k, k + 8 < C → s k < s (k + 8)) ∧ ∀ k, k < C → s k < t ∧ ∃ u : Nat, f (1000 + 4 * k) = iv (u : Int) ∧ t + 1 ≤ u ∧ u ≤ s k + 30
def TiS (T : Nat) (f : Nat → Int32) : Prop := ∃ t C : Nat, t ≤ T ∧ f 214 = iv (t : Int) ∧ f 219 = iv (C : Int) ∧ (∀ c, c < 10 → ∃ n : Nat, f (21 * c + 16) = iv (n : Int) ∧ n + C ≤ 8 * t) ∧ AckS f t C
def PageS (T : Nat) (f : Nat → Int32) : Prop := BaseOK f ∧ TiS T f
theorem ackS_le {f : Nat → Int32} {t C : Nat} (h : AckS f t C) : C ≤ 232 := by
  obtain ⟨s, h1, h2, h3⟩ := h
  by_cases hC : C ≤ 232
  · exact hC
  · exfalso
    have a1 : ∀ n, 8 * n < C → s 0 + n ≤ s (8 * n) := by
      intro n
      induction n with
      | zero => intro _; exact Nat.le_refl _
      | succ n ih =>
        intro hn
        have a1 := ih (by omega)
        have a2 := h2 (8 * n) (by omega)
        rw [show 8 * (n + 1) = 8 * n + 8 by omega]
        omega
    have b1 := a1 29 (by omega)
    obtain ⟨c1, u, c2, c3, c4⟩ := h3 0 (by omega)
    obtain ⟨d1, -⟩ := h3 (8 * 29) (by omega)
    omega
theorem PageS.mild {T : Nat} {p q : Nat → Int32} (h : PageS T p) (hb : BaseOK q) (hm : Mild p q) : PageS T q := by
  obtain ⟨-, t, C, h1, h2, h3, h4, s, h5, h6, h7⟩ := h
  refine ⟨hb, t, C, h1, hm.2.1.trans h2, hm.2.2.1.trans h3, fun c hc => ?_, s, h5, h6, fun k hk => ?_⟩
  · obtain ⟨n, n1, n2⟩ := h4 c hc
    exact ⟨n, (hm.2.2.2 c hc).2.trans n1, n2⟩
  · obtain ⟨a1, u, a2, a3⟩ := h7 k hk
    exact ⟨a1, u, (hm.1 _ (by omega)).trans a2, a3⟩
/-- while the acknowledgements of a tick are taken: k are gone through, m are kept -/
def AI (p q : Nat → Int32) (t C k m : Nat) : Prop := BaseOK q ∧ q 214 = iv (t : Int) ∧ q 219 = iv (C : Int) ∧ (∀ j, k ≤ j → j < C → q (1000 + 4 * j) = p (1000 + 4 * j)) ∧ (∀ i, 2000 ≤ i → q i = p i) ∧ (∀ c, c < 10 → ∃ n : Nat, q (21 * c + 16) = iv (n : Int) ∧ n + (C - k) + m ≤ 8 * t) ∧ ∃ g : Nat → Nat, (∀ j, j < m → g j < k ∧ q (1000 + 4 * j) = p (1000 + 4 * g j) ∧ ¬ p (1000 + 4 * g j) = iv (t : Int)) ∧ ∀ j, j + 1 < m → g j < g (j + 1)
theorem AI_mild {p q r : Nat → Int32} {t C k m : Nat} (h : AI p q t C k m) (hk : k < C) (hb : BaseOK r) (hm : Mild q r) : AI p r t C (k + 1) m := by
  obtain ⟨h1, h2, h3, h4, h5, h6, g, h7, h8⟩ := h
  refine ⟨hb, hm.2.1.trans h2, hm.2.2.1.trans h3, fun j j1 j2 => (hm.1 _ (by omega)).trans (h4 j (by omega) j2), fun i hi => (hm.1 i (by omega)).trans (h5 i hi), fun c hc => ?_, g, fun j hj => ?_, h8⟩
  · obtain ⟨n, n1, n2⟩ := h6 c hc
    exact ⟨n, (hm.2.2.2 c hc).2.trans n1, by omega⟩
  · obtain ⟨a1, a2, a3⟩ := h7 j hj
    exact ⟨by omega, (hm.1 _ (by omega)).trans a2, a3⟩
theorem AI_ack {p q r : Nat → Int32} {t C k m c0 : Nat} (h : AI p q t C k m) (hk : k < C) (hm : CmT c0 q r) : AI p r t C (k + 1) m := by
  obtain ⟨h1, h2, h3, h4, h5, h6, g, h7, h8⟩ := h
  obtain ⟨m1, m2, m3, m4, m5⟩ := hm
  refine ⟨m1, m3.trans h2, m4.trans h3, fun j j1 j2 => (m2 _ (by omega)).trans (h4 j (by omega) j2), fun i hi => (m2 i (by omega)).trans (h5 i hi), fun c hc => ?_, g, fun j hj => ?_, h8⟩
  · obtain ⟨n, n1, n2⟩ := h6 c hc
    have e := (m5 c hc).2
    by_cases hcc : c = c0
    · rw [if_pos hcc, n1, iv_add] at e
      exact ⟨n + 1, e, by omega⟩
    · rw [if_neg hcc] at e
      exact ⟨n, e.trans n1, by omega⟩
  · obtain ⟨a1, a2, a3⟩ := h7 j hj
    exact ⟨by omega, (m2 _ (by omega)).trans a2, a3⟩
theorem AI_keep {p q r : Nat → Int32} {t C k m : Nat} (h : AI p q t C k m) (hk : k < C) (hC : C ≤ 240) (hmk : m ≤ k) (hne : ¬ q (1000 + 4 * k) = iv (t : Int)) (ho : ∀ x, x < 1000 + 4 * m ∨ 1000 + 4 * m + 4 ≤ x → r x = q x) (he : r (1000 + 4 * m) = q (1000 + 4 * k)) : AI p r t C (k + 1) (m + 1) := by
  obtain ⟨h1, h2, h3, h4, h5, h6, g, h7, h8⟩ := h
  have hpk := h4 k (Nat.le_refl _) hk
  refine ⟨h1.eqv (fun i _ h => ho i (by omega)), (ho _ (by omega)).trans h2, (ho _ (by omega)).trans h3, fun j j1 j2 => (ho _ (by omega)).trans (h4 j (by omega) j2), fun i hi => (ho i (by omega)).trans (h5 i hi), fun c hc => ?_, fun j => if j = m then k else g j, fun j hj => ?_, fun j hj => ?_⟩
  · obtain ⟨n, n1, n2⟩ := h6 c hc
    exact ⟨n, (ho _ (by omega)).trans n1, by omega⟩
  · by_cases e : j = m
    · subst e
      dsimp only
      rw [if_pos rfl]
      exact ⟨by omega, he.trans hpk, by rw [← hpk]; exact hne⟩
    · dsimp only
      rw [if_neg e]
      obtain ⟨a1, a2, a3⟩ := h7 j (by omega)
      exact ⟨by omega, (ho _ (by omega)).trans a2, a3⟩
  · dsimp only
    by_cases e : j + 1 = m
    · rw [if_neg (by omega), if_pos e]
      exact (h7 j (by omega)).1
    · rw [if_neg (by omega), if_neg e]
      exact h8 j (by omega)
theorem AI_end {p q : Nat → Int32} {T t C m : Nat} (h : AI p q t C C m) (ht : t ≤ T) (ha : AckOK p t C) : PageS T (upd q 219 (iv (m : Int))) ∧ ∀ i, 2000 ≤ i → upd q 219 (iv (m : Int)) i = p i := by
  obtain ⟨h1, h2, h3, h4, h5, h6, g, h7, h8⟩ := h
  obtain ⟨s, s1, s2, s3⟩ := ha
  have hmono : ∀ n a, a + n < C → s a ≤ s (a + n) := by
    intro n
    induction n with
    | zero => intro a _; exact Nat.le_refl _
    | succ n ih =>
      intro a ha
      have b1 := ih a (by omega)
      have b2 := s1 (a + n) (by omega)
      rw [show a + (n + 1) = a + n + 1 by omega]
      omega
  have hg : ∀ n j, j + n < m → g j + n ≤ g (j + n) := by
    intro n
    induction n with
    | zero => intro j _; exact Nat.le_refl _
    | succ n ih =>
      intro j hj
      have b1 := ih j (by omega)
      have b2 := h8 (j + n) (by omega)
      rw [show j + (n + 1) = j + n + 1 by omega]
      omega
  refine ⟨⟨h1.eqv (fun i _ h => uq_ne (by omega)), t, m, ht, (uq_ne (by omega)).trans h2, uq_eq, fun c hc => ?_, fun j => s (g j), fun j hj => ?_, fun j hj => ?_, fun j hj => ?_⟩, fun i hi => (uq_ne (by omega)).trans (h5 i hi)⟩
  · obtain ⟨n, n1, n2⟩ := h6 c hc
    exact ⟨n, (uq_ne (by omega)).trans n1, by omega⟩
  · have b1 := h8 j hj
    have b2 := (h7 (j + 1) hj).1
    have b3 := hmono (g (j + 1) - g j) (g j) (by omega)
    rw [show g j + (g (j + 1) - g j) = g (j + 1) by omega] at b3
    exact b3
  · have b1 := hg 8 j hj
    have b2 := (h7 (j + 8) hj).1
    have b3 := s2 (g j) (by omega)
    have b4 := hmono (g (j + 8) - (g j + 8)) (g j + 8) (by omega)
    rw [show g j + 8 + (g (j + 8) - (g j + 8)) = g (j + 8) by omega] at b4
    exact Nat.lt_of_lt_of_le b3 b4
  · obtain ⟨a1, a2, a3⟩ := h7 j hj
    obtain ⟨b1, u, b2, b3, b4⟩ := s3 (g j) a1
    refine ⟨b1, u, ((uq_ne (by omega)).trans a2).trans b2, ?_, b4⟩
    by_cases e : u = t
    · exact absurd (by rw [b2, e]) a3
    · omega
theorem ak_in_step {q r : Nat → Int32} {i k m : Nat} (hmk : m ≤ k) (hi : i < 4) (ho : ∀ x, x < 1000 + 4 * m ∨ 1000 + 4 * m + 4 ≤ x → r x = q x) (h0 : i = 0 → r = q) (h1 : 1 ≤ i → r (1000 + 4 * m) = q (1000 + 4 * k)) : (∀ x, x < 1000 + 4 * m ∨ 1000 + 4 * m + 4 ≤ x → upd r (i + 4 * m + 1000) (r (i + 4 * k + 1000)) x = q x) ∧ upd r (i + 4 * m + 1000) (r (i + 4 * k + 1000)) (1000 + 4 * m) = q (1000 + 4 * k) := by
  refine ⟨fun x hx => (uq_ne (by omega)).trans (ho x hx), ?_⟩
  by_cases e : i = 0
  · subst e
    rw [h0 rfl, show 0 + 4 * m + 1000 = 1000 + 4 * m by omega, uq_eq]
    congr 1
    omega
  · rw [uq_ne (by omega)]
    exact h1 (by omega)
theorem ak_in (hB : 87 ≤ B.length) {q : Nat → Int32} {C k m : Nat} {s : Int32} (hmk : m ≤ k) (hk : k < 240) (hQ : ∀ r', (∀ x, x < 1000 + 4 * m ∨ 1000 + 4 * m + 4 ≤ x → r' x = q x) → r' (1000 + 4 * m) = q (1000 + 4 * k) → ZR d 146 82 [some (.ref 75), some (.int (s)), some (.int (iv ((m : Int)))), some (.int (iv ((C : Int)))), some (.int (iv ((k : Int)))), some (.int (iv (1000 + (4 * (k : Int))))), some (.int (iv (((4 : Nat) : Int))))] [] (mh B r' a z) Q) : ∀ (n i : Nat) (r : Nat → Int32), i + n = 4 → (∀ x, x < 1000 + 4 * m ∨ 1000 + 4 * m + 4 ≤ x → r x = q x) → (i = 0 → r = q) → (1 ≤ i → r (1000 + 4 * m) = q (1000 + 4 * k)) → ZR d 146 60 [some (.ref 75), some (.int (s)), some (.int (iv ((m : Int)))), some (.int (iv ((C : Int)))), some (.int (iv ((k : Int)))), some (.int (iv (1000 + (4 * (k : Int))))), some (.int (iv ((i : Int))))] [] (mh B r a z) Q := by
  intro n
  induction n with
  | zero =>
    intro i r hin ho h0 h1
    refine zr_cut hk_146 rw_146_60 ?_
    refine zr_iload hk_146 rw_146_61 rfl ?_
    refine zi_const hk_146 rw_146_62 (c := 4) rfl ?_
    refine zi_icmp_ge hk_146 rw_146_63 (by unfold inR; omega) (by unfold inR; omega) (fun h63 => ?_) (fun h63 => by omega)
    obtain rfl : i = 4 := by omega
    exact hQ r ho (h1 (by omega))
  | succ n ih =>
    intro i r hin ho h0 h1
    refine zr_cut hk_146 rw_146_60 ?_
    refine zr_iload hk_146 rw_146_61 rfl ?_
    refine zi_const hk_146 rw_146_62 (c := 4) rfl ?_
    refine zi_icmp_ge hk_146 rw_146_63 (by unfold inR; omega) (by unfold inR; omega) (fun h63 => by omega) (fun h63 => ?_)
    refine zr_aload hk_146 rw_146_64 rfl ?_
    refine mz_getf hk_146 hB rw_146_65 rfl ?_
    refine zi_const hk_146 rw_146_66 (c := 1000) rfl ?_
    refine zi_const hk_146 rw_146_67 (c := 4) rfl ?_
    refine zr_iload hk_146 rw_146_68 rfl ?_
    refine zi_mul hk_146 rw_146_69 ?_
    refine zi_add hk_146 rw_146_70 ?_
    refine zr_iload hk_146 rw_146_71 rfl ?_
    refine zi_add hk_146 rw_146_72 ?_
    refine zr_aload hk_146 rw_146_73 rfl ?_
    refine mz_getf hk_146 hB rw_146_74 rfl ?_
    refine zr_iload hk_146 rw_146_75 rfl ?_
    refine zr_iload hk_146 rw_146_76 rfl ?_
    refine zi_add hk_146 rw_146_77 ?_
    refine mz_pld hk_146 hB rw_146_78 (i + 4 * k + 1000) (by omega) (by omega) ?_
    refine mz_pst hk_146 hB rw_146_79 (i + 4 * m + 1000) (by omega) (by omega) ?_
    refine zi_inc hk_146 rw_146_80 rfl rfl inc_1 (lv' := [some (.ref 75), some (.int (s)), some (.int (iv ((m : Int)))), some (.int (iv ((C : Int)))), some (.int (iv ((k : Int)))), some (.int (iv (1000 + (4 * (k : Int))))), some (.int (iv ((i : Int) + 1)))]) rfl ?_
    refine zr_goto hk_146 rw_146_81 ?_
    obtain ⟨g1, g2⟩ := ak_in_step hmk (by omega) ho h0 h1
    exact ih (i + 1) _ (by omega) g1 (fun e => absurd e (by omega)) (fun _ => g2)
theorem ak_loop (hB : 87 ≤ B.length) {T t C : Nat} (hC : C ≤ 240) (hT : t ≤ T) (ha : AckOK p t C) : ∀ (n k m : Nat) (q : Nat → Int32) (s : Int32), k + n = C → m ≤ k → AI p q t C k m → ZR (d + 5) 146 11 [some (.ref 75), some (.int (s)), some (.int (iv ((m : Int)))), some (.int (iv ((C : Int)))), some (.int (iv ((k : Int))))] [] (mh B q a z) (fun v ph' => ∃ q', ph' = mh B q' a z ∧ (∃ x : Int32, v = some (.int x)) ∧ PageS T q' ∧ ∀ i, 2000 ≤ i → q' i = p i) := by
  intro n
  induction n with
  | zero =>
    intro k m q s hkn hmk hI
    obtain rfl : k = C := by omega
    refine zr_cut hk_146 rw_146_11 ?_
    refine zr_iload hk_146 rw_146_12 rfl ?_
    refine zr_iload hk_146 rw_146_13 rfl ?_
    refine zi_icmp_ge hk_146 rw_146_14 (by unfold inR; omega) (by unfold inR; omega) (fun h14 => ?_) (fun h14 => by omega)
    refine zr_aload hk_146 rw_146_85 rfl ?_
    refine mz_getf hk_146 hB rw_146_86 rfl ?_
    refine zi_const hk_146 rw_146_87 (c := 219) rfl ?_
    refine zr_iload hk_146 rw_146_88 rfl ?_
    refine mz_pst hk_146 hB rw_146_89 (219) (by omega) (by omega) ?_
    refine zr_iload hk_146 rw_146_90 rfl ?_
    refine zr_ireturn hk_146 rw_146_91 ?_
    exact ⟨_, rfl, ⟨_, rfl⟩, (AI_end hI hT ha).1, (AI_end hI hT ha).2⟩
  | succ n ih =>
    intro k m q s hkn hmk hI
    refine zr_cut hk_146 rw_146_11 ?_
    refine zr_iload hk_146 rw_146_12 rfl ?_
    refine zr_iload hk_146 rw_146_13 rfl ?_
    refine zi_icmp_ge hk_146 rw_146_14 (by unfold inR; omega) (by unfold inR; omega) (fun h14 => by omega) (fun h14 => ?_)
    refine zi_const hk_146 rw_146_15 (c := 1000) rfl ?_
    refine zi_const hk_146 rw_146_16 (c := 4) rfl ?_
    refine zr_iload hk_146 rw_146_17 rfl ?_
    refine zi_mul hk_146 rw_146_18 ?_
    refine zi_add hk_146 rw_146_19 ?_
    refine zi_istore hk_146 rw_146_20 rfl (lv' := [some (.ref 75), some (.int (s)), some (.int (iv ((m : Int)))), some (.int (iv ((C : Int)))), some (.int (iv ((k : Int)))), some (.int (iv (1000 + (4 * (k : Int)))))]) rfl ?_
    refine zr_aload hk_146 rw_146_21 rfl ?_
    refine mz_getf hk_146 hB rw_146_22 rfl ?_
    refine zr_iload hk_146 rw_146_23 rfl ?_
    refine mz_pld hk_146 hB rw_146_24 (4 * k + 1000) (by omega) (by omega) ?_
    refine zr_aload hk_146 rw_146_25 rfl ?_
    refine mz_getf hk_146 hB rw_146_26 rfl ?_
    refine zi_const hk_146 rw_146_27 (c := 214) rfl ?_
    refine mz_pld hk_146 hB rw_146_28 (214) (by omega) (by omega) ?_
    refine zo_icmp_ne hk_146 rw_146_29 (fun h29 => ?_) (fun h29 => ?_)
    · refine zi_const hk_146 rw_146_58 (c := 0) rfl ?_
      refine zi_istore hk_146 rw_146_59 rfl (lv' := [some (.ref 75), some (.int (s)), some (.int (iv ((m : Int)))), some (.int (iv ((C : Int)))), some (.int (iv ((k : Int)))), some (.int (iv (1000 + (4 * (k : Int))))), some (.int (iv (0)))]) rfl ?_
      refine ak_in hB hmk (by omega) (fun r ho he => ?_) 4 0 q (by omega) (fun _ _ => rfl) (fun _ => rfl) (fun e => absurd e (by omega))
      have hJ := AI_keep hI (by omega) hC hmk (by rw [← hI.2.1, show 1000 + 4 * k = 4 * k + 1000 by omega]; exact h29) ho he
      refine zi_inc hk_146 rw_146_82 rfl rfl inc_1 (lv' := [some (.ref 75), some (.int (s)), some (.int (iv ((m : Int) + 1))), some (.int (iv ((C : Int)))), some (.int (iv ((k : Int)))), some (.int (iv (1000 + (4 * (k : Int))))), some (.int (iv (((4 : Nat) : Int))))]) rfl ?_
      refine zi_inc hk_146 rw_146_83 rfl rfl inc_1 (lv' := [some (.ref 75), some (.int (s)), some (.int (iv ((m : Int) + 1))), some (.int (iv ((C : Int)))), some (.int (iv ((k : Int) + 1))), some (.int (iv (1000 + (4 * (k : Int))))), some (.int (iv (((4 : Nat) : Int))))]) rfl ?_
      refine zr_goto hk_146 rw_146_84 ?_
      exact zr_app (lv := [some (.ref 75), some (.int _), some (.int (iv ((m : Int) + 1))), some (.int (iv (C : Int))), some (.int (iv ((k : Int) + 1)))]) (ex := [some (.int (iv (1000 + (4 * (k : Int))))), some (.int (iv (((4 : Nat) : Int))))]) (ih (k + 1) (m + 1) _ _ (by omega) (by omega) hJ)
    · refine zr_iload hk_146 rw_146_30 rfl ?_
      refine zr_aload hk_146 rw_146_31 rfl ?_
      refine zr_aload hk_146 rw_146_32 rfl ?_
      refine mz_getf hk_146 hB rw_146_33 rfl ?_
      refine zr_iload hk_146 rw_146_34 rfl ?_
      refine zi_const hk_146 rw_146_35 (c := 1) rfl ?_
      refine zi_add hk_146 rw_146_36 ?_
      refine mz_pld hk_146 hB rw_146_37 (4 * k + 1001) (by omega) (by omega) ?_
      refine zr_aload hk_146 rw_146_38 rfl ?_
      refine mz_getf hk_146 hB rw_146_39 rfl ?_
      refine zr_iload hk_146 rw_146_40 rfl ?_
      refine zi_const hk_146 rw_146_41 (c := 2) rfl ?_
      refine zi_add hk_146 rw_146_42 ?_
      refine mz_pld hk_146 hB rw_146_43 (4 * k + 1002) (by omega) (by omega) ?_
      refine zr_aload hk_146 rw_146_44 rfl ?_
      refine mz_getf hk_146 hB rw_146_45 rfl ?_
      refine zr_iload hk_146 rw_146_46 rfl ?_
      refine zi_const hk_146 rw_146_47 (c := 3) rfl ?_
      refine zi_add hk_146 rw_146_48 ?_
      refine mz_pld hk_146 hB rw_146_49 (4 * k + 1003) (by omega) (by omega) ?_
      refine c_comes hk_146 hB rw_146_50 hI.1 (Nat.le_of_ble_eq_true rfl) (fun r hb hm => ?_) (fun r c0 hc0 hm => ?_)
      · have hJ := AI_mild hI (by omega) hb hm
        refine zi_if_eq hk_146 rw_146_51 (by unfold inR; omega) (fun h51 => ?_) (fun h51 => by omega)
        refine zi_const hk_146 rw_146_54 (c := 0) rfl ?_
        refine zr_iadd hk_146 rw_146_55 ?_
        refine zi_istore hk_146 rw_146_56 rfl (lv' := [some (.ref 75), some (.int ((s) + iv (0))), some (.int (iv ((m : Int)))), some (.int (iv ((C : Int)))), some (.int (iv ((k : Int)))), some (.int (iv (1000 + (4 * (k : Int)))))]) rfl ?_
        refine zr_goto hk_146 rw_146_57 ?_
        refine zi_inc hk_146 rw_146_83 rfl rfl inc_1 (lv' := [some (.ref 75), some (.int ((s) + iv (0))), some (.int (iv ((m : Int)))), some (.int (iv ((C : Int)))), some (.int (iv ((k : Int) + 1))), some (.int (iv (1000 + (4 * (k : Int)))))]) rfl ?_
        refine zr_goto hk_146 rw_146_84 ?_
        exact zr_app (lv := [some (.ref 75), some (.int _), some (.int (iv ((m : Int)))), some (.int (iv (C : Int))), some (.int (iv ((k : Int) + 1)))]) (ex := [some (.int (iv (1000 + (4 * (k : Int)))))]) (ih (k + 1) m _ _ (by omega) (by omega) hJ)
      · have hJ := AI_ack hI (by omega) hm
        refine zi_if_eq hk_146 rw_146_51 (by unfold inR; omega) (fun h51 => by omega) (fun h51 => ?_)
        refine zi_const hk_146 rw_146_52 (c := 1) rfl ?_
        refine zr_goto hk_146 rw_146_53 ?_
        refine zr_iadd hk_146 rw_146_55 ?_
        refine zi_istore hk_146 rw_146_56 rfl (lv' := [some (.ref 75), some (.int ((s) + iv (1))), some (.int (iv ((m : Int)))), some (.int (iv ((C : Int)))), some (.int (iv ((k : Int)))), some (.int (iv (1000 + (4 * (k : Int)))))]) rfl ?_
        refine zr_goto hk_146 rw_146_57 ?_
        refine zi_inc hk_146 rw_146_83 rfl rfl inc_1 (lv' := [some (.ref 75), some (.int ((s) + iv (1))), some (.int (iv ((m : Int)))), some (.int (iv ((C : Int)))), some (.int (iv ((k : Int) + 1))), some (.int (iv (1000 + (4 * (k : Int)))))]) rfl ?_
        refine zr_goto hk_146 rw_146_84 ?_
        exact zr_app (lv := [some (.ref 75), some (.int _), some (.int (iv ((m : Int)))), some (.int (iv (C : Int))), some (.int (iv ((k : Int) + 1)))]) (ex := [some (.int (iv (1000 + (4 * (k : Int)))))]) (ih (k + 1) m _ _ (by omega) (by omega) hJ)
theorem acknowledges_ok (d : Nat) (hB : 87 ≤ B.length) {T : Nat} (hP : PageOK T p) : ZC (d + 5) 146 [.ref 75] (mh B p a z) (fun v ph' => ∃ q', ph' = mh B q' a z ∧ (∃ x : Int32, v = some (.int x)) ∧ PageS T q' ∧ ∀ i, 2000 ≤ i → q' i = p i) := by
  obtain ⟨hb, t, C, hT, h214, h219, hac, ha⟩ := hP
  have hI : AI p p t C 0 0 := ⟨hb, h214, h219, fun _ _ _ => rfl, fun _ _ => rfl, fun c hc => by
    obtain ⟨n, n1, n2⟩ := hac c hc
    exact ⟨n, n1, by omega⟩, fun j => j, fun j hj => absurd hj (Nat.not_lt_zero _), fun j hj => absurd hj (Nat.not_lt_zero _)⟩
  refine ZC.of (lv := [some (.ref 75)]) hk_146 (fun i v hv => ?_) ?_
  · match i, hv with
    | 0, hv => cases hv; rfl
    | i + 1, hv => simp at hv
  refine zi_const hk_146 rw_146_0 (c := 0) rfl ?_
  refine zi_istore hk_146 rw_146_1 rfl (lv' := [some (.ref 75), some (.int (iv (0)))]) rfl ?_
  refine zi_const hk_146 rw_146_2 (c := 0) rfl ?_
  refine zi_istore hk_146 rw_146_3 rfl (lv' := [some (.ref 75), some (.int (iv (0))), some (.int (iv (0)))]) rfl ?_
  refine zr_aload hk_146 rw_146_4 rfl ?_
  refine mz_getf hk_146 hB rw_146_5 rfl ?_
  refine zi_const hk_146 rw_146_6 (c := 219) rfl ?_
  refine mz_plde hk_146 hB rw_146_7 (219) (by omega) (by omega) (h219) ?_
  refine zi_istore hk_146 rw_146_8 rfl (lv' := [some (.ref 75), some (.int (iv (0))), some (.int (iv (0))), some (.int (iv ((C : Int))))]) rfl ?_
  refine zi_const hk_146 rw_146_9 (c := 0) rfl ?_
  refine zi_istore hk_146 rw_146_10 rfl (lv' := [some (.ref 75), some (.int (iv (0))), some (.int (iv (0))), some (.int (iv ((C : Int)))), some (.int (iv (0)))]) rfl ?_
  exact ak_loop hB (ack_le ha) hT ha C 0 0 p _ (by omega) (by omega) hI
theorem c_acknowledges (hk : k < 186) (hB : 87 ≤ B.length) {pc b x ix : Nat} {ts : List Nat} (hrow : (codeOf k)[j]? = some (pc, .invokevirtual ix, 146, b, x, 3, ts)) {T : Nat} (hP : PageOK T p) (hcat : catS st ≤ 8) (h : ∀ (q : Nat → Int32) (x : Int32), PageS T q → (∀ i, 2000 ≤ i → q i = p i) → ZR (d + 6) k (j + 1) lv (.int x :: st) (mh B q a z) Q) : ZR (d + 6) k j lv (.ref 75 :: st) (mh B p a z) Q := by
  refine mz_call (L := 7) (n := 0) (as := []) (r := st) hk hB hrow (by decide) (by decide) ⟨rfl, rfl, rfl, rfl⟩ rfl rfl hcat (Nat.le_of_ble_eq_true rfl) (acknowledges_ok d hB hP) ?_
  rintro w ph' ⟨q, rfl, ⟨x, rfl⟩, h1, h2⟩
  exact h q x h1 h2
end MH

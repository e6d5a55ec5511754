/-! ===== by program (wip/gen/gen84.py): first packets are taken away ===== -/
theorem kc64_eq : codeOf 64 = kc64 := rfl
theorem hk_64 : 64 < 186 := by decide
theorem rw_64_0 : (codeOf 64)[0]? = some (0, .iload 2, 2, 0, 0, 1, []) := by rw [kc64_eq]; rfl
theorem rw_64_1 : (codeOf 64)[1]? = some (1, .ifCond .lt 64, 65, 41, 0, 3, []) := by rw [kc64_eq]; rfl
theorem rw_64_2 : (codeOf 64)[2]? = some (4, .iload 2, 2, 0, 0, 1, []) := by rw [kc64_eq]; rfl
theorem rw_64_3 : (codeOf 64)[3]? = some (5, .iload 1, 1, 0, 0, 1, []) := by rw [kc64_eq]; rfl
theorem rw_64_4 : (codeOf 64)[4]? = some (6, .if_icmp .ge 59, 65, 41, 0, 3, []) := by rw [kc64_eq]; rfl
theorem rw_64_5 : (codeOf 64)[5]? = some (9, .iload 1, 1, 0, 0, 1, []) := by rw [kc64_eq]; rfl
theorem rw_64_6 : (codeOf 64)[6]? = some (10, .aload 0, 0, 0, 3, 1, []) := by rw [kc64_eq]; rfl
theorem rw_64_7 : (codeOf 64)[7]? = some (11, .getfield 28, 5, 4, 0, 3, []) := by rw [kc64_eq]; rfl
theorem rw_64_8 : (codeOf 64)[8]? = some (14, .if_icmp .ge 51, 65, 41, 0, 3, []) := by rw [kc64_eq]; rfl
theorem rw_64_9 : (codeOf 64)[9]? = some (17, .aload 0, 0, 0, 3, 1, []) := by rw [kc64_eq]; rfl
theorem rw_64_10 : (codeOf 64)[10]? = some (18, .getfield 13, 5, 0, 3, 3, []) := by rw [kc64_eq]; rfl
theorem rw_64_11 : (codeOf 64)[11]? = some (21, .iload 2, 2, 0, 0, 1, []) := by rw [kc64_eq]; rfl
theorem rw_64_12 : (codeOf 64)[12]? = some (22, .aload 0, 0, 0, 3, 1, []) := by rw [kc64_eq]; rfl
theorem rw_64_13 : (codeOf 64)[13]? = some (23, .getfield 13, 5, 0, 3, 3, []) := by rw [kc64_eq]; rfl
theorem rw_64_14 : (codeOf 64)[14]? = some (26, .iload 1, 1, 0, 0, 1, []) := by rw [kc64_eq]; rfl
theorem rw_64_15 : (codeOf 64)[15]? = some (27, .iaload, 0, 0, 0, 1, []) := by rw [kc64_eq]; rfl
theorem rw_64_16 : (codeOf 64)[16]? = some (28, .iastore, 0, 0, 0, 1, []) := by rw [kc64_eq]; rfl
theorem rw_64_17 : (codeOf 64)[17]? = some (29, .aload 0, 0, 0, 3, 1, []) := by rw [kc64_eq]; rfl
theorem rw_64_18 : (codeOf 64)[18]? = some (30, .getfield 19, 5, 1, 3, 3, []) := by rw [kc64_eq]; rfl
theorem rw_64_19 : (codeOf 64)[19]? = some (33, .iload 2, 2, 0, 0, 1, []) := by rw [kc64_eq]; rfl
theorem rw_64_20 : (codeOf 64)[20]? = some (34, .aload 0, 0, 0, 3, 1, []) := by rw [kc64_eq]; rfl
theorem rw_64_21 : (codeOf 64)[21]? = some (35, .getfield 19, 5, 1, 3, 3, []) := by rw [kc64_eq]; rfl
theorem rw_64_22 : (codeOf 64)[22]? = some (38, .iload 1, 1, 0, 0, 1, []) := by rw [kc64_eq]; rfl
theorem rw_64_23 : (codeOf 64)[23]? = some (39, .iaload, 0, 0, 0, 1, []) := by rw [kc64_eq]; rfl
theorem rw_64_24 : (codeOf 64)[24]? = some (40, .iastore, 0, 0, 0, 1, []) := by rw [kc64_eq]; rfl
theorem rw_64_25 : (codeOf 64)[25]? = some (41, .aload 0, 0, 0, 3, 1, []) := by rw [kc64_eq]; rfl
theorem rw_64_26 : (codeOf 64)[26]? = some (42, .getfield 22, 5, 2, 3, 3, []) := by rw [kc64_eq]; rfl
theorem rw_64_27 : (codeOf 64)[27]? = some (45, .iload 2, 2, 0, 0, 1, []) := by rw [kc64_eq]; rfl
theorem rw_64_28 : (codeOf 64)[28]? = some (46, .aload 0, 0, 0, 3, 1, []) := by rw [kc64_eq]; rfl
theorem rw_64_29 : (codeOf 64)[29]? = some (47, .getfield 22, 5, 2, 3, 3, []) := by rw [kc64_eq]; rfl
theorem rw_64_30 : (codeOf 64)[30]? = some (50, .iload 1, 1, 0, 0, 1, []) := by rw [kc64_eq]; rfl
theorem rw_64_31 : (codeOf 64)[31]? = some (51, .iaload, 0, 0, 0, 1, []) := by rw [kc64_eq]; rfl
theorem rw_64_32 : (codeOf 64)[32]? = some (52, .iastore, 0, 0, 0, 1, []) := by rw [kc64_eq]; rfl
theorem rw_64_33 : (codeOf 64)[33]? = some (53, .aload 0, 0, 0, 3, 1, []) := by rw [kc64_eq]; rfl
theorem rw_64_34 : (codeOf 64)[34]? = some (54, .getfield 25, 5, 3, 3, 3, []) := by rw [kc64_eq]; rfl
theorem rw_64_35 : (codeOf 64)[35]? = some (57, .iload 2, 2, 0, 0, 1, []) := by rw [kc64_eq]; rfl
theorem rw_64_36 : (codeOf 64)[36]? = some (58, .aload 0, 0, 0, 3, 1, []) := by rw [kc64_eq]; rfl
theorem rw_64_37 : (codeOf 64)[37]? = some (59, .getfield 25, 5, 3, 3, 3, []) := by rw [kc64_eq]; rfl
theorem rw_64_38 : (codeOf 64)[38]? = some (62, .iload 1, 1, 0, 0, 1, []) := by rw [kc64_eq]; rfl
theorem rw_64_39 : (codeOf 64)[39]? = some (63, .iaload, 0, 0, 0, 1, []) := by rw [kc64_eq]; rfl
theorem rw_64_40 : (codeOf 64)[40]? = some (64, .iastore, 0, 0, 0, 1, []) := by rw [kc64_eq]; rfl
theorem rw_64_41 : (codeOf 64)[41]? = some (65, .return_, 0, 0, 0, 1, []) := by rw [kc64_eq]; rfl
theorem kc68_eq : codeOf 68 = kc68 := rfl
theorem hk_68 : 68 < 186 := by decide
theorem rw_68_0 : (codeOf 68)[0]? = some (0, .iload 1, 1, 0, 0, 1, []) := by rw [kc68_eq]; rfl
theorem rw_68_1 : (codeOf 68)[1]? = some (1, .aload 0, 0, 0, 3, 1, []) := by rw [kc68_eq]; rfl
theorem rw_68_2 : (codeOf 68)[2]? = some (2, .getfield 18, 8, 2, 0, 3, []) := by rw [kc68_eq]; rfl
theorem rw_68_3 : (codeOf 68)[3]? = some (5, .invokestatic 28, 38, 0, 0, 3, []) := by rw [kc68_eq]; rfl
theorem rw_68_4 : (codeOf 68)[4]? = some (8, .istore 2, 2, 0, 0, 1, []) := by rw [kc68_eq]; rfl
theorem rw_68_5 : (codeOf 68)[5]? = some (9, .aload 0, 0, 0, 3, 1, []) := by rw [kc68_eq]; rfl
theorem rw_68_6 : (codeOf 68)[6]? = some (10, .getfield 9, 8, 0, 3, 3, []) := by rw [kc68_eq]; rfl
theorem rw_68_7 : (codeOf 68)[7]? = some (13, .iload 2, 2, 0, 0, 1, []) := by rw [kc68_eq]; rfl
theorem rw_68_8 : (codeOf 68)[8]? = some (14, .aload 0, 0, 0, 3, 1, []) := by rw [kc68_eq]; rfl
theorem rw_68_9 : (codeOf 68)[9]? = some (15, .getfield 9, 8, 0, 3, 3, []) := by rw [kc68_eq]; rfl
theorem rw_68_10 : (codeOf 68)[10]? = some (18, .iconst 0, 2147483648, 0, 0, 1, []) := by rw [kc68_eq]; rfl
theorem rw_68_11 : (codeOf 68)[11]? = some (19, .aload 0, 0, 0, 3, 1, []) := by rw [kc68_eq]; rfl
theorem rw_68_12 : (codeOf 68)[12]? = some (20, .getfield 18, 8, 2, 0, 3, []) := by rw [kc68_eq]; rfl
theorem rw_68_13 : (codeOf 68)[13]? = some (23, .iload 2, 2, 0, 0, 1, []) := by rw [kc68_eq]; rfl
theorem rw_68_14 : (codeOf 68)[14]? = some (24, .isub, 0, 0, 0, 1, []) := by rw [kc68_eq]; rfl
theorem rw_68_15 : (codeOf 68)[15]? = some (25, .swap, 0, 0, 0, 3, []) := by rw [kc68_eq]; rfl
theorem rw_68_16 : (codeOf 68)[16]? = some (28, .aload 0, 0, 0, 3, 1, []) := by rw [kc68_eq]; rfl
theorem rw_68_17 : (codeOf 68)[17]? = some (29, .getfield 15, 8, 1, 3, 3, []) := by rw [kc68_eq]; rfl
theorem rw_68_18 : (codeOf 68)[18]? = some (32, .iload 2, 2, 0, 0, 1, []) := by rw [kc68_eq]; rfl
theorem rw_68_19 : (codeOf 68)[19]? = some (33, .aload 0, 0, 0, 3, 1, []) := by rw [kc68_eq]; rfl
theorem rw_68_20 : (codeOf 68)[20]? = some (34, .getfield 15, 8, 1, 3, 3, []) := by rw [kc68_eq]; rfl
theorem rw_68_21 : (codeOf 68)[21]? = some (37, .iconst 0, 2147483648, 0, 0, 1, []) := by rw [kc68_eq]; rfl
theorem rw_68_22 : (codeOf 68)[22]? = some (38, .aload 0, 0, 0, 3, 1, []) := by rw [kc68_eq]; rfl
theorem rw_68_23 : (codeOf 68)[23]? = some (39, .getfield 18, 8, 2, 0, 3, []) := by rw [kc68_eq]; rfl
theorem rw_68_24 : (codeOf 68)[24]? = some (42, .iload 2, 2, 0, 0, 1, []) := by rw [kc68_eq]; rfl
theorem rw_68_25 : (codeOf 68)[25]? = some (43, .isub, 0, 0, 0, 1, []) := by rw [kc68_eq]; rfl
theorem rw_68_26 : (codeOf 68)[26]? = some (44, .swap, 0, 0, 0, 3, []) := by rw [kc68_eq]; rfl
theorem rw_68_27 : (codeOf 68)[27]? = some (47, .aload 0, 0, 0, 3, 1, []) := by rw [kc68_eq]; rfl
theorem rw_68_28 : (codeOf 68)[28]? = some (48, .dup, 0, 0, 0, 1, []) := by rw [kc68_eq]; rfl
theorem rw_68_29 : (codeOf 68)[29]? = some (49, .getfield 18, 8, 2, 0, 3, []) := by rw [kc68_eq]; rfl
theorem rw_68_30 : (codeOf 68)[30]? = some (52, .iload 2, 2, 0, 0, 1, []) := by rw [kc68_eq]; rfl
theorem rw_68_31 : (codeOf 68)[31]? = some (53, .isub, 0, 0, 0, 1, []) := by rw [kc68_eq]; rfl
theorem rw_68_32 : (codeOf 68)[32]? = some (54, .putfield 18, 8, 2, 0, 3, []) := by rw [kc68_eq]; rfl
theorem rw_68_33 : (codeOf 68)[33]? = some (57, .return_, 0, 0, 0, 1, []) := by rw [kc68_eq]; rfl
theorem kc90_eq : codeOf 90 = kc90 := rfl
theorem hk_90 : 90 < 186 := by decide
theorem rw_90_0 : (codeOf 90)[0]? = some (0, .iload 1, 1, 0, 0, 1, []) := by rw [kc90_eq]; rfl
theorem rw_90_1 : (codeOf 90)[1]? = some (1, .aload 0, 0, 0, 3, 1, []) := by rw [kc90_eq]; rfl
theorem rw_90_2 : (codeOf 90)[2]? = some (2, .getfield 28, 5, 4, 0, 3, []) := by rw [kc90_eq]; rfl
theorem rw_90_3 : (codeOf 90)[3]? = some (5, .invokestatic 32, 38, 0, 0, 3, []) := by rw [kc90_eq]; rfl
theorem rw_90_4 : (codeOf 90)[4]? = some (8, .istore 2, 2, 0, 0, 1, []) := by rw [kc90_eq]; rfl
theorem rw_90_5 : (codeOf 90)[5]? = some (9, .iload 2, 2, 0, 0, 1, []) := by rw [kc90_eq]; rfl
theorem rw_90_6 : (codeOf 90)[6]? = some (10, .istore 3, 3, 0, 0, 1, []) := by rw [kc90_eq]; rfl
theorem rw_90_7 : (codeOf 90)[7]? = some (11, .monitorexit, 720, 0, 0, 0, []) := by rw [kc90_eq]; rfl
theorem rw_90_8 : (codeOf 90)[8]? = some (11, .iload 3, 3, 0, 0, 1, []) := by rw [kc90_eq]; rfl
theorem rw_90_9 : (codeOf 90)[9]? = some (12, .aload 0, 0, 0, 3, 1, []) := by rw [kc90_eq]; rfl
theorem rw_90_10 : (codeOf 90)[10]? = some (13, .getfield 28, 5, 4, 0, 3, []) := by rw [kc90_eq]; rfl
theorem rw_90_11 : (codeOf 90)[11]? = some (16, .if_icmp .ge 17, 33, 20, 0, 3, []) := by rw [kc90_eq]; rfl
theorem rw_90_12 : (codeOf 90)[12]? = some (19, .aload 0, 0, 0, 3, 1, []) := by rw [kc90_eq]; rfl
theorem rw_90_13 : (codeOf 90)[13]? = some (20, .iload 3, 3, 0, 0, 1, []) := by rw [kc90_eq]; rfl
theorem rw_90_14 : (codeOf 90)[14]? = some (21, .iload 3, 3, 0, 0, 1, []) := by rw [kc90_eq]; rfl
theorem rw_90_15 : (codeOf 90)[15]? = some (22, .iload 2, 2, 0, 0, 1, []) := by rw [kc90_eq]; rfl
theorem rw_90_16 : (codeOf 90)[16]? = some (23, .isub, 0, 0, 0, 1, []) := by rw [kc90_eq]; rfl
theorem rw_90_17 : (codeOf 90)[17]? = some (24, .invokevirtual 41, 64, 0, 0, 3, []) := by rw [kc90_eq]; rfl
theorem rw_90_18 : (codeOf 90)[18]? = some (27, .iinc 3 1, 3, 1, 0, 3, []) := by rw [kc90_eq]; rfl
theorem rw_90_19 : (codeOf 90)[19]? = some (30, .goto (-19), 11, 7, 0, 3, []) := by rw [kc90_eq]; rfl
theorem rw_90_20 : (codeOf 90)[20]? = some (33, .aload 0, 0, 0, 3, 1, []) := by rw [kc90_eq]; rfl
theorem rw_90_21 : (codeOf 90)[21]? = some (34, .dup, 0, 0, 0, 1, []) := by rw [kc90_eq]; rfl
theorem rw_90_22 : (codeOf 90)[22]? = some (35, .getfield 28, 5, 4, 0, 3, []) := by rw [kc90_eq]; rfl
theorem rw_90_23 : (codeOf 90)[23]? = some (38, .iload 2, 2, 0, 0, 1, []) := by rw [kc90_eq]; rfl
theorem rw_90_24 : (codeOf 90)[24]? = some (39, .isub, 0, 0, 0, 1, []) := by rw [kc90_eq]; rfl
theorem rw_90_25 : (codeOf 90)[25]? = some (40, .putfield 28, 5, 4, 0, 3, []) := by rw [kc90_eq]; rfl
theorem rw_90_26 : (codeOf 90)[26]? = some (43, .return_, 0, 0, 0, 1, []) := by rw [kc90_eq]; rfl
theorem z_arr {GI : PH → Prop} (hG : GOK GI) {mk a t n lo hi : Nat} {f g : Nat → Int32} {ph : PH} (hW : WT ph) (hI : GI ph) (h1 : 1 ≤ a) (ha : psi a = t) (ht : tyT[t]? = some (.inl (n, [], lo, hi))) (hb : Nat.testBit mk t = true) (hc : ph[a]? = some (.inl (n, f))) : WT (ph.set a (.inl (n, g))) ∧ GI (ph.set a (.inl (n, g))) ∧ Fr mk ph (ph.set a (.inl (n, g))) := by
  have ho : okSet (psi a) (.inl (n, f)) (.inl (n, g)) := by
    unfold okSet
    rw [ha, ht]
    exact ⟨f, g, rfl, rfl, Or.inl rfl⟩
  refine ⟨hW.set (List.getElem?_eq_some_iff.mp hc).1 (fun T hT => ?_), hG _ _ _ _ hW hI h1 hc ho, Fr_set hc (by rw [ha]; exact hb) ho⟩
  rw [ha, ht] at hT
  cases hT
  exact ⟨g, rfl, fun i p hp => by simp at hp⟩
theorem fit_nat {z : Int32} {lo hi m : Nat} (h1 : lo ≤ cI' z) (h2 : cI' z ≤ hi) (hlo : lo = 2147483648) (hhi : hi = 2147483648 + m) : ∃ k : Nat, z = iv (k : Int) ∧ k ≤ m := by
  have h := cI_toInt z
  refine ⟨z.toInt.toNat, ?_, by omega⟩
  rw [show ((z.toInt.toNat : Nat) : Int) = z.toInt by omega]
  exact iv_of z
theorem nat_fit {len k lo hi : Nat} (h1 : lo ≤ 2147483648 + k) (h2 : 2147483648 + k ≤ hi) (hk : k < 2147483648) : fitT len (0, lo, hi) (.int (iv (k : Int))) := by
  have h := cI_toInt (iv (k : Int))
  rw [iv_toInt (by unfold inR; omega)] at h
  exact ⟨_, rfl, by omega, by omega⟩
theorem cl_nat {e : Int} {i : Nat} (he : e = (i : Int)) (hi : i < 2147483648) : 0 ≤ iv e ∧ (iv e).toNatClampNeg = i := iv_clamp he hi
section ZG
variable {d k j : Nat} {lv : List (Option Value)} {st : List Value} {ph : PH} {Q : Option Value → PH → Prop} {GI : PH → Prop}
theorem zr_aldG (hk : k < 186) {pc c b x A t n lo hi : Nat} {e : Int} {ts : List Nat} (hrow : (codeOf k)[j]? = some (pc, .iaload, c, b, x, 1, ts)) (hW : WT ph) (h1 : 1 ≤ A) (hl : A < ph.length) (hp : psi A = t) (ht : tyT[t]? = some (.inl (n, [], lo, hi))) (i : Nat) (he : e = (i : Int)) (hi2 : i < n) (hn : n < 20000) (h : ∀ y : Int32, ZR d k (j + 1) lv (.int y :: st) ph Q) : ZR d k j lv (.int (iv e) :: .ref A :: st) ph Q := by
  obtain ⟨c', hc, f, rfl, -⟩ := hW.get h1 hl hp ht
  exact mz_ald hk hc hrow i he hi2 hn (h _)
theorem zr_astG (hG : GOK GI) (mk : Nat) (hk : k < 186) {pc c b x A t n lo hi : Nat} {e : Int} {y : Int32} {ts : List Nat} (hrow : (codeOf k)[j]? = some (pc, .iastore, c, b, x, 1, ts)) (hW : WT ph) (hI : GI ph) (h1 : 2 ≤ A) (hl : A < ph.length) (hp : psi A = t) (ht : tyT[t]? = some (.inl (n, [], lo, hi))) (hb : Nat.testBit mk t = true) (i : Nat) (he : e = (i : Int)) (hi2 : i < n) (hn : n < 20000)
    (h : ∀ ph', WT ph' → GI ph' → Fr mk ph ph' → ph'.length = ph.length → (∀ x, x ≠ A → ph'[x]? = ph[x]?) → ZR d k (j + 1) lv st ph' Q) : ZR d k j lv (.int y :: .int (iv e) :: .ref A :: st) ph Q := by
  obtain ⟨c', hc, f, rfl, -⟩ := hW.get (by omega) hl hp ht
  refine mz_ast hk hc h1 hrow i he hi2 hn rfl ?_
  obtain ⟨a1, a2, a3⟩ := z_arr hG (mk := mk) (g := upd f i y) hW hI (by omega) hp ht hb hc
  exact h _ a1 a2 a3 List.length_set (fun x hx => List.getElem?_set_ne (fun z => hx z.symm))
theorem zr_cpyG (hG : GOK GI) (mk : Nat) (hk : k < 186) {pc c b x v w t u n0 n1 lo hi lo1 hi1 : Nat} {se de ne : Int} {ts : List Nat} (hrow : (codeOf k)[j]? = some (pc, .swap, c, b, x, 3, ts)) (hd1 : 1 ≤ d) (hW : WT ph) (hI : GI ph) (h1 : 2 ≤ v) (hl : v < ph.length) (hp : psi v = t) (ht : tyT[t]? = some (.inl (n0, [], lo, hi))) (h2 : 2 ≤ w) (hl2 : w < ph.length) (hp2 : psi w = u) (hu : tyT[u]? = some (.inl (n1, [], lo1, hi1))) (hb : Nat.testBit mk u = true) (s1 d1 m1 : Nat) (hs : se = (s1 : Int)) (hd : de = (d1 : Int)) (hm : ne = (m1 : Int)) (h7 : s1 + m1 ≤ n0) (h8 : d1 + m1 ≤ n1) (h9 : n0 < 20000) (h10 : n1 < 20000) (hr : catS st ≤ 8)
    (h : ∀ ph', WT ph' → GI ph' → Fr mk ph ph' → ph'.length = ph.length → (∀ x, x ≠ w → ph'[x]? = ph[x]?) → ZR d k (j + 1) lv st ph' Q) : ZR d k j lv (.int (iv ne) :: .int (iv de) :: .ref w :: .int (iv se) :: .ref v :: st) ph Q := by
  obtain ⟨c1, hc1, f, rfl, -⟩ := hW.get (by omega) hl hp ht
  obtain ⟨c2, hc2, g, rfl, -⟩ := hW.get (by omega) hl2 hp2 hu
  obtain ⟨a1, a2⟩ := cl_nat hs (by omega)
  obtain ⟨b1, b2⟩ := cl_nat hd (by omega)
  obtain ⟨e1, e2⟩ := cl_nat hm (by omega)
  refine zr_copy hk hrow hd1 hc1 hc2 h1 h2 a1 b1 e1 (by rw [a2, e2]; exact h7) (by rw [b2, e2]; exact h8) hr ?_
  generalize va_cpy f g (iv se).toNatClampNeg (iv de).toNatClampNeg (iv ne).toNatClampNeg = g'
  obtain ⟨a1, a2, a3⟩ := z_arr hG (mk := mk) (g := g') hW hI (by omega) hp2 hu hb hc2
  exact h _ a1 a2 a3 List.length_set (fun x hx => List.getElem?_set_ne (fun z => hx z.symm))
theorem zr_putG (hG : GOK GI) (mk : Nat) (hk : k < 186) {pc b ix v t ci : Nat} {fs : List Value} {fts : List FT} {p : FT} {y : Int32} {ts : List Nat} (hrow : (codeOf k)[j]? = some (pc, .putfield ix, ci, b, 0, 3, ts)) (hW : WT ph) (hI : GI ph) (h1 : 2 ≤ v) (hv : ph[v]? = some (.inr (.inr (ci, fs)))) (hp : psi v = t) (ht : tyT[t]? = some (.inr (.inr (ci, fts)))) (hfb : fts[b]? = some p) (hfit : fitT ph.length p (.int y)) (hpr : prW t b = false) (hb : Nat.testBit mk t = true)
    (h : WT (ph.set v (.inr (.inr (ci, fs.set b (.int y))))) → GI (ph.set v (.inr (.inr (ci, fs.set b (.int y))))) → Fr mk ph (ph.set v (.inr (.inr (ci, fs.set b (.int y))))) → ZR d k (j + 1) lv st (ph.set v (.inr (.inr (ci, fs.set b (.int y))))) Q) : ZR d k j lv (.int y :: .ref v :: st) ph Q := by
  have hlt := (List.getElem?_eq_some_iff.mp hv).1
  obtain ⟨c, hc, fs', e0, hlen, hfs⟩ := hW.get (by omega) hlt hp ht
  rw [hv] at hc
  cases hc
  cases e0
  have hbl : b < fs.length := by rw [hlen]; exact (List.getElem?_eq_some_iff.mp hfb).1
  have ho : okSet (psi v) (.inr (.inr (ci, fs))) (.inr (.inr (ci, fs.set b (.int y)))) := by
    unfold okSet
    rw [hp, ht]
    exact ⟨fs, b, _, rfl, rfl, hpr⟩
  refine zr_putI hk hrow hv h1 hbl (h (hW.set hlt (fun T hT => ?_)) (hG _ _ _ _ hW hI (by omega) hv ho) (Fr_set hv (by rw [hp]; exact hb) ho))
  rw [hp, ht] at hT
  cases hT
  refine ⟨_, rfl, by rw [List.length_set]; exact hlen, fun i q hq => ?_⟩
  by_cases e : b = i
  · subst e
    rw [hfb] at hq
    cases hq
    exact ⟨_, List.getElem?_set_self hbl, hfit⟩
  · rw [List.getElem?_set_ne e]
    exact hfs i q hq
end ZG
theorem ty_20 : tyT[20]? = some (.inr (.inr (8, [(2, 21, 0), (2, 21, 0), (0, 2147483648, 2147483712)]))) := rfl
theorem ty_21 : tyT[21]? = some (.inl (64, [], 0, 0)) := rfl
theorem ty_13 : tyT[13]? = some (.inr (.inr (5, [(2, 14, 0), (2, 14, 0), (2, 14, 0), (2, 14, 0), (0, 2147483648, 2147483708)]))) := rfl
theorem ty_14 : tyT[14]? = some (.inl (60, [], 0, 0)) := rfl
theorem min_iv {s n : Nat} (hs : s < 100000) (hn : n < 100000) : ∃ g : Nat, (if iv (s : Int) < iv (n : Int) then iv (s : Int) else iv (n : Int)) = iv (g : Int) ∧ g ≤ s ∧ g ≤ n := by
  by_cases h : s < n
  · exact ⟨s, by rw [if_pos ((iv_lt (by unfold inR; omega) (by unfold inR; omega)).mpr (by omega))], by omega, by omega⟩
  · exact ⟨n, by rw [if_neg (fun z => h (by have := (iv_lt (a := (s : Int)) (b := (n : Int)) (by unfold inR; omega) (by unfold inR; omega)).mp z; omega))], by omega, by omega⟩
theorem fr_ne {r v a b : Nat} (h1 : psi r = a) (h2 : psi v = b) (h : a ≠ b) : v ≠ r := fun e => h (by rw [← h1, ← h2, e])
set_option maxHeartbeats 1000000 in
theorem fl_remove {GI : PH → Prop} (hG : GOK GI) : CtH GI 68 ([(2, 20, 0), (0, 2147483648, 2147483712)], [none], 3145728, 1) := by
  intro d ph as hd hW hGI hf
  match as, hf with
  | [v0, n0], ⟨⟨v, hv, v1, v2, v3⟩, ⟨n, hn, n1, n2⟩, _⟩ =>
    subst hv
    subst hn
    obtain ⟨n, rfl, hn⟩ := fit_nat (m := 64) n1 n2 rfl rfl
    obtain ⟨c, hc, fs, rfl, hlen, hfs⟩ := hW.get v1 v2 v3 ty_20
    obtain ⟨x1, e1, q1, rfl, q2, q3, q4⟩ := hfs 0 _ rfl
    obtain ⟨x2, e2, q5, rfl, q6, q7, q8⟩ := hfs 1 _ rfl
    obtain ⟨x3, e3, s, rfl, s1, s2⟩ := hfs 2 _ rfl
    obtain ⟨s, rfl, hs⟩ := fit_nat (m := 64) s1 s2 rfl rfl
    have hv2 : 2 ≤ v := two_le v1 (by rw [v3]; decide)
    have ha1 : 2 ≤ q1 := two_le q2 (by rw [q4]; decide)
    have ha2 : 2 ≤ q5 := two_le q6 (by rw [q8]; decide)
    obtain ⟨g, hg0, g1, g2⟩ := min_iv (s := s) (n := n) (by omega) (by omega)
    obtain ⟨d, rfl⟩ : ∃ d', d = d' + 1 := ⟨d - 1, by have : 1 ≤ d := hd; omega⟩
    have hz : ZC (d + 1) 68 [.ref v, .int (iv (n : Int))] ph (fun w ph' => w = none ∧ WT ph' ∧ GI ph' ∧ Fr 3145728 ph ph') := by
      refine ZC.of (lv := [some (.ref v), some (.int (iv (n : Int)))]) (by decide) (fun i v hv => ?_) ?_
      · match i, hv with
        | 0, hv => cases hv; rfl
        | 1, hv => cases hv; rfl
        | i + 2, hv => simp at hv
      refine zr_iload hk_68 rw_68_0 rfl ?_
      refine zr_aload hk_68 rw_68_1 rfl ?_
      refine zr_getfield hk_68 rw_68_2 hc hv2 e3 ?_
      refine zr_static (L := 2) (n := 2) (as := [.int (iv (n : Int)), .int (iv (s : Int))]) (r := []) hk_68 rw_68_3 (by decide) (by decide) ⟨rfl, rfl, rfl⟩ rfl rfl (by decide) (Nat.le_refl 2) (min_ok d _ _ ph) ?_
      rintro w ph' ⟨rfl, rfl⟩
      rw [hg0]
      refine zi_istore hk_68 rw_68_4 rfl (lv' := [some (.ref v), some (.int (iv (n : Int))), some (.int (iv (g : Int)))]) rfl ?_
      refine zr_aload hk_68 rw_68_5 rfl ?_
      refine zr_getfield hk_68 rw_68_6 hc hv2 e1 ?_
      refine zr_iload hk_68 rw_68_7 rfl ?_
      refine zr_aload hk_68 rw_68_8 rfl ?_
      refine zr_getfield hk_68 rw_68_9 hc hv2 e1 ?_
      refine zi_const hk_68 rw_68_10 (c := 0) rfl ?_
      refine zr_aload hk_68 rw_68_11 rfl ?_
      refine zr_getfield hk_68 rw_68_12 hc hv2 e3 ?_
      refine zr_iload hk_68 rw_68_13 rfl ?_
      refine zi_sub hk_68 rw_68_14 ?_
      refine zr_cpyG hG 3145728 hk_68 rw_68_15 (by omega) hW hGI ha1 q3 q4 ty_21 ha1 q3 q4 ty_21 (by decide) g 0 (s - g) rfl rfl (by omega) (by omega) (by omega) (by decide) (by decide) (by decide) (fun ph1 W1 I1 F1 l1 s1 => ?_)
      have hc1 : ph1[v]? = some (.inr (.inr (8, fs))) := (s1 v (fr_ne q4 v3 (by decide))).trans hc
      refine zr_aload hk_68 rw_68_16 rfl ?_
      refine zr_getfield hk_68 rw_68_17 hc1 hv2 e2 ?_
      refine zr_iload hk_68 rw_68_18 rfl ?_
      refine zr_aload hk_68 rw_68_19 rfl ?_
      refine zr_getfield hk_68 rw_68_20 hc1 hv2 e2 ?_
      refine zi_const hk_68 rw_68_21 (c := 0) rfl ?_
      refine zr_aload hk_68 rw_68_22 rfl ?_
      refine zr_getfield hk_68 rw_68_23 hc1 hv2 e3 ?_
      refine zr_iload hk_68 rw_68_24 rfl ?_
      refine zi_sub hk_68 rw_68_25 ?_
      refine zr_cpyG hG 3145728 hk_68 rw_68_26 (by omega) W1 I1 ha2 (by rw [l1]; exact q7) q8 ty_21 ha2 (by rw [l1]; exact q7) q8 ty_21 (by decide) g 0 (s - g) rfl rfl (by omega) (by omega) (by omega) (by decide) (by decide) (by decide) (fun ph2 W2 I2 F2 l2 s2 => ?_)
      have hc2 : ph2[v]? = some (.inr (.inr (8, fs))) := (s2 v (fr_ne q8 v3 (by decide))).trans hc1
      refine zr_aload hk_68 rw_68_27 rfl ?_
      refine zr_dup hk_68 rw_68_28 rfl ?_
      refine zr_getfield hk_68 rw_68_29 hc2 hv2 e3 ?_
      refine zr_iload hk_68 rw_68_30 rfl ?_
      refine zi_sub hk_68 rw_68_31 ?_
      rw [show ((s : Int) - (g : Int)) = ((s - g : Nat) : Int) by omega]
      refine zr_putG hG 3145728 hk_68 rw_68_32 W2 I2 hv2 hc2 v3 ty_20 rfl (nat_fit (by omega) (by omega) (by omega)) (by decide) (by decide) (fun W3 I3 F3 => ?_)
      exact zr_return (a := 0) hk_68 rw_68_33 ⟨rfl, W3, I3, (F1.trans F2).trans F3⟩
    obtain ⟨m, w, ph', nc, ns, r1, rfl, r2, r3, r4⟩ := hz
    exact ⟨m, none, ph', nc, ns, r1, r2, r3, r4, none, List.mem_cons_self, trivial⟩
theorem move_ok {GI : PH → Prop} (hG : GOK GI) (d : Nat) {ph : PH} {v i t s : Nat} {fs : List Value} (hW : WT ph) (hGI : GI ph) (v1 : 1 ≤ v) (v2 : v < ph.length) (v3 : psi v = 13) (hc : ph[v]? = some (.inr (.inr (5, fs)))) (e4 : fs[4]? = some (.int (iv (s : Int)))) (hs : s ≤ 60) (hi : i < 1000) (ht : t < 1000) : ZC d 64 [.ref v, .int (iv (i : Int)), .int (iv (t : Int))] ph (fun w ph' => w = none ∧ WT ph' ∧ GI ph' ∧ Fr 24576 ph ph' ∧ ph'[v]? = ph[v]?) := by
  have hv2 : 2 ≤ v := two_le v1 (by rw [v3]; decide)
  obtain ⟨c', hc', fs', ec, hlen, hfs⟩ := hW.get v1 v2 v3 ty_13
  rw [hc] at hc'
  cases hc'
  cases ec
  obtain ⟨x0, e0, a0, rfl, q0a, q0b, q0c⟩ := hfs 0 _ rfl
  obtain ⟨x1, e1, a1, rfl, q1a, q1b, q1c⟩ := hfs 1 _ rfl
  obtain ⟨x2, e2, a2, rfl, q2a, q2b, q2c⟩ := hfs 2 _ rfl
  obtain ⟨x3, e3, a3, rfl, q3a, q3b, q3c⟩ := hfs 3 _ rfl
  refine ZC.of (lv := [some (.ref v), some (.int (iv (i : Int))), some (.int (iv (t : Int)))]) hk_64 (fun i v hv => ?_) ?_
  · match i, hv with
    | 0, hv => cases hv; rfl
    | 1, hv => cases hv; rfl
    | 2, hv => cases hv; rfl
    | i + 3, hv => simp at hv
  refine zr_iload hk_64 rw_64_0 rfl ?_
  refine zi_if_lt hk_64 rw_64_1 (by unfold inR; omega) (fun h => by omega) (fun h1 => ?_)
  refine zr_iload hk_64 rw_64_2 rfl ?_
  refine zr_iload hk_64 rw_64_3 rfl ?_
  refine zi_icmp_ge hk_64 rw_64_4 (by unfold inR; omega) (by unfold inR; omega) (fun h => ?_) (fun h4 => ?_)
  · exact zr_return (j := 41) (a := 0) hk_64 rw_64_41 ⟨rfl, hW, hGI, Fr.rfl' _ _, rfl⟩
  refine zr_iload hk_64 rw_64_5 rfl ?_
  refine zr_aload hk_64 rw_64_6 rfl ?_
  refine zr_getfield hk_64 rw_64_7 hc hv2 e4 ?_
  refine zi_icmp_ge hk_64 rw_64_8 (by unfold inR; omega) (by unfold inR; omega) (fun h => ?_) (fun h8 => ?_)
  · exact zr_return (j := 41) (a := 0) hk_64 rw_64_41 ⟨rfl, hW, hGI, Fr.rfl' _ _, rfl⟩
  refine zr_aload hk_64 rw_64_9 rfl ?_
  refine zr_getfield hk_64 rw_64_10 hc hv2 e0 ?_
  refine zr_iload hk_64 rw_64_11 rfl ?_
  refine zr_aload hk_64 rw_64_12 rfl ?_
  refine zr_getfield hk_64 rw_64_13 hc hv2 e0 ?_
  refine zr_iload hk_64 rw_64_14 rfl ?_
  refine zr_aldG hk_64 rw_64_15 hW q0a (q0b) q0c ty_14 i rfl (by omega) (by decide) (fun y0 => ?_)
  refine zr_astG hG 24576 hk_64 rw_64_16 hW hGI (two_le q0a (by rw [q0c]; decide)) (q0b) q0c ty_14 (by decide) t rfl (by omega) (by decide) (fun p0 W0 I0 F0 l0 s0 => ?_)
  have c0 : p0[v]? = some (.inr (.inr (5, fs))) := (s0 v (fr_ne q0c v3 (by decide))).trans hc
  refine zr_aload hk_64 rw_64_17 rfl ?_
  refine zr_getfield hk_64 rw_64_18 c0 hv2 e1 ?_
  refine zr_iload hk_64 rw_64_19 rfl ?_
  refine zr_aload hk_64 rw_64_20 rfl ?_
  refine zr_getfield hk_64 rw_64_21 c0 hv2 e1 ?_
  refine zr_iload hk_64 rw_64_22 rfl ?_
  refine zr_aldG hk_64 rw_64_23 W0 q1a (by rw [l0]; exact q1b) q1c ty_14 i rfl (by omega) (by decide) (fun y1 => ?_)
  refine zr_astG hG 24576 hk_64 rw_64_24 W0 I0 (two_le q1a (by rw [q1c]; decide)) (by rw [l0]; exact q1b) q1c ty_14 (by decide) t rfl (by omega) (by decide) (fun p1 W1 I1 F1 l1 s1 => ?_)
  have c1 : p1[v]? = some (.inr (.inr (5, fs))) := (s1 v (fr_ne q1c v3 (by decide))).trans c0
  refine zr_aload hk_64 rw_64_25 rfl ?_
  refine zr_getfield hk_64 rw_64_26 c1 hv2 e2 ?_
  refine zr_iload hk_64 rw_64_27 rfl ?_
  refine zr_aload hk_64 rw_64_28 rfl ?_
  refine zr_getfield hk_64 rw_64_29 c1 hv2 e2 ?_
  refine zr_iload hk_64 rw_64_30 rfl ?_
  refine zr_aldG hk_64 rw_64_31 W1 q2a (by rw [l1, l0]; exact q2b) q2c ty_14 i rfl (by omega) (by decide) (fun y2 => ?_)
  refine zr_astG hG 24576 hk_64 rw_64_32 W1 I1 (two_le q2a (by rw [q2c]; decide)) (by rw [l1, l0]; exact q2b) q2c ty_14 (by decide) t rfl (by omega) (by decide) (fun p2 W2 I2 F2 l2 s2 => ?_)
  have c2 : p2[v]? = some (.inr (.inr (5, fs))) := (s2 v (fr_ne q2c v3 (by decide))).trans c1
  refine zr_aload hk_64 rw_64_33 rfl ?_
  refine zr_getfield hk_64 rw_64_34 c2 hv2 e3 ?_
  refine zr_iload hk_64 rw_64_35 rfl ?_
  refine zr_aload hk_64 rw_64_36 rfl ?_
  refine zr_getfield hk_64 rw_64_37 c2 hv2 e3 ?_
  refine zr_iload hk_64 rw_64_38 rfl ?_
  refine zr_aldG hk_64 rw_64_39 W2 q3a (by rw [l2, l1, l0]; exact q3b) q3c ty_14 i rfl (by omega) (by decide) (fun y3 => ?_)
  refine zr_astG hG 24576 hk_64 rw_64_40 W2 I2 (two_le q3a (by rw [q3c]; decide)) (by rw [l2, l1, l0]; exact q3b) q3c ty_14 (by decide) t rfl (by omega) (by decide) (fun p3 W3 I3 F3 l3 s3 => ?_)
  have c3 : p3[v]? = some (.inr (.inr (5, fs))) := (s3 v (fr_ne q3c v3 (by decide))).trans c2
  exact zr_return (a := 0) hk_64 rw_64_41 ⟨rfl, W3, I3, ((F0.trans F1).trans F2).trans F3, c3.trans hc.symm⟩
theorem rr_loop {GI : PH → Prop} (hG : GOK GI) {d v n g s : Nat} {ph : PH} {fs : List Value} (v1 : 1 ≤ v) (v2 : v < ph.length) (v3 : psi v = 13) (hc : ph[v]? = some (.inr (.inr (5, fs)))) (e4 : fs[4]? = some (.int (iv (s : Int)))) (hs : s ≤ 60) (hg : g ≤ s) : ∀ (m i : Nat) (p : PH), i + m = s → g ≤ i → WT p → GI p → Fr 24576 ph p → p[v]? = ph[v]? → ZR (d + 1) 90 7 [some (.ref v), some (.int (iv (n : Int))), some (.int (iv (g : Int))), some (.int (iv (i : Int)))] [] p (fun w ph' => w = none ∧ WT ph' ∧ GI ph' ∧ Fr 24576 ph ph') := by
  have hv2 : 2 ≤ v := two_le v1 (by rw [v3]; decide)
  intro m
  induction m with
  | zero =>
    intro i p him hgi hWp hIp hF hpv
    have hcp := hpv.trans hc
    refine zr_cut hk_90 rw_90_7 ?_
    refine zr_iload hk_90 rw_90_8 rfl ?_
    refine zr_aload hk_90 rw_90_9 rfl ?_
    refine zr_getfield hk_90 rw_90_10 hcp hv2 e4 ?_
    refine zi_icmp_ge hk_90 rw_90_11 (by unfold inR; omega) (by unfold inR; omega) (fun h => ?_) (fun h => by omega)
    refine zr_aload hk_90 rw_90_20 rfl ?_
    refine zr_dup hk_90 rw_90_21 rfl ?_
    refine zr_getfield hk_90 rw_90_22 hcp hv2 e4 ?_
    refine zr_iload hk_90 rw_90_23 rfl ?_
    refine zi_sub hk_90 rw_90_24 ?_
    rw [show ((s : Int) - (g : Int)) = ((s - g : Nat) : Int) by omega]
    refine zr_putG hG 24576 hk_90 rw_90_25 hWp hIp hv2 hcp v3 ty_13 rfl (nat_fit (by omega) (by omega) (by omega)) (by decide) (by decide) (fun W3 I3 F3 => ?_)
    exact zr_return (a := 0) hk_90 rw_90_26 ⟨rfl, W3, I3, hF.trans F3⟩
  | succ m ih =>
    intro i p him hgi hWp hIp hF hpv
    have hcp := hpv.trans hc
    refine zr_cut hk_90 rw_90_7 ?_
    refine zr_iload hk_90 rw_90_8 rfl ?_
    refine zr_aload hk_90 rw_90_9 rfl ?_
    refine zr_getfield hk_90 rw_90_10 hcp hv2 e4 ?_
    refine zi_icmp_ge hk_90 rw_90_11 (by unfold inR; omega) (by unfold inR; omega) (fun h => by omega) (fun h => ?_)
    refine zr_aload hk_90 rw_90_12 rfl ?_
    refine zr_iload hk_90 rw_90_13 rfl ?_
    refine zr_iload hk_90 rw_90_14 rfl ?_
    refine zr_iload hk_90 rw_90_15 rfl ?_
    refine zi_sub hk_90 rw_90_16 ?_
    rw [show ((i : Int) - (g : Int)) = ((i - g : Nat) : Int) by omega]
    refine zr_virtual (L := 3) (n := 2) (as := [.int (iv (i : Int)), .int (iv ((i - g : Nat) : Int))]) (r := []) hk_90 rw_90_17 (by decide) (by decide) ⟨rfl, rfl, rfl, rfl⟩ hcp hv2 rfl rfl (by decide) (Nat.le_of_ble_eq_true rfl) (move_ok hG d hWp hIp v1 (Nat.lt_of_lt_of_le v2 hF.1) v3 hcp e4 hs (by omega) (by omega)) ?_
    rintro w ph' ⟨rfl, W1, I1, F1, c1⟩
    refine zi_inc hk_90 rw_90_18 rfl rfl inc_1 (lv' := [some (.ref v), some (.int (iv (n : Int))), some (.int (iv (g : Int))), some (.int (iv ((i : Int) + 1)))]) rfl ?_
    refine zr_goto hk_90 rw_90_19 ?_
    exact ih (i + 1) ph' (by omega) (by omega) W1 I1 (hF.trans F1) (c1.trans hpv)
set_option maxHeartbeats 1000000 in
theorem pr_remove {GI : PH → Prop} (hG : GOK GI) : CtH GI 90 ([(2, 13, 0), (0, 2147483648, 2147483656)], [none], 24576, 1) := by
  intro d ph as hd hW hGI hf
  match as, hf with
  | [v0, n0], ⟨⟨v, hv, v1, v2, v3⟩, ⟨n, hn, n1, n2⟩, _⟩ =>
    subst hv
    subst hn
    obtain ⟨n, rfl, hn⟩ := fit_nat (m := 8) n1 n2 rfl rfl
    obtain ⟨c, hc, fs, rfl, hlen, hfs⟩ := hW.get v1 v2 v3 ty_13
    obtain ⟨x4, e4, s, rfl, s1, s2⟩ := hfs 4 _ rfl
    obtain ⟨s, rfl, hs⟩ := fit_nat (m := 60) s1 s2 rfl rfl
    have hv2 : 2 ≤ v := two_le v1 (by rw [v3]; decide)
    obtain ⟨g, hg0, g1, g2⟩ := min_iv (s := s) (n := n) (by omega) (by omega)
    obtain ⟨d, rfl⟩ : ∃ d', d = d' + 1 := ⟨d - 1, by have : 1 ≤ d := hd; omega⟩
    have hz : ZC (d + 1) 90 [.ref v, .int (iv (n : Int))] ph (fun w ph' => w = none ∧ WT ph' ∧ GI ph' ∧ Fr 24576 ph ph') := by
      refine ZC.of (lv := [some (.ref v), some (.int (iv (n : Int)))]) hk_90 (fun i v hv => ?_) ?_
      · match i, hv with
        | 0, hv => cases hv; rfl
        | 1, hv => cases hv; rfl
        | i + 2, hv => simp at hv
      refine zr_iload hk_90 rw_90_0 rfl ?_
      refine zr_aload hk_90 rw_90_1 rfl ?_
      refine zr_getfield hk_90 rw_90_2 hc hv2 e4 ?_
      refine zr_static (L := 2) (n := 2) (as := [.int (iv (n : Int)), .int (iv (s : Int))]) (r := []) hk_90 rw_90_3 (by decide) (by decide) ⟨rfl, rfl, rfl⟩ rfl rfl (by decide) (Nat.le_refl 2) (min_ok d _ _ ph) ?_
      rintro w ph' ⟨rfl, rfl⟩
      rw [hg0]
      refine zi_istore hk_90 rw_90_4 rfl (lv' := [some (.ref v), some (.int (iv (n : Int))), some (.int (iv (g : Int)))]) rfl ?_
      refine zr_iload hk_90 rw_90_5 rfl ?_
      refine zi_istore hk_90 rw_90_6 rfl (lv' := [some (.ref v), some (.int (iv (n : Int))), some (.int (iv (g : Int))), some (.int (iv (g : Int)))]) rfl ?_
      exact rr_loop hG v1 v2 v3 hc e4 hs g1 (s - g) g _ (by omega) (Nat.le_refl _) hW hGI (Fr.rfl' _ _) rfl
    obtain ⟨m, w, ph', nc, ns, r1, rfl, r2, r3, r4⟩ := hz
    exact ⟨m, none, ph', nc, ns, r1, r2, r3, r4, none, List.mem_cons_self, trivial⟩

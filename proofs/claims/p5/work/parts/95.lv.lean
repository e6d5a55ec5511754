/-! ===== by program (wip/gen/gen95.py): what holds between the law's calls ===== -/
theorem kc21_eq : codeOf 21 = kc21 := rfl
theorem hk_21 : 21 < 186 := by decide
theorem rw_21_0 : (codeOf 21)[0]? = some (0, .iload 1, 1, 0, 0, 1, []) := by rw [kc21_eq]; rfl
theorem rw_21_1 : (codeOf 21)[1]? = some (1, .iconst 32, 2147483680, 0, 0, 2, []) := by rw [kc21_eq]; rfl
theorem rw_21_2 : (codeOf 21)[2]? = some (3, .if_icmp .lt 9, 12, 6, 0, 3, []) := by rw [kc21_eq]; rfl
theorem rw_21_3 : (codeOf 21)[3]? = some (6, .iload 1, 1, 0, 0, 1, []) := by rw [kc21_eq]; rfl
theorem rw_21_4 : (codeOf 21)[4]? = some (7, .iconst 126, 2147483774, 0, 0, 2, []) := by rw [kc21_eq]; rfl
theorem rw_21_5 : (codeOf 21)[5]? = some (9, .if_icmp .le 5, 14, 8, 0, 3, []) := by rw [kc21_eq]; rfl
theorem rw_21_6 : (codeOf 21)[6]? = some (12, .iconst (-1), 2147483647, 0, 0, 1, []) := by rw [kc21_eq]; rfl
theorem rw_21_7 : (codeOf 21)[7]? = some (13, .ireturn, 1, 0, 0, 1, []) := by rw [kc21_eq]; rfl
theorem rw_21_8 : (codeOf 21)[8]? = some (14, .aload 0, 0, 0, 3, 1, []) := by rw [kc21_eq]; rfl
theorem rw_21_9 : (codeOf 21)[9]? = some (15, .getfield 12, 0, 0, 3, 3, []) := by rw [kc21_eq]; rfl
theorem rw_21_10 : (codeOf 21)[10]? = some (18, .iload 1, 1, 0, 0, 1, []) := by rw [kc21_eq]; rfl
theorem rw_21_11 : (codeOf 21)[11]? = some (19, .invokevirtual 30, 22, 0, 0, 3, []) := by rw [kc21_eq]; rfl
theorem rw_21_12 : (codeOf 21)[12]? = some (22, .ifCond .eq 13, 35, 17, 0, 3, []) := by rw [kc21_eq]; rfl
theorem rw_21_13 : (codeOf 21)[13]? = some (25, .aload 0, 0, 0, 3, 1, []) := by rw [kc21_eq]; rfl
theorem rw_21_14 : (codeOf 21)[14]? = some (26, .getfield 12, 0, 0, 3, 3, []) := by rw [kc21_eq]; rfl
theorem rw_21_15 : (codeOf 21)[15]? = some (29, .getfield 34, 1, 1, 0, 3, []) := by rw [kc21_eq]; rfl
theorem rw_21_16 : (codeOf 21)[16]? = some (32, .goto 5, 37, 18, 0, 3, []) := by rw [kc21_eq]; rfl
theorem rw_21_17 : (codeOf 21)[17]? = some (35, .iconst (-3), 2147483645, 0, 0, 2, []) := by rw [kc21_eq]; rfl
theorem rw_21_18 : (codeOf 21)[18]? = some (37, .ireturn, 1, 0, 0, 1, []) := by rw [kc21_eq]; rfl
theorem kc22_eq : codeOf 22 = kc22 := rfl
theorem hk_22 : 22 < 186 := by decide
theorem rw_22_0 : (codeOf 22)[0]? = some (0, .aload 0, 0, 0, 3, 1, []) := by rw [kc22_eq]; rfl
theorem rw_22_1 : (codeOf 22)[1]? = some (1, .getfield 28, 1, 1, 0, 3, []) := by rw [kc22_eq]; rfl
theorem rw_22_2 : (codeOf 22)[2]? = some (4, .iconst 60, 2147483708, 0, 0, 2, []) := by rw [kc22_eq]; rfl
theorem rw_22_3 : (codeOf 22)[3]? = some (6, .if_icmp .lt 5, 11, 6, 0, 3, []) := by rw [kc22_eq]; rfl
theorem rw_22_4 : (codeOf 22)[4]? = some (9, .iconst 0, 2147483648, 0, 0, 1, []) := by rw [kc22_eq]; rfl
theorem rw_22_5 : (codeOf 22)[5]? = some (10, .ireturn, 2, 0, 0, 1, []) := by rw [kc22_eq]; rfl
theorem rw_22_6 : (codeOf 22)[6]? = some (11, .aload 0, 0, 0, 3, 1, []) := by rw [kc22_eq]; rfl
theorem rw_22_7 : (codeOf 22)[7]? = some (12, .getfield 9, 1, 0, 3, 3, []) := by rw [kc22_eq]; rfl
theorem rw_22_8 : (codeOf 22)[8]? = some (15, .aload 0, 0, 0, 3, 1, []) := by rw [kc22_eq]; rfl
theorem rw_22_9 : (codeOf 22)[9]? = some (16, .getfield 28, 1, 1, 0, 3, []) := by rw [kc22_eq]; rfl
theorem rw_22_10 : (codeOf 22)[10]? = some (19, .iload 1, 1, 0, 0, 1, []) := by rw [kc22_eq]; rfl
theorem rw_22_11 : (codeOf 22)[11]? = some (20, .iastore, 0, 0, 0, 1, []) := by rw [kc22_eq]; rfl
theorem rw_22_12 : (codeOf 22)[12]? = some (21, .aload 0, 0, 0, 3, 1, []) := by rw [kc22_eq]; rfl
theorem rw_22_13 : (codeOf 22)[13]? = some (22, .dup, 0, 0, 0, 1, []) := by rw [kc22_eq]; rfl
theorem rw_22_14 : (codeOf 22)[14]? = some (23, .getfield 28, 1, 1, 0, 3, []) := by rw [kc22_eq]; rfl
theorem rw_22_15 : (codeOf 22)[15]? = some (26, .iconst 1, 2147483649, 0, 0, 1, []) := by rw [kc22_eq]; rfl
theorem rw_22_16 : (codeOf 22)[16]? = some (27, .iadd, 0, 0, 0, 1, []) := by rw [kc22_eq]; rfl
theorem rw_22_17 : (codeOf 22)[17]? = some (28, .putfield 28, 1, 1, 0, 3, []) := by rw [kc22_eq]; rfl
theorem rw_22_18 : (codeOf 22)[18]? = some (31, .iconst 1, 2147483649, 0, 0, 1, []) := by rw [kc22_eq]; rfl
theorem rw_22_19 : (codeOf 22)[19]? = some (32, .ireturn, 2, 0, 0, 1, []) := by rw [kc22_eq]; rfl
theorem kc23_eq : codeOf 23 = kc23 := rfl
theorem hk_23 : 23 < 186 := by decide
theorem rw_23_0 : (codeOf 23)[0]? = some (0, .aload 0, 0, 0, 3, 1, []) := by rw [kc23_eq]; rfl
theorem rw_23_1 : (codeOf 23)[1]? = some (1, .getfield 12, 0, 0, 3, 3, []) := by rw [kc23_eq]; rfl
theorem rw_23_2 : (codeOf 23)[2]? = some (4, .getfield 34, 1, 1, 0, 3, []) := by rw [kc23_eq]; rfl
theorem rw_23_3 : (codeOf 23)[3]? = some (7, .istore 1, 1, 0, 0, 1, []) := by rw [kc23_eq]; rfl
theorem rw_23_4 : (codeOf 23)[4]? = some (8, .aload 0, 0, 0, 3, 1, []) := by rw [kc23_eq]; rfl
theorem rw_23_5 : (codeOf 23)[5]? = some (9, .getfield 12, 0, 0, 3, 3, []) := by rw [kc23_eq]; rfl
theorem rw_23_6 : (codeOf 23)[6]? = some (12, .iconst 0, 2147483648, 0, 0, 1, []) := by rw [kc23_eq]; rfl
theorem rw_23_7 : (codeOf 23)[7]? = some (13, .putfield 34, 1, 1, 0, 3, []) := by rw [kc23_eq]; rfl
theorem rw_23_8 : (codeOf 23)[8]? = some (16, .iload 1, 1, 0, 0, 1, []) := by rw [kc23_eq]; rfl
theorem rw_23_9 : (codeOf 23)[9]? = some (17, .ireturn, 1, 0, 0, 1, []) := by rw [kc23_eq]; rfl
theorem kc44_eq : codeOf 44 = kc44 := rfl
theorem hk_44 : 44 < 186 := by decide
theorem rw_44_0 : (codeOf 44)[0]? = some (0, .aload 0, 0, 0, 3, 1, []) := by rw [kc44_eq]; rfl
theorem rw_44_1 : (codeOf 44)[1]? = some (1, .getfield 12, 0, 0, 3, 3, []) := by rw [kc44_eq]; rfl
theorem rw_44_2 : (codeOf 44)[2]? = some (4, .getfield 41, 1, 5, 0, 3, []) := by rw [kc44_eq]; rfl
theorem rw_44_3 : (codeOf 44)[3]? = some (7, .ireturn, 1, 0, 0, 1, []) := by rw [kc44_eq]; rfl
/-- what holds between the law's calls; kd: the kinds of faults agree too -/
def LVx (kd : Bool) (S0 : Nat) (c0 : PE) (T : Nat) (ph : PH) (p : Nat → Int32) (a : Nat → Nat → Int32) (z : Nat → Int32) (N : Nat) (t : Nat → Int32) (fs : List Value) : Prop :=
  WT ph ∧ GI S0 0 p z ph ∧ MH ph p a z ∧ MInv T p z ∧ ph[0]? = some c0 ∧ N ≤ 60 ∧ z 1 = iv (N : Int) ∧ ph[3]? = some (.inr (.inr (1, fs))) ∧ fs[0]? = some (.ref 4) ∧ fs[1]? = some (.int (iv (N : Int))) ∧ ph[4]? = some (.inl (60, t)) ∧ (∀ j, j < 60 → a 1 j = t j) ∧ (kd = true → fs[5]? = some (.int (z 2)))
def LSt (kd : Bool) (S0 : Nat) (c0 : PE) (T : Nat) (ph : PH) : Prop := ∃ p a z N t fs, LVx kd S0 c0 T ph p a z N t fs
theorem ty_3 : tyT[3]? = some (.inr (.inr (1, [(2, 4, 0), (0, 2147483648, 2147483708), (2, 5, 0), (2, 6, 0), (0, 2147483648, 2147483658), full32, full32, (2, 7, 0), (0, 2147483648, 2147483652), full32]))) := rfl
theorem ty_4 : tyT[4]? = some (.inl (60, [], 0, 0)) := rfl
section LA
variable {kd : Bool} {S0 T N : Nat} {c0 : PE} {ph ph' : PH} {p z t : Nat → Int32} {a : Nat → Nat → Int32} {fs : List Value}
theorem LVx.page (h : LVx kd S0 c0 T ph p a z N t fs) : PageOK T p := by
  obtain ⟨r, -, -, hP⟩ := h.2.2.2.1
  exact sl0.mp (hP 0 (Nat.zero_le _))
theorem LVx.len (h : LVx kd S0 c0 T ph p a z N t fs) : 87 ≤ ph.length := h.2.1.len
theorem LVx.eq (h : LVx kd S0 c0 T ph p a z N t fs) : ph = mh ph p a z := h.2.2.1.eq h.len
theorem LVx.c2 (h : LVx kd S0 c0 T ph p a z N t fs) : ∃ x, ph[2]? = some (.inr (.inr (0, [.ref 3, .ref 8, .ref 10, x]))) := by
  obtain ⟨⟨tr, f, s, hC⟩, -⟩ := h.2.1
  exact ⟨_, hC.1⟩
theorem LVx.c75 (h : LVx kd S0 c0 T ph p a z N t fs) : ph[75]? = some (.inr (.inr (9, mz z))) := h.2.2.1 0 (by omega)
theorem LVx.up {T' : Nat} (h : LVx kd S0 c0 T ph p a z N t fs) (hT : T ≤ T') : LVx kd S0 c0 T' ph p a z N t fs := by
  obtain ⟨h1, h2, h3, h4, h5⟩ := h
  exact ⟨h1, h2, h3, h4.up hT, h5⟩
/-- a call of the class that leaves the texts alone -/
theorem LVx.cls (h : LVx kd S0 c0 T ph p a z N t fs) {mk : Nat} (W : WT ph') (I : GI S0 0 p z ph') (F : Fr mk ph ph') (b0 : Nat.testBit mk 0 = false) (b3 : Nat.testBit mk 3 = false) (b4 : Nat.testBit mk 4 = false) (b24 : Nat.testBit mk 24 = false) : ∃ a', LVx kd S0 c0 T ph' p a' z N t fs := by
  obtain ⟨h1, h2, h3, h4, h5, h6, h7, h8, h9, h10, h11, h12, h13⟩ := h
  obtain ⟨a', hM⟩ := I.2
  have e1 : ph[77]? = some (.inl (60, a 1)) := h3 2 (by omega)
  have e2 : ph'[77]? = some (.inl (60, a' 1)) := hM 2 (by omega)
  have e3 := F.at e1 (by show Nat.testBit mk (psi 77) = false; exact b24)
  rw [e2] at e3
  have e4 : a' 1 = a 1 := by
    injection e3 with e3
    injection e3 with e3
    injection e3
  exact ⟨a', W, I, hM, h4, F.at h5 b0, h6, h7, F.at h8 b3, h9, h10, F.at h11 b4, by rw [e4]; exact h12, h13⟩
/-- a call of the other side that leaves the texts alone -/
theorem LVx.mdl (h : LVx kd S0 c0 T ph p a z N t fs) {p' z' : Nat → Int32} {a' : Nat → Nat → Int32} (hM : MInv (T + 60) p' z') (h1 : z' 1 = z 1) (h2 : kd = true → z' 2 = z 2) (ha : a' 1 = a 1) : LVx kd S0 c0 (T + 60) (mh ph p' a' z') p' a' z' N t fs := by
  have hB := h.len
  have heq := h.eq
  obtain ⟨k1, k2, k3, k4, k5, k6, k7, k8, k9, k10, k11, k12, k13⟩ := h
  rw [heq] at k1 k2
  obtain ⟨r, r1, r2, hP⟩ := id hM
  have hP0 := sl0.mp (hP 0 (Nat.zero_le _))
  refine ⟨WT_mh hB k1 hP0, GI_mh hB k2, mh_MH hB, hM, ?_, k6, h1.trans k7, ?_, k9, k10, ?_, by rw [ha]; exact k12, fun hk => ?_⟩
  · rw [mh_lo hB (by omega)]; exact k5
  · rw [mh_lo hB (by omega)]; exact k8
  · rw [mh_lo hB (by omega)]; exact k11
  · rw [h2 hk]; exact k13 hk
theorem LVx.pub (h : LVx kd S0 c0 T ph p a z N t fs) {v : Option Value} (hq : PubQ ph T a z v ph') : (∃ x : Int32, v = some (.int x)) ∧ LSt kd S0 c0 (T + 60) ph' := by
  obtain ⟨p', a', z', rfl, hv, hM, hz, hK⟩ := hq
  exact ⟨hv, _, _, _, _, _, _, h.mdl hM (hz 1 (by decide)) (fun _ => hz 2 (by decide)) (hK 1 (by decide))⟩
theorem GI.set (h : GI S0 0 p z ph) {x : Nat} {c c' : PE} (hx : x < 75) (h2 : x ≠ 2) (h8 : x ≠ 8) (h9 : x ≠ 9) (hc : ph[x]? = some c) (hz : szC c' = szC c) : GI S0 0 p z (ph.set x c') := by
  obtain ⟨⟨tr, f, s, g2, g8, g9, gs, gn, gt, gf, gl, gz⟩, ar, hM⟩ := h
  refine ⟨⟨tr, f, s, ?_, ?_, ?_, gs, gn, ?_, ?_, ?_, ?_⟩, ar, hM.set hx⟩
  · rw [List.getElem?_set_ne h2]; exact g2
  · rw [List.getElem?_set_ne h8]; exact g8
  · rw [List.getElem?_set_ne h9]; exact g9
  · rw [List.length_set]; exact gt
  · rw [List.length_set]; exact gf
  · rw [List.length_set]; exact gl
  · rw [szH_set hc hz]; exact gz
/-- another size of the text -/
theorem WT_set3 {n : Nat} (hW : WT ph) (h8 : ph[3]? = some (.inr (.inr (1, fs)))) (hn : n ≤ 60) : WT (ph.set 3 (.inr (.inr (1, fs.set 1 (.int (iv (n : Int))))))) := by
  have hlt := (List.getElem?_eq_some_iff.mp h8).1
  obtain ⟨c, hc, fs', e0, hlen, hfs⟩ := hW.get (by omega) hlt (show psi 3 = 3 from rfl) ty_3
  rw [h8] at hc
  cases hc
  cases e0
  refine hW.set hlt (fun Y hY => ?_)
  rw [show psi 3 = 3 from rfl, ty_3] at hY
  cases hY
  refine ⟨_, rfl, by rw [List.length_set]; exact hlen, fun j q hq => ?_⟩
  by_cases ej : 1 = j
  · subst ej
    cases hq
    exact ⟨_, List.getElem?_set_self (by rw [hlen]; decide), nat_fit (by omega) (by omega) (by omega)⟩
  · rw [List.getElem?_set_ne ej]
    exact hfs j q hq
theorem LVx.fl (h : LVx kd S0 c0 T ph p a z N t fs) : fs.length = 10 := by
  obtain ⟨h1, -, -, -, -, -, -, h8, -⟩ := h
  have hlt := (List.getElem?_eq_some_iff.mp h8).1
  obtain ⟨c, hc, fs', e0, hlen, hfs⟩ := h1.get (by omega) hlt (show psi 3 = 3 from rfl) ty_3
  rw [h8] at hc
  cases hc
  cases e0
  exact hlen
/-- a byte is appended on both sides -/
theorem LVx.app (h : LVx kd S0 c0 T ph p a z N t fs) {x : Int32} (hN : N < 60) : LVx kd S0 c0 T (mh ((ph.set 4 (.inl (60, upd t N x))).set 3 (.inr (.inr (1, fs.set 1 (.int (iv ((N + 1 : Nat) : Int))))))) p (ua a 1 (upd (a 1) N x)) (upd z 1 (iv ((N + 1 : Nat) : Int)))) p (ua a 1 (upd (a 1) N x)) (upd z 1 (iv ((N + 1 : Nat) : Int))) (N + 1) (upd t N x) (fs.set 1 (.int (iv ((N + 1 : Nat) : Int)))) := by
  have hB := h.len
  have hfl := h.fl
  have hpg := h.page
  obtain ⟨k1, k2, k3, k4, k5, k6, k7, k8, k9, k10, k11, k12, k13⟩ := h
  have w1 : WT (ph.set 4 (.inl (60, upd t N x))) := k1.set (by omega) (fun Y hY => by
    rw [show psi 4 = 4 from rfl, ty_4] at hY
    cases hY
    exact ⟨_, rfl, fun i q hq => by simp at hq⟩)
  have c3 : (ph.set 4 (.inl (60, upd t N x)))[3]? = some (.inr (.inr (1, fs))) := by rw [List.getElem?_set_ne (by decide)]; exact k8
  have w2 := WT_set3 (n := N + 1) w1 c3 (by omega)
  have g1 := k2.set (x := 4) (c' := .inl (60, upd t N x)) (by decide) (by decide) (by decide) (by decide) k11 rfl
  have g2 := g1.set (x := 3) (c' := .inr (.inr (1, fs.set 1 (.int (iv ((N + 1 : Nat) : Int)))))) (by decide) (by decide) (by decide) (by decide) c3 rfl
  have hM2 : MH ((ph.set 4 (.inl (60, upd t N x))).set 3 (.inr (.inr (1, fs.set 1 (.int (iv ((N + 1 : Nat) : Int))))))) p a z := (k3.set (by decide)).set (by decide)
  have hB2 : 87 ≤ ((ph.set 4 (.inl (60, upd t N x))).set 3 (.inr (.inr (1, fs.set 1 (.int (iv ((N + 1 : Nat) : Int))))))).length := by rw [List.length_set, List.length_set]; exact hB
  have l0 : ((ph.set 4 (.inl (60, upd t N x))).set 3 (.inr (.inr (1, fs.set 1 (.int (iv ((N + 1 : Nat) : Int)))))))[0]? = some c0 := by rw [List.getElem?_set_ne (by decide), List.getElem?_set_ne (by decide)]; exact k5
  have l3 : ((ph.set 4 (.inl (60, upd t N x))).set 3 (.inr (.inr (1, fs.set 1 (.int (iv ((N + 1 : Nat) : Int)))))))[3]? = some (.inr (.inr (1, fs.set 1 (.int (iv ((N + 1 : Nat) : Int)))))) := List.getElem?_set_self (by rw [List.length_set]; omega)
  have l4 : ((ph.set 4 (.inl (60, upd t N x))).set 3 (.inr (.inr (1, fs.set 1 (.int (iv ((N + 1 : Nat) : Int)))))))[4]? = some (.inl (60, upd t N x)) := by rw [List.getElem?_set_ne (by decide)]; exact List.getElem?_set_self (by omega)
  have heq := hM2.eq hB2
  generalize ((ph.set 4 (.inl (60, upd t N x))).set 3 (.inr (.inr (1, fs.set 1 (.int (iv ((N + 1 : Nat) : Int))))))) = H at *
  rw [heq] at w2 g2
  refine ⟨WT_mh hB2 w2 hpg, GI_mh hB2 g2, mh_MH hB2, ?_, ?_, by omega, uq_eq, ?_, ?_, ?_, ?_, fun j hj => ?_, fun hk => ?_⟩
  · obtain ⟨r, r1, r2, hP⟩ := k4
    exact ⟨r, r1, (uq_ne (by decide)).trans r2, hP⟩
  · rw [mh_lo hB2 (by omega)]; exact l0
  · rw [mh_lo hB2 (by omega)]; exact l3
  · rw [List.getElem?_set_ne (by decide)]; exact k9
  · exact List.getElem?_set_self (by omega)
  · rw [mh_lo hB2 (by omega)]; exact l4
  · rw [ua_eq]
    by_cases ej : j = N
    · subst ej
      rw [uq_eq, uq_eq]
    · rw [uq_ne ej, uq_ne ej]
      exact k12 j hj
  · rw [List.getElem?_set_ne (by decide), uq_ne (by decide)]
    exact k13 hk
/-- both texts are emptied -/
theorem LVx.clr (h : LVx kd S0 c0 T ph p a z N t fs) : LVx kd S0 c0 T (mh (ph.set 3 (.inr (.inr (1, fs.set 1 (.int (iv ((0 : Nat) : Int))))))) p a (upd z 1 (iv 0))) p a (upd z 1 (iv 0)) 0 t (fs.set 1 (.int (iv ((0 : Nat) : Int)))) := by
  have hB := h.len
  have hfl := h.fl
  have hpg := h.page
  obtain ⟨k1, k2, k3, k4, k5, k6, k7, k8, k9, k10, k11, k12, k13⟩ := h
  have w2 := WT_set3 (n := 0) k1 k8 (by omega)
  have g2 := k2.set (x := 3) (c' := .inr (.inr (1, fs.set 1 (.int (iv ((0 : Nat) : Int)))))) (by decide) (by decide) (by decide) (by decide) k8 rfl
  have hM2 : MH (ph.set 3 (.inr (.inr (1, fs.set 1 (.int (iv ((0 : Nat) : Int))))))) p a z := k3.set (by decide)
  have hB2 : 87 ≤ (ph.set 3 (.inr (.inr (1, fs.set 1 (.int (iv ((0 : Nat) : Int))))))).length := by rw [List.length_set]; exact hB
  have l0 : (ph.set 3 (.inr (.inr (1, fs.set 1 (.int (iv ((0 : Nat) : Int)))))))[0]? = some c0 := by rw [List.getElem?_set_ne (by decide)]; exact k5
  have l3 : (ph.set 3 (.inr (.inr (1, fs.set 1 (.int (iv ((0 : Nat) : Int)))))))[3]? = some (.inr (.inr (1, fs.set 1 (.int (iv ((0 : Nat) : Int)))))) := List.getElem?_set_self (by omega)
  have l4 : (ph.set 3 (.inr (.inr (1, fs.set 1 (.int (iv ((0 : Nat) : Int)))))))[4]? = some (.inl (60, t)) := by rw [List.getElem?_set_ne (by decide)]; exact k11
  have heq := hM2.eq hB2
  generalize (ph.set 3 (.inr (.inr (1, fs.set 1 (.int (iv ((0 : Nat) : Int))))))) = H at *
  rw [heq] at w2 g2
  refine ⟨WT_mh hB2 w2 hpg, GI_mh hB2 g2, mh_MH hB2, ?_, ?_, by omega, uq_eq, ?_, ?_, ?_, ?_, k12, fun hk => ?_⟩
  · obtain ⟨r, r1, r2, hP⟩ := k4
    exact ⟨r, r1, (uq_ne (by decide)).trans r2, hP⟩
  · rw [mh_lo hB2 (by omega)]; exact l0
  · rw [mh_lo hB2 (by omega)]; exact l3
  · rw [List.getElem?_set_ne (by decide)]; exact k9
  · exact List.getElem?_set_self (by omega)
  · rw [mh_lo hB2 (by omega)]; exact l4
  · rw [List.getElem?_set_ne (by decide), uq_ne (by decide)]
    exact k13 hk
theorem cappend_ok (d : Nat) {x : Int} (hN : N ≤ 60) (h3 : ph[3]? = some (.inr (.inr (1, fs)))) (hl : fs.length = 10) (f0 : fs[0]? = some (.ref 4)) (f1 : fs[1]? = some (.int (iv (N : Int)))) (h4 : ph[4]? = some (.inl (60, t))) : ZC d 22 [.ref 3, .int (iv x)] ph (fun v ph' => (N < 60 ∧ v = some (.int (iv 1)) ∧ ph' = (ph.set 4 (.inl (60, upd t N (iv x)))).set 3 (.inr (.inr (1, fs.set 1 (.int (iv ((N + 1 : Nat) : Int))))))) ∨ (N = 60 ∧ v = some (.int (iv 0)) ∧ ph' = ph)) := by
  refine ZC.of (lv := [some (.ref 3), some (.int (iv x))]) hk_22 (fun i v hv => ?_) ?_
  · match i, hv with
    | 0, hv => cases hv; rfl
    | 1, hv => cases hv; rfl
    | i + 2, hv => simp at hv
  refine zr_aload hk_22 rw_22_0 rfl ?_
  refine zr_getfield hk_22 rw_22_1 h3 (by decide) f1 ?_
  refine zi_const hk_22 rw_22_2 (c := 60) rfl ?_
  refine zi_icmp_lt hk_22 rw_22_3 (by unfold inR; omega) (by unfold inR; omega) (fun h => ?_) (fun h => ?_)
  · refine zr_aload (j := 6) hk_22 rw_22_6 rfl ?_
    refine zr_getfield hk_22 rw_22_7 h3 (by decide) f0 ?_
    refine zr_aload hk_22 rw_22_8 rfl ?_
    refine zr_getfield hk_22 rw_22_9 h3 (by decide) f1 ?_
    refine zr_iload hk_22 rw_22_10 rfl ?_
    refine mz_ast hk_22 h4 (by decide) rw_22_11 N rfl (by omega) (by decide) rfl ?_
    refine zr_aload hk_22 rw_22_12 rfl ?_
    refine zr_dup hk_22 rw_22_13 rfl ?_
    refine zr_getfield hk_22 rw_22_14 ((List.getElem?_set_ne (by decide)).trans h3) (by decide) f1 ?_
    refine zi_const hk_22 rw_22_15 (c := 1) rfl ?_
    refine zi_add hk_22 rw_22_16 ?_
    refine zr_putI hk_22 rw_22_17 ((List.getElem?_set_ne (by decide)).trans h3) (by decide) (by omega) ?_
    refine zi_const hk_22 rw_22_18 (c := 1) rfl ?_
    exact zr_ireturnB hk_22 rw_22_19 (by decide) (Or.inl ⟨by omega, rfl, rfl⟩)
  · refine zi_const hk_22 rw_22_4 (c := 0) rfl ?_
    exact zr_ireturnB hk_22 rw_22_5 (by decide) (Or.inr ⟨by omega, rfl, rfl⟩)
theorem ctype_ok (d : Nat) {x : Int} {y : Value} (hx : inR x) (hN : N ≤ 60) (h2 : ph[2]? = some (.inr (.inr (0, [.ref 3, .ref 8, .ref 10, y])))) (h3 : ph[3]? = some (.inr (.inr (1, fs)))) (hl : fs.length = 10) (f0 : fs[0]? = some (.ref 4)) (f1 : fs[1]? = some (.int (iv (N : Int)))) (h4 : ph[4]? = some (.inl (60, t))) : ZC (d + 1) 21 [.ref 2, .int (iv x)] ph (fun v ph' => v = some (.int (iv (if 32 ≤ x ∧ x ≤ 126 then (if N = 60 then -3 else (N : Int) + 1) else -1))) ∧ ((¬ (32 ≤ x ∧ x ≤ 126 ∧ N < 60) ∧ ph' = ph) ∨ ((32 ≤ x ∧ x ≤ 126) ∧ N < 60 ∧ ph' = (ph.set 4 (.inl (60, upd t N (iv x)))).set 3 (.inr (.inr (1, fs.set 1 (.int (iv ((N + 1 : Nat) : Int))))))))) := by
  refine ZC.of (lv := [some (.ref 2), some (.int (iv x))]) hk_21 (fun i v hv => ?_) ?_
  · match i, hv with
    | 0, hv => cases hv; rfl
    | 1, hv => cases hv; rfl
    | i + 2, hv => simp at hv
  refine zr_iload hk_21 rw_21_0 rfl ?_
  refine zi_const hk_21 rw_21_1 (c := 32) rfl ?_
  refine zi_icmp_lt hk_21 rw_21_2 (by first | assumption | (unfold inR; omega)) (by unfold inR; omega) (fun h => ?_) (fun h => ?_)
  · refine zi_const (j := 6) hk_21 rw_21_6 (c := -1) rfl ?_
    exact zr_ireturn hk_21 rw_21_7 ⟨by rw [if_neg (by omega)], Or.inl ⟨by omega, rfl⟩⟩
  refine zr_iload hk_21 rw_21_3 rfl ?_
  refine zi_const hk_21 rw_21_4 (c := 126) rfl ?_
  refine zi_icmp_le hk_21 rw_21_5 (by first | assumption | (unfold inR; omega)) (by unfold inR; omega) (fun h5 => ?_) (fun h5 => ?_)
  rotate_left
  · refine zi_const (j := 6) hk_21 rw_21_6 (c := -1) rfl ?_
    exact zr_ireturn hk_21 rw_21_7 ⟨by rw [if_neg (by omega)], Or.inl ⟨by omega, rfl⟩⟩
  refine zr_aload (j := 8) hk_21 rw_21_8 rfl ?_
  refine zr_getfield hk_21 rw_21_9 h2 (by decide) rfl ?_
  refine zr_iload hk_21 rw_21_10 rfl ?_
  refine zr_virtual (L := 2) (n := 1) (as := [.int (iv x)]) (r := []) hk_21 rw_21_11 (by decide) (by decide) ⟨rfl, rfl, rfl, rfl⟩ h3 (by decide) rfl rfl (by decide) (Nat.le_of_ble_eq_true rfl) (cappend_ok d hN h3 hl f0 f1 h4) ?_
  rintro w ph' hw
  rcases hw with ⟨n60, rfl, rfl⟩ | ⟨n60, rfl, rfl⟩
  · refine zi_if_eq hk_21 rw_21_12 (by unfold inR; omega) (fun h => absurd h (by decide)) (fun _ => ?_)
    refine zr_aload hk_21 rw_21_13 rfl ?_
    refine zr_getfield hk_21 rw_21_14 (((List.getElem?_set_ne (by decide)).trans (List.getElem?_set_ne (by decide))).trans h2) (by decide) rfl ?_
    refine zr_getfield hk_21 rw_21_15 (List.getElem?_set_self (by rw [List.length_set]; exact (List.getElem?_eq_some_iff.mp h3).1)) (by decide) (List.getElem?_set_self (by omega)) ?_
    refine zr_goto hk_21 rw_21_16 ?_
    exact zr_ireturn hk_21 rw_21_18 ⟨by rw [if_pos (by omega), if_neg (by omega)]; rfl, Or.inr ⟨by omega, by omega, rfl⟩⟩
  · refine zi_if_eq hk_21 rw_21_12 (by unfold inR; omega) (fun _ => ?_) (fun h => absurd rfl h)
    refine zi_const (j := 17) hk_21 rw_21_17 (c := -3) rfl ?_
    exact zr_ireturn hk_21 rw_21_18 ⟨by rw [if_pos (by omega), if_pos (by omega)], Or.inl ⟨by omega, rfl⟩⟩
theorem cclear_ok (d : Nat) {y : Value} (h2 : ph[2]? = some (.inr (.inr (0, [.ref 3, .ref 8, .ref 10, y])))) (h3 : ph[3]? = some (.inr (.inr (1, fs)))) (hl : fs.length = 10) (f1 : fs[1]? = some (.int (iv (N : Int)))) : ZC d 23 [.ref 2] ph (fun v ph' => v = some (.int (iv (N : Int))) ∧ ph' = ph.set 3 (.inr (.inr (1, fs.set 1 (.int (iv ((0 : Nat) : Int))))))) := by
  refine ZC.of (lv := [some (.ref 2)]) hk_23 (fun i v hv => ?_) ?_
  · match i, hv with
    | 0, hv => cases hv; rfl
    | i + 1, hv => simp at hv
  refine zr_aload hk_23 rw_23_0 rfl ?_
  refine zr_getfield hk_23 rw_23_1 h2 (by decide) rfl ?_
  refine zr_getfield hk_23 rw_23_2 h3 (by decide) f1 ?_
  refine zi_istore hk_23 rw_23_3 rfl (lv' := [some (.ref 2), some (.int (iv (N : Int)))]) rfl ?_
  refine zr_aload hk_23 rw_23_4 rfl ?_
  refine zr_getfield hk_23 rw_23_5 h2 (by decide) rfl ?_
  refine zi_const hk_23 rw_23_6 (c := 0) rfl ?_
  refine zr_putI hk_23 rw_23_7 h3 (by decide) (by omega) ?_
  refine zr_iload hk_23 rw_23_8 rfl ?_
  exact zr_ireturn hk_23 rw_23_9 ⟨rfl, rfl⟩
theorem cfault_ok (d : Nat) {y : Value} {w : Int32} (h2 : ph[2]? = some (.inr (.inr (0, [.ref 3, .ref 8, .ref 10, y])))) (h3 : ph[3]? = some (.inr (.inr (1, fs)))) (f5 : fs[5]? = some (.int w)) : ZC d 44 [.ref 2] ph (fun v ph' => v = some (.int w) ∧ ph' = ph) := by
  refine ZC.of (lv := [some (.ref 2)]) hk_44 (fun i v hv => ?_) ?_
  · match i, hv with
    | 0, hv => cases hv; rfl
    | i + 1, hv => simp at hv
  refine zr_aload hk_44 rw_44_0 rfl ?_
  refine zr_getfield hk_44 rw_44_1 h2 (by decide) rfl ?_
  refine zr_getfield hk_44 rw_44_2 h3 (by decide) f5 ?_
  exact zr_ireturn hk_44 rw_44_3 ⟨rfl, rfl⟩
end LA

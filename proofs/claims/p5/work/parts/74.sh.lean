/-! ===== by program (wip/gen/m74.py): the budget is shared ===== -/
theorem kc161_eq : codeOf 161 = kc161 := rfl
theorem hk_161 : 161 < 186 := by decide
theorem rw_161_0 : (codeOf 161)[0]? = some (0, .iconst 1, 2147483649, 0, 0, 1, []) := by rw [kc161_eq]; rfl
theorem rw_161_1 : (codeOf 161)[1]? = some (1, .istore 1, 1, 0, 0, 1, []) := by rw [kc161_eq]; rfl
theorem rw_161_2 : (codeOf 161)[2]? = some (2, .aload 0, 0, 0, 3, 1, []) := by rw [kc161_eq]; rfl
theorem rw_161_3 : (codeOf 161)[3]? = some (3, .getfield 35, 9, 11, 3, 3, []) := by rw [kc161_eq]; rfl
theorem rw_161_4 : (codeOf 161)[4]? = some (6, .iconst 0, 2147483648, 0, 0, 1, []) := by rw [kc161_eq]; rfl
theorem rw_161_5 : (codeOf 161)[5]? = some (7, .iconst 0, 2147483648, 0, 0, 1, []) := by rw [kc161_eq]; rfl
theorem rw_161_6 : (codeOf 161)[6]? = some (8, .iastore, 0, 0, 0, 1, []) := by rw [kc161_eq]; rfl
theorem rw_161_7 : (codeOf 161)[7]? = some (9, .aload 0, 0, 0, 3, 1, []) := by rw [kc161_eq]; rfl
theorem rw_161_8 : (codeOf 161)[8]? = some (10, .getfield 29, 9, 9, 3, 3, []) := by rw [kc161_eq]; rfl
theorem rw_161_9 : (codeOf 161)[9]? = some (13, .iconst 0, 2147483648, 0, 0, 1, []) := by rw [kc161_eq]; rfl
theorem rw_161_10 : (codeOf 161)[10]? = some (14, .aload 0, 0, 0, 3, 1, []) := by rw [kc161_eq]; rfl
theorem rw_161_11 : (codeOf 161)[11]? = some (15, .getfield 7, 9, 0, 3, 3, []) := by rw [kc161_eq]; rfl
theorem rw_161_12 : (codeOf 161)[12]? = some (18, .iconst 210, 2147483858, 0, 0, 3, []) := by rw [kc161_eq]; rfl
theorem rw_161_13 : (codeOf 161)[13]? = some (21, .iaload, 0, 0, 0, 1, []) := by rw [kc161_eq]; rfl
theorem rw_161_14 : (codeOf 161)[14]? = some (22, .iastore, 0, 0, 0, 1, []) := by rw [kc161_eq]; rfl
theorem rw_161_15 : (codeOf 161)[15]? = some (23, .iconst 0, 2147483648, 0, 0, 1, []) := by rw [kc161_eq]; rfl
theorem rw_161_16 : (codeOf 161)[16]? = some (24, .istore 2, 2, 0, 0, 1, []) := by rw [kc161_eq]; rfl
theorem rw_161_17 : (codeOf 161)[17]? = some (25, .monitorexit, 1288, 0, 0, 0, []) := by rw [kc161_eq]; rfl
theorem rw_161_18 : (codeOf 161)[18]? = some (25, .iload 2, 2, 0, 0, 1, []) := by rw [kc161_eq]; rfl
theorem rw_161_19 : (codeOf 161)[19]? = some (26, .iload 1, 1, 0, 0, 1, []) := by rw [kc161_eq]; rfl
theorem rw_161_20 : (codeOf 161)[20]? = some (27, .if_icmp .ge 66, 93, 56, 0, 3, []) := by rw [kc161_eq]; rfl
theorem rw_161_21 : (codeOf 161)[21]? = some (30, .aload 0, 0, 0, 3, 1, []) := by rw [kc161_eq]; rfl
theorem rw_161_22 : (codeOf 161)[22]? = some (31, .aload 0, 0, 0, 3, 1, []) := by rw [kc161_eq]; rfl
theorem rw_161_23 : (codeOf 161)[23]? = some (32, .getfield 35, 9, 11, 3, 3, []) := by rw [kc161_eq]; rfl
theorem rw_161_24 : (codeOf 161)[24]? = some (35, .iload 2, 2, 0, 0, 1, []) := by rw [kc161_eq]; rfl
theorem rw_161_25 : (codeOf 161)[25]? = some (36, .iaload, 0, 0, 0, 1, []) := by rw [kc161_eq]; rfl
theorem rw_161_26 : (codeOf 161)[26]? = some (37, .invokevirtual 109, 162, 0, 0, 3, []) := by rw [kc161_eq]; rfl
theorem rw_161_27 : (codeOf 161)[27]? = some (40, .iconst 0, 2147483648, 0, 0, 1, []) := by rw [kc161_eq]; rfl
theorem rw_161_28 : (codeOf 161)[28]? = some (41, .istore 3, 3, 0, 0, 1, []) := by rw [kc161_eq]; rfl
theorem rw_161_29 : (codeOf 161)[29]? = some (42, .monitorexit, 1289, 0, 0, 0, []) := by rw [kc161_eq]; rfl
theorem rw_161_30 : (codeOf 161)[30]? = some (42, .iload 3, 3, 0, 0, 1, []) := by rw [kc161_eq]; rfl
theorem rw_161_31 : (codeOf 161)[31]? = some (43, .iconst 10, 2147483658, 0, 0, 2, []) := by rw [kc161_eq]; rfl
theorem rw_161_32 : (codeOf 161)[32]? = some (45, .if_icmp .ge 42, 87, 54, 0, 3, []) := by rw [kc161_eq]; rfl
theorem rw_161_33 : (codeOf 161)[33]? = some (48, .aload 0, 0, 0, 3, 1, []) := by rw [kc161_eq]; rfl
theorem rw_161_34 : (codeOf 161)[34]? = some (49, .iload 3, 3, 0, 0, 1, []) := by rw [kc161_eq]; rfl
theorem rw_161_35 : (codeOf 161)[35]? = some (50, .invokevirtual 92, 133, 0, 0, 3, []) := by rw [kc161_eq]; rfl
theorem rw_161_36 : (codeOf 161)[36]? = some (53, .ifCond .eq 28, 81, 52, 0, 3, []) := by rw [kc161_eq]; rfl
theorem rw_161_37 : (codeOf 161)[37]? = some (56, .aload 0, 0, 0, 3, 1, []) := by rw [kc161_eq]; rfl
theorem rw_161_38 : (codeOf 161)[38]? = some (57, .iload 3, 3, 0, 0, 1, []) := by rw [kc161_eq]; rfl
theorem rw_161_39 : (codeOf 161)[39]? = some (58, .iconst 2, 2147483650, 0, 0, 1, []) := by rw [kc161_eq]; rfl
theorem rw_161_40 : (codeOf 161)[40]? = some (59, .invokevirtual 62, 130, 0, 0, 3, []) := by rw [kc161_eq]; rfl
theorem rw_161_41 : (codeOf 161)[41]? = some (62, .aload 0, 0, 0, 3, 1, []) := by rw [kc161_eq]; rfl
theorem rw_161_42 : (codeOf 161)[42]? = some (63, .getfield 35, 9, 11, 3, 3, []) := by rw [kc161_eq]; rfl
theorem rw_161_43 : (codeOf 161)[43]? = some (66, .iload 2, 2, 0, 0, 1, []) := by rw [kc161_eq]; rfl
theorem rw_161_44 : (codeOf 161)[44]? = some (67, .iaload, 0, 0, 0, 1, []) := by rw [kc161_eq]; rfl
theorem rw_161_45 : (codeOf 161)[45]? = some (68, .if_icmp .ne 13, 81, 52, 0, 3, []) := by rw [kc161_eq]; rfl
theorem rw_161_46 : (codeOf 161)[46]? = some (71, .aload 0, 0, 0, 3, 1, []) := by rw [kc161_eq]; rfl
theorem rw_161_47 : (codeOf 161)[47]? = some (72, .getfield 35, 9, 11, 3, 3, []) := by rw [kc161_eq]; rfl
theorem rw_161_48 : (codeOf 161)[48]? = some (75, .iload 1, 1, 0, 0, 1, []) := by rw [kc161_eq]; rfl
theorem rw_161_49 : (codeOf 161)[49]? = some (76, .iload 3, 3, 0, 0, 1, []) := by rw [kc161_eq]; rfl
theorem rw_161_50 : (codeOf 161)[50]? = some (77, .iastore, 0, 0, 0, 1, []) := by rw [kc161_eq]; rfl
theorem rw_161_51 : (codeOf 161)[51]? = some (78, .iinc 1 1, 1, 1, 0, 3, []) := by rw [kc161_eq]; rfl
theorem rw_161_52 : (codeOf 161)[52]? = some (81, .iinc 3 1, 3, 1, 0, 3, []) := by rw [kc161_eq]; rfl
theorem rw_161_53 : (codeOf 161)[53]? = some (84, .goto (-42), 42, 29, 0, 3, []) := by rw [kc161_eq]; rfl
theorem rw_161_54 : (codeOf 161)[54]? = some (87, .iinc 2 1, 2, 1, 0, 3, []) := by rw [kc161_eq]; rfl
theorem rw_161_55 : (codeOf 161)[55]? = some (90, .goto (-65), 25, 17, 0, 3, []) := by rw [kc161_eq]; rfl
theorem rw_161_56 : (codeOf 161)[56]? = some (93, .return_, 0, 0, 0, 1, []) := by rw [kc161_eq]; rfl
section MK
variable {d k j : Nat} {lv : List (Option Value)} {st : List Value} {ph : PH} {Q : Option Value → PH → Prop} {B : PH} {p : Nat → Int32} {a : Nat → Nat → Int32} {z : Nat → Int32}
theorem pigeon : ∀ (N n : Nat) (f : Nat → Nat), (∀ j, j < n → f j < N) → (∀ i j, i < j → j < n → f i ≠ f j) → n ≤ N := by
  intro N
  induction N with
  | zero =>
    intro n f h1 _
    by_cases h : n = 0
    · omega
    · exact absurd (h1 0 (by omega)) (Nat.not_lt_zero _)
  | succ N ih =>
    intro n f h1 h2
    by_cases h : ∃ i, i < n ∧ f i = N
    · obtain ⟨i0, i1, i2⟩ := h
      have := ih (n - 1) (fun j => if j < i0 then f j else f (j + 1)) (fun j hj => by
        by_cases e : j < i0
        · rw [if_pos e]
          have a1 := h1 j (by omega)
          have a2 := h2 j i0 e i1
          omega
        · rw [if_neg e]
          have a1 := h1 (j + 1) (by omega)
          have a2 := h2 i0 (j + 1) (by omega) (by omega)
          omega) (fun i j hij hj => by
        by_cases e : j < i0
        · rw [if_pos e, if_pos (by omega)]
          exact h2 i j hij (by omega)
        · rw [if_neg e]
          by_cases e2 : i < i0
          · rw [if_pos e2]
            exact h2 i (j + 1) (by omega) (by omega)
          · rw [if_neg e2]
            exact h2 (i + 1) (j + 1) (by omega) (by omega))
      omega
    · have := ih n f (fun j hj => by
        have a1 := h1 j hj
        have a2 : ¬ f j = N := fun e => h ⟨j, hj, e⟩
        omega) h2
      omega
/-- the line of connections: none twice -/
def LI (p l : Nat → Int32) (n k ch : Nat) : Prop := ∃ f : Nat → Nat, f 0 = 0 ∧ (∀ j, j < n → f j < 10 ∧ l j = iv (f j : Int) ∧ p (21 * f j) = iv 1) ∧ (∀ i j, i < j → j < n → f i ≠ f j) ∧ ∀ j, 1 ≤ j → j < n → 1 ≤ f j ∧ ((∃ i, i < k ∧ p (21 * f j + 2) = iv (f i : Int)) ∨ (p (21 * f j + 2) = iv (f k : Int) ∧ f j < ch))
theorem LI.le {l : Nat → Int32} {n k ch : Nat} (h : LI p l n k ch) : n ≤ 10 := by
  obtain ⟨f, -, h2, h3, -⟩ := h
  exact pigeon 10 n f (fun j hj => (h2 j hj).1) h3
theorem LI.at {l : Nat → Int32} {n k ch : Nat} (h : LI p l n k ch) (hk : k < n) : ∃ x : Nat, x < 10 ∧ l k = iv (x : Int) ∧ p (21 * x) = iv 1 := by
  obtain ⟨f, -, h2, -⟩ := h
  exact ⟨f k, h2 k hk⟩
theorem LI.wk {l : Nat → Int32} {n k ch : Nat} (h : LI p l n k ch) : LI p l n k (ch + 1) := by
  obtain ⟨f, h1, h2, h3, h4⟩ := h
  refine ⟨f, h1, h2, h3, fun j j1 j2 => ⟨(h4 j j1 j2).1, ?_⟩⟩
  rcases (h4 j j1 j2).2 with e | ⟨e1, e2⟩
  · exact Or.inl e
  · exact Or.inr ⟨e1, by omega⟩
theorem LI.next {l : Nat → Int32} {n k ch : Nat} (h : LI p l n k ch) : LI p l n (k + 1) 0 := by
  obtain ⟨f, h1, h2, h3, h4⟩ := h
  refine ⟨f, h1, h2, h3, fun j j1 j2 => ⟨(h4 j j1 j2).1, Or.inl ?_⟩⟩
  rcases (h4 j j1 j2).2 with ⟨i, e1, e2⟩ | ⟨e1, e2⟩
  · exact ⟨i, by omega, e2⟩
  · exact ⟨k, by omega, e1⟩
theorem LI.push {l : Nat → Int32} {n k ch : Nat} (hp2 : p 2 = iv (-9)) (h : LI p l n k ch) (hk : k < n) (hch : ch < 10) (ho : p (21 * ch) = iv 1) (hpa : p (21 * ch + 2) = l k) : LI p (upd l n (iv (ch : Int))) (n + 1) k (ch + 1) := by
  obtain ⟨f, h1, h2, h3, h4⟩ := h
  have hpk : p (21 * ch + 2) = iv (f k : Int) := hpa.trans (h2 k hk).2.1
  have hc1 : 1 ≤ ch := par0 hp2 (h2 k hk).1 hpk
  have hnew : ∀ i, i < n → f i ≠ ch := by
    intro i hi e
    by_cases i0 : i = 0
    · rw [i0, h1] at e
      omega
    · obtain ⟨-, q⟩ := h4 i (by omega) hi
      rw [e] at q
      rcases q with ⟨j, j1, j2⟩ | ⟨q1, q2⟩
      · rw [hpk] at j2
        have a1 := (h2 k hk).1
        have a2 := (h2 j (by omega)).1
        have := (iv_eq (a := (f k : Int)) (b := (f j : Int)) (by unfold inR; omega) (by unfold inR; omega)).mp j2
        exact h3 j k j1 hk (by omega)
      · omega
  refine ⟨fun j => if j = n then ch else f j, ?_, fun j hj => ?_, fun i j hij hj => ?_, fun j j1 hj => ?_⟩
  · dsimp only
    rw [if_neg (by omega)]
    exact h1
  · dsimp only
    by_cases e : j = n
    · subst e
      rw [if_pos rfl]
      exact ⟨hch, uq_eq, ho⟩
    · rw [if_neg e]
      obtain ⟨a1, a2, a3⟩ := h2 j (by omega)
      exact ⟨a1, (uq_ne e).trans a2, a3⟩
  · dsimp only
    rw [if_neg (show ¬ i = n by omega)]
    by_cases e : j = n
    · rw [if_pos e]
      exact hnew i (by omega)
    · rw [if_neg e]
      exact h3 i j hij (by omega)
  · dsimp only
    rw [if_neg (show ¬ k = n by omega)]
    by_cases e : j = n
    · rw [if_pos e]
      exact ⟨hc1, Or.inr ⟨hpk, by omega⟩⟩
    · rw [if_neg e]
      obtain ⟨a1, a2⟩ := h4 j j1 (by omega)
      refine ⟨a1, ?_⟩
      rcases a2 with ⟨i, e1, e2⟩ | ⟨e1, e2⟩
      · exact Or.inl ⟨i, e1, by rw [if_neg (show ¬ i = n by omega)]; exact e2⟩
      · exact Or.inr ⟨e1, by omega⟩
def LJ (a : Nat → Nat → Int32) (p : Nat → Int32) (b : Nat → Nat → Int32) (n k ch : Nat) : Prop := LI p (b 7) n k ch ∧ K4 a b
theorem LJ.le {b : Nat → Nat → Int32} {n k ch : Nat} (h : LJ a p b n k ch) : n ≤ 10 := h.1.le
theorem LJ.at {b : Nat → Nat → Int32} {n k ch : Nat} (h : LJ a p b n k ch) (hk : k < n) : ∃ x : Nat, x < 10 ∧ b 7 k = iv (x : Int) ∧ p (21 * x) = iv 1 := h.1.at hk
theorem LJ.wk {b : Nat → Nat → Int32} {n k ch : Nat} (h : LJ a p b n k ch) : LJ a p b n k (ch + 1) := ⟨h.1.wk, h.2⟩
theorem LJ.next {b : Nat → Nat → Int32} {n k ch : Nat} (h : LJ a p b n k ch) : LJ a p b n (k + 1) 0 := ⟨h.1.next, h.2⟩
theorem LJ.push {b : Nat → Nat → Int32} {n k ch : Nat} (hp2 : p 2 = iv (-9)) (h : LJ a p b n k ch) (hk : k < n) (hch : ch < 10) (ho : p (21 * ch) = iv 1) (hpa : p (21 * ch + 2) = b 7 k) : LJ a p (ua b 7 (upd (b 7) n (iv (ch : Int)))) (n + 1) k (ch + 1) := by
  refine ⟨?_, h.2.ua (by decide)⟩
  rw [ua_eq]
  exact LI.push hp2 h.1 hk hch ho hpa
theorem LJ.kp {b c : Nat → Nat → Int32} {n k ch : Nat} (h : LJ a p b n k ch) (h7 : c 7 = b 7) (hK : K4 b c) : LJ a p c n k ch := by
  refine ⟨?_, h.2.trans hK⟩
  rw [h7]
  exact h.1
theorem LI_ua {b : Nat → Nat → Int32} {n k ch jj : Nat} {g : Nat → Int32} (h : LI p (b 7) n k ch) (hj : 7 ≠ jj) : LI p (ua b jj g 7) n k ch := by
  rw [ua_ne hj]
  exact h
theorem LI_0 (ho : p 0 = iv 1) : LI p (ua a 7 (upd (a 7) 0 (iv 0)) 7) 1 0 0 := by
  rw [ua_eq]
  refine ⟨fun _ => 0, rfl, fun j hj => ?_, fun i j h1 h2 => by omega, fun j h1 h2 => by omega⟩
  obtain rfl : j = 0 := by omega
  exact ⟨by show 0 < 10; omega, uq_eq, ho⟩
theorem LJ_0 (ho : p 0 = iv 1) : LJ a p (ua a 7 (upd (a 7) 0 (iv 0))) 1 0 0 := ⟨LI_0 ho, (K4.id a).ua (by decide)⟩
theorem LJ_ua {b : Nat → Nat → Int32} {n k ch jj : Nat} {g : Nat → Int32} (h : LJ a p b n k ch) (hj : 7 ≠ jj) (h4 : 4 < jj) : LJ a p (ua b jj g) n k ch := ⟨LI_ua h.1 hj, h.2.ua h4⟩
theorem sh_in (hB : 87 ≤ B.length) {k : Nat} (hp2 : p 2 = iv (-9)) (hQ : ∀ (b : Nat → Nat → Int32) (n : Nat), k < n → n ≤ 10 → LJ a p b n k 10 → ZR (d + 3) 161 54 [some (.ref 75), some (.int (iv ((n : Int)))), some (.int (iv ((k : Int)))), some (.int (iv (((10 : Nat) : Int))))] [] (mh B p b z) Q) : ∀ (m ch n : Nat) (b : Nat → Nat → Int32), ch + m = 10 → k < n → LJ a p b n k ch → ZR (d + 3) 161 29 [some (.ref 75), some (.int (iv ((n : Int)))), some (.int (iv ((k : Int)))), some (.int (iv ((ch : Int))))] [] (mh B p b z) Q := by
  intro m
  induction m with
  | zero =>
    intro ch n b hcm hkn hD
    have hn10 := hD.le
    refine zr_cut hk_161 rw_161_29 ?_
    refine zr_iload hk_161 rw_161_30 rfl ?_
    refine zi_const hk_161 rw_161_31 (c := 10) rfl ?_
    refine zi_icmp_ge hk_161 rw_161_32 (by unfold inR; omega) (by unfold inR; omega) (fun h32 => ?_) (fun h32 => by omega)
    obtain rfl : ch = 10 := by omega
    exact hQ b n hkn hD.le hD
  | succ m ih =>
    intro ch n b hcm hkn hD
    have hn10 := hD.le
    refine zr_cut hk_161 rw_161_29 ?_
    refine zr_iload hk_161 rw_161_30 rfl ?_
    refine zi_const hk_161 rw_161_31 (c := 10) rfl ?_
    refine zi_icmp_ge hk_161 rw_161_32 (by unfold inR; omega) (by unfold inR; omega) (fun h32 => by omega) (fun h32 => ?_)
    refine zr_aload hk_161 rw_161_33 rfl ?_
    refine zr_iload hk_161 rw_161_34 rfl ?_
    refine c_isOpenN hk_161 hB rw_161_35 (ch) (by omega) (by omega) (Nat.le_of_ble_eq_true rfl) (fun h35c => ?_) (fun h35c => ?_)
    · refine zi_if_eq hk_161 rw_161_36 (by unfold inR; omega) (fun h => absurd h (by decide)) (fun _ => ?_)
      refine zr_aload hk_161 rw_161_37 rfl ?_
      refine zr_iload hk_161 rw_161_38 rfl ?_
      refine zi_const hk_161 rw_161_39 (c := 2) rfl ?_
      refine c_of hk_161 hB rw_161_40 (21 * ch + 2) (by omega) (by omega) (Nat.le_of_ble_eq_true rfl) ?_
      refine zr_aload hk_161 rw_161_41 rfl ?_
      refine mz_getf hk_161 hB rw_161_42 rfl ?_
      refine zr_iload hk_161 rw_161_43 rfl ?_
      refine mz_ald hk_161 (mh_a7 hB) rw_161_44 (k) (by omega) (by omega) (by decide) ?_
      refine zo_icmp_ne hk_161 rw_161_45 (fun h45 => ?_) (fun h45 => ?_)
      · refine zi_inc hk_161 rw_161_52 rfl rfl inc_1 (lv' := [some (.ref 75), some (.int (iv ((n : Int)))), some (.int (iv ((k : Int)))), some (.int (iv ((ch : Int) + 1)))]) rfl ?_
        refine zr_goto hk_161 rw_161_53 ?_
        exact ih (ch + 1) n b (by omega) (by omega) hD.wk
      · have hP := LJ.push hp2 hD hkn (by omega) h35c h45
        have hn9 := hP.le
        refine zr_aload hk_161 rw_161_46 rfl ?_
        refine mz_getf hk_161 hB rw_161_47 rfl ?_
        refine zr_iload hk_161 rw_161_48 rfl ?_
        refine zr_iload hk_161 rw_161_49 rfl ?_
        refine mz_astI (jj := 7) (R := (fun b => LJ a p b (n + 1) k (ch + 1))) hk_161 (mh_a7 hB) (by decide) rw_161_50 (n) (by omega) (by omega) (by decide) (fun g => mh_aS7 hB) (hP) (fun b hD => ?_)
        refine zi_inc hk_161 rw_161_51 rfl rfl inc_1 (lv' := [some (.ref 75), some (.int (iv ((n : Int) + 1))), some (.int (iv ((k : Int)))), some (.int (iv ((ch : Int))))]) rfl ?_
        refine zi_inc hk_161 rw_161_52 rfl rfl inc_1 (lv' := [some (.ref 75), some (.int (iv ((n : Int) + 1))), some (.int (iv ((k : Int)))), some (.int (iv ((ch : Int) + 1)))]) rfl ?_
        refine zr_goto hk_161 rw_161_53 ?_
        exact ih (ch + 1) (n + 1) b (by omega) (by omega) hD
    · refine zi_if_eq hk_161 rw_161_36 (by unfold inR; omega) (fun _ => ?_) (fun h => absurd h (by decide))
      refine zi_inc hk_161 rw_161_52 rfl rfl inc_1 (lv' := [some (.ref 75), some (.int (iv ((n : Int)))), some (.int (iv ((k : Int)))), some (.int (iv ((ch : Int) + 1)))]) rfl ?_
      refine zr_goto hk_161 rw_161_53 ?_
      exact ih (ch + 1) n b (by omega) (by omega) hD.wk
theorem sh_loop (hB : 87 ≤ B.length) (hp2 : p 2 = iv (-9)) (hco : CoOK p) : ∀ (m k n : Nat) (b : Nat → Nat → Int32), k + m = 10 → k ≤ n → 1 ≤ n → LJ a p b n k 0 → ZR (d + 3) 161 17 [some (.ref 75), some (.int (iv ((n : Int)))), some (.int (iv ((k : Int))))] [] (mh B p b z) (fun v ph' => ∃ b, ph' = mh B p b z ∧ v = none ∧ K4 a b) := by
  intro m
  induction m with
  | zero =>
    intro k n b hkm hkn hn1 hD
    have hn10 := hD.le
    refine zr_cut hk_161 rw_161_17 ?_
    refine zr_iload hk_161 rw_161_18 rfl ?_
    refine zr_iload hk_161 rw_161_19 rfl ?_
    refine zi_icmp_ge hk_161 rw_161_20 (by unfold inR; omega) (by unfold inR; omega) (fun h20 => ?_) (fun h20 => by omega)
    refine zr_return (a := 0) hk_161 rw_161_56 ?_
    exact ⟨b, rfl, rfl, hD.2⟩
  | succ m ih =>
    intro k n b hkm hkn hn1 hD
    have hn10 := hD.le
    refine zr_cut hk_161 rw_161_17 ?_
    refine zr_iload hk_161 rw_161_18 rfl ?_
    refine zr_iload hk_161 rw_161_19 rfl ?_
    refine zi_icmp_ge hk_161 rw_161_20 (by unfold inR; omega) (by unfold inR; omega) (fun h20 => ?_) (fun h20 => ?_)
    · refine zr_return (a := 0) hk_161 rw_161_56 ?_
      exact ⟨b, rfl, rfl, hD.2⟩
    · obtain ⟨x, hx1, hx2, hx3⟩ := hD.at (by omega)
      refine zr_aload hk_161 rw_161_21 rfl ?_
      refine zr_aload hk_161 rw_161_22 rfl ?_
      refine mz_getf hk_161 hB rw_161_23 rfl ?_
      refine zr_iload hk_161 rw_161_24 rfl ?_
      refine mz_aldE hk_161 (mh_a7 hB) rw_161_25 (k) (by omega) (by omega) (by decide) (hx2) ?_
      refine c_divides hk_161 hB rw_161_26 hx1 hp2 hco hx3 (Nat.le_of_ble_eq_true rfl) (fun c hc7 hc4 => ?_)
      have hD := hD.kp hc7 hc4
      refine zi_const hk_161 rw_161_27 (c := 0) rfl ?_
      refine zi_istore hk_161 rw_161_28 rfl (lv' := [some (.ref 75), some (.int (iv ((n : Int)))), some (.int (iv ((k : Int)))), some (.int (iv (0)))]) rfl ?_
      refine sh_in hB hp2 (fun b n hkn hn10 hD => ?_) 10 0 n c (by omega) (by omega) hD
      refine zi_inc hk_161 rw_161_54 rfl rfl inc_1 (lv' := [some (.ref 75), some (.int (iv ((n : Int)))), some (.int (iv ((k : Int) + 1))), some (.int (iv (((10 : Nat) : Int))))]) rfl ?_
      refine zr_goto hk_161 rw_161_55 ?_
      exact zr_app (lv := [some (.ref 75), some (.int (iv (n : Int))), some (.int (iv ((k : Int) + 1)))]) (ex := [some (.int (iv (((10 : Nat) : Int))))]) (ih (k + 1) n b (by omega) (by omega) (by omega) hD.next)
theorem shares_ok (d : Nat) (hB : 87 ≤ B.length) (ho : p 0 = iv 1) (hp2 : p 2 = iv (-9)) (hco : CoOK p) : ZC (d + 3) 161 [.ref 75] (mh B p a z) (fun v ph' => ∃ b, ph' = mh B p b z ∧ v = none ∧ K4 a b) := by
  refine ZC.of (lv := [some (.ref 75)]) hk_161 (fun i v hv => ?_) ?_
  · match i, hv with
    | 0, hv => cases hv; rfl
    | i + 1, hv => simp at hv
  refine zi_const hk_161 rw_161_0 (c := 1) rfl ?_
  refine zi_istore hk_161 rw_161_1 rfl (lv' := [some (.ref 75), some (.int (iv (1)))]) rfl ?_
  refine zr_aload hk_161 rw_161_2 rfl ?_
  refine mz_getf hk_161 hB rw_161_3 rfl ?_
  refine zi_const hk_161 rw_161_4 (c := 0) rfl ?_
  refine zi_const hk_161 rw_161_5 (c := 0) rfl ?_
  refine mz_astI (jj := 7) (R := (fun b => LJ a p b 1 0 0)) hk_161 (mh_a7 hB) (by decide) rw_161_6 (0) (by omega) (by omega) (by decide) (fun g => mh_aS7 hB) (LJ_0 ho) (fun b hD => ?_)
  refine zr_aload hk_161 rw_161_7 rfl ?_
  refine mz_getf hk_161 hB rw_161_8 rfl ?_
  refine zi_const hk_161 rw_161_9 (c := 0) rfl ?_
  refine zr_aload hk_161 rw_161_10 rfl ?_
  refine mz_getf hk_161 hB rw_161_11 rfl ?_
  refine zi_const hk_161 rw_161_12 (c := 210) rfl ?_
  refine mz_pld hk_161 hB rw_161_13 (210) (by omega) (by omega) ?_
  refine mz_astI (jj := 5) (R := (fun b => LJ a p b 1 0 0)) hk_161 (mh_a5 hB) (by decide) rw_161_14 (0) (by omega) (by omega) (by decide) (fun g => mh_aS5 hB) (LJ_ua hD (by decide) (by decide)) (fun b hD => ?_)
  refine zi_const hk_161 rw_161_15 (c := 0) rfl ?_
  refine zi_istore hk_161 rw_161_16 rfl (lv' := [some (.ref 75), some (.int (iv (1))), some (.int (iv (0)))]) rfl ?_
  exact sh_loop hB hp2 hco 10 0 1 b (by omega) (by omega) (by omega) hD
theorem c_shares (hk : k < 186) (hB : 87 ≤ B.length) {pc b x ix : Nat} {ts : List Nat} (hrow : (codeOf k)[j]? = some (pc, .invokevirtual ix, 161, b, x, 3, ts)) (hb : BaseOK p) (hcat : catS st ≤ 8) (h : ∀ b : Nat → Nat → Int32, K4 a b → ZR (d + 4) k (j + 1) lv st (mh B p b z) Q) : ZR (d + 4) k j lv (.ref 75 :: st) (mh B p a z) Q := by
  refine mz_call (L := 4) (n := 0) (as := []) (r := st) hk hB hrow (by decide) (by decide) ⟨rfl, rfl, rfl, rfl⟩ rfl rfl hcat (Nat.le_of_ble_eq_true rfl) (shares_ok d hB hb.2.2.1 hb.2.2.2.1 hb.1) ?_
  rintro w ph' ⟨b, rfl, rfl, hK⟩
  exact h b hK
end MK

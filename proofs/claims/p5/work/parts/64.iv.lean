/-! ===== by hand: ints as numbers; the other side's heap ===== -/
def iv (e : Int) : Int32 := Int32.ofInt e
def inR (e : Int) : Prop := -2147483648 ≤ e ∧ e < 2147483648
theorem iv_toInt {e : Int} (h : inR e) : (iv e).toInt = e := Int32.toInt_ofInt_of_le (by have := h.1; omega) (by have := h.2; omega)
theorem iv_add (a b : Int) : iv a + iv b = iv (a + b) := (Int32.ofInt_add a b).symm
theorem iv_sub (a b : Int) : iv a - iv b = iv (a - b) := (Int32.ofInt_sub a b).symm
theorem iv_mul (a b : Int) : iv a * iv b = iv (a * b) := (Int32.ofInt_mul a b).symm
theorem iv_of (x : Int32) : x = iv x.toInt := (Int32.ofInt_toInt x).symm
theorem inR_of (x : Int32) : inR x.toInt := ⟨by have := x.le_toInt; omega, by have := x.toInt_lt; omega⟩
theorem iv_lt {a b : Int} (ha : inR a) (hb : inR b) : iv a < iv b ↔ a < b := by rw [Int32.lt_iff_toInt_lt, iv_toInt ha, iv_toInt hb]
theorem iv_le {a b : Int} (ha : inR a) (hb : inR b) : iv a ≤ iv b ↔ a ≤ b := by rw [Int32.le_iff_toInt_le, iv_toInt ha, iv_toInt hb]
theorem iv_eq {a b : Int} (ha : inR a) (hb : inR b) : iv a = iv b ↔ a = b := by rw [← Int32.toInt_inj, iv_toInt ha, iv_toInt hb]
theorem iv_clamp {e : Int} {i : Nat} (he : e = (i : Int)) (hi : i < 2147483648) : 0 ≤ iv e ∧ (iv e).toNatClampNeg = i := by
  have hr : inR e := by unfold inR; omega
  refine ⟨?_, ?_⟩
  · rw [show (0 : Int32) = iv 0 from rfl, iv_le (by unfold inR; omega) hr]
    omega
  · show (iv e).toInt.toNat = i
    rw [iv_toInt hr]
    omega
theorem oI_iv (a : Nat) : oI a = iv ((a : Int) - 2147483648) := by
  unfold oI iv
  rw [← Int32.ofInt_eq_ofNat]
  refine Int32.toInt.inj ?_
  rw [Int32.toInt_ofInt, Int32.toInt_ofInt]
  have e : (((a + oZ : Nat) : Int)) = ((a : Int) - 2147483648) + (Int32.size : Nat) := by
    have : (Int32.size : Nat) = 4294967296 := rfl
    rw [this]
    unfold oZ
    omega
  rw [e, Int.add_bmod_right]
theorem iv_rem {t : Int} {m : Int} (h0 : 0 ≤ t) (h1 : t < 2147483648) (hm : 0 < m) (hm2 : m < 2147483648) : iv t - iv t / iv m * iv m = iv (t % m) := by
  have hq : iv t / iv m = iv (t / m) := by
    unfold iv
    rw [← Int.tdiv_eq_ediv_of_nonneg h0]
    exact (Int32.ofInt_tdiv (by have e : Int32.minValue.toInt = -2147483648 := rfl
                                omega) (by have e : Int32.maxValue.toInt = 2147483647 := rfl
                                           omega) (by have e : Int32.minValue.toInt = -2147483648 := rfl
                                                      omega) (by have e : Int32.maxValue.toInt = 2147483647 := rfl
                                                                 omega)).symm
  rw [hq, iv_mul, iv_sub]
  congr 1
  rw [Int.emod_def, Int.mul_comm m (t / m)]
theorem inR_0 : inR 0 := by unfold inR; omega
def mz (z : Nat → Int32) : List Value := [.ref 76, .int (z 0), .ref 77, .int (z 1), .int (z 2), .ref 78, .ref 79, .int (z 3), .ref 80, .ref 81, .ref 82, .ref 83, .ref 84, .ref 85, .ref 86]
def mcl (p : Nat → Int32) (a : Nat → Nat → Int32) (z : Nat → Int32) : List PE := [.inr (.inr (9, mz z)), .inl (14000, p), .inl (60, a 1), .inl (10, a 2), .inl (10, a 3), .inl (5, a 4), .inl (10, a 5), .inl (10, a 6), .inl (10, a 7), .inl (10, a 8), .inl (10, a 9), .inl (10, a 10)]
/-- a heap with the other side's cells: its page, its other arrays, its ints -/
def mh (B : PH) (p : Nat → Int32) (a : Nat → Nat → Int32) (z : Nat → Int32) : PH := B.take 75 ++ (mcl p a z ++ B.drop 87)
def ua (a : Nat → Nat → Int32) (j : Nat) (g : Nat → Int32) : Nat → Nat → Int32 := fun i => if i = j then g else a i
section MA
variable {B : PH} {p : Nat → Int32} {a : Nat → Nat → Int32} {z : Nat → Int32}
theorem mh_len (hB : 87 ≤ B.length) : (mh B p a z).length = B.length := by
  unfold mh
  rw [List.length_append, List.length_append, List.length_take, List.length_drop]
  have : (mcl p a z).length = 12 := rfl
  omega
theorem mh_get (hB : 87 ≤ B.length) {i : Nat} (hi : i < 12) : (mh B p a z)[75 + i]? = (mcl p a z)[i]? := by
  unfold mh
  have h1 : (B.take 75).length = 75 := by rw [List.length_take]; omega
  rw [List.getElem?_append_right (by rw [h1]; omega), h1, Nat.add_sub_cancel_left, List.getElem?_append_left (by show i < 12; exact hi)]
theorem mh_lo (hB : 87 ≤ B.length) {i : Nat} (hi : i < 75) : (mh B p a z)[i]? = B[i]? := by
  unfold mh
  have h1 : (B.take 75).length = 75 := by rw [List.length_take]; omega
  rw [List.getElem?_append_left (by rw [h1]; exact hi), List.getElem?_take_of_lt hi]
theorem mh_hi (hB : 87 ≤ B.length) {i : Nat} (hi : 87 ≤ i) : (mh B p a z)[i]? = B[i]? := by
  unfold mh
  have h1 : (B.take 75).length = 75 := by rw [List.length_take]; omega
  rw [List.getElem?_append_right (by rw [h1]; omega), h1, List.getElem?_append_right (by show 12 ≤ i - 75; omega), List.getElem?_drop]
  congr 1
  show 87 + (i - 75 - 12) = i
  omega
theorem mh_set (hB : 87 ≤ B.length) {i : Nat} {c : PE} (hi : i < 12) : (mh B p a z).set (75 + i) c = B.take 75 ++ ((mcl p a z).set i c ++ B.drop 87) := by
  unfold mh
  have h1 : (B.take 75).length = 75 := by rw [List.length_take]; omega
  rw [List.set_append_right _ _ (by rw [h1]; omega), h1, Nat.add_sub_cancel_left, List.set_append_left _ _ (by show i < 12; exact hi)]
theorem mh_obj (hB : 87 ≤ B.length) : (mh B p a z)[75]? = some (.inr (.inr (9, mz z))) := mh_get hB (i := 0) (by decide)
theorem mh_pg (hB : 87 ≤ B.length) : (mh B p a z)[76]? = some (.inl (14000, p)) := mh_get hB (i := 1) (by decide)
theorem mh_pgS (hB : 87 ≤ B.length) {g : Nat → Int32} : (mh B p a z).set 76 (.inl (14000, g)) = mh B g a z := mh_set hB (i := 1) (by decide)
theorem mh_a1 (hB : 87 ≤ B.length) : (mh B p a z)[77]? = some (.inl (60, a 1)) := mh_get hB (i := 2) (by decide)
theorem mh_aS1 (hB : 87 ≤ B.length) {g : Nat → Int32} : (mh B p a z).set 77 (.inl (60, g)) = mh B p (ua a 1 g) z := mh_set hB (i := 2) (by decide)
theorem mh_a2 (hB : 87 ≤ B.length) : (mh B p a z)[78]? = some (.inl (10, a 2)) := mh_get hB (i := 3) (by decide)
theorem mh_aS2 (hB : 87 ≤ B.length) {g : Nat → Int32} : (mh B p a z).set 78 (.inl (10, g)) = mh B p (ua a 2 g) z := mh_set hB (i := 3) (by decide)
theorem mh_a3 (hB : 87 ≤ B.length) : (mh B p a z)[79]? = some (.inl (10, a 3)) := mh_get hB (i := 4) (by decide)
theorem mh_aS3 (hB : 87 ≤ B.length) {g : Nat → Int32} : (mh B p a z).set 79 (.inl (10, g)) = mh B p (ua a 3 g) z := mh_set hB (i := 4) (by decide)
theorem mh_a4 (hB : 87 ≤ B.length) : (mh B p a z)[80]? = some (.inl (5, a 4)) := mh_get hB (i := 5) (by decide)
theorem mh_aS4 (hB : 87 ≤ B.length) {g : Nat → Int32} : (mh B p a z).set 80 (.inl (5, g)) = mh B p (ua a 4 g) z := mh_set hB (i := 5) (by decide)
theorem mh_a5 (hB : 87 ≤ B.length) : (mh B p a z)[81]? = some (.inl (10, a 5)) := mh_get hB (i := 6) (by decide)
theorem mh_aS5 (hB : 87 ≤ B.length) {g : Nat → Int32} : (mh B p a z).set 81 (.inl (10, g)) = mh B p (ua a 5 g) z := mh_set hB (i := 6) (by decide)
theorem mh_a6 (hB : 87 ≤ B.length) : (mh B p a z)[82]? = some (.inl (10, a 6)) := mh_get hB (i := 7) (by decide)
theorem mh_aS6 (hB : 87 ≤ B.length) {g : Nat → Int32} : (mh B p a z).set 82 (.inl (10, g)) = mh B p (ua a 6 g) z := mh_set hB (i := 7) (by decide)
theorem mh_a7 (hB : 87 ≤ B.length) : (mh B p a z)[83]? = some (.inl (10, a 7)) := mh_get hB (i := 8) (by decide)
theorem mh_aS7 (hB : 87 ≤ B.length) {g : Nat → Int32} : (mh B p a z).set 83 (.inl (10, g)) = mh B p (ua a 7 g) z := mh_set hB (i := 8) (by decide)
theorem mh_a8 (hB : 87 ≤ B.length) : (mh B p a z)[84]? = some (.inl (10, a 8)) := mh_get hB (i := 9) (by decide)
theorem mh_aS8 (hB : 87 ≤ B.length) {g : Nat → Int32} : (mh B p a z).set 84 (.inl (10, g)) = mh B p (ua a 8 g) z := mh_set hB (i := 9) (by decide)
theorem mh_a9 (hB : 87 ≤ B.length) : (mh B p a z)[85]? = some (.inl (10, a 9)) := mh_get hB (i := 10) (by decide)
theorem mh_aS9 (hB : 87 ≤ B.length) {g : Nat → Int32} : (mh B p a z).set 85 (.inl (10, g)) = mh B p (ua a 9 g) z := mh_set hB (i := 10) (by decide)
theorem mh_a10 (hB : 87 ≤ B.length) : (mh B p a z)[86]? = some (.inl (10, a 10)) := mh_get hB (i := 11) (by decide)
theorem mh_aS10 (hB : 87 ≤ B.length) {g : Nat → Int32} : (mh B p a z).set 86 (.inl (10, g)) = mh B p (ua a 10 g) z := mh_set hB (i := 11) (by decide)
theorem mh_zS0 (hB : 87 ≤ B.length) {x : Int32} : (mh B p a z).set 75 (.inr (.inr (9, (mz z).set 1 (.int x)))) = mh B p a (upd z 0 x) := mh_set hB (i := 0) (by decide)
theorem mh_zS1 (hB : 87 ≤ B.length) {x : Int32} : (mh B p a z).set 75 (.inr (.inr (9, (mz z).set 3 (.int x)))) = mh B p a (upd z 1 x) := mh_set hB (i := 0) (by decide)
theorem mh_zS2 (hB : 87 ≤ B.length) {x : Int32} : (mh B p a z).set 75 (.inr (.inr (9, (mz z).set 4 (.int x)))) = mh B p a (upd z 2 x) := mh_set hB (i := 0) (by decide)
theorem mh_zS3 (hB : 87 ≤ B.length) {x : Int32} : (mh B p a z).set 75 (.inr (.inr (9, (mz z).set 7 (.int x)))) = mh B p a (upd z 3 x) := mh_set hB (i := 0) (by decide)
end MA
section MB
variable {d k j : Nat} {lv : List (Option Value)} {st : List Value} {ph : PH} {Q : Option Value → PH → Prop} {B : PH} {p : Nat → Int32} {a : Nat → Nat → Int32} {z : Nat → Int32}
theorem zi_const (hk : k < 186) {pc a b x len : Nat} {w c : Int} {ts : List Nat} (hrow : (codeOf k)[j]? = some (pc, .iconst w, a, b, x, len, ts)) (hc : (a : Int) - 2147483648 = c) (h : ZR d k (j + 1) lv (.int (iv c) :: st) ph Q) : ZR d k j lv st ph Q := by
  refine zr_iconst hk hrow ?_
  rw [oI_iv, hc]
  exact h
theorem zi_istore (hk : k < 186) {pc a b len n : Nat} {z : Int32} {ts : List Nat} {lv' : List (Option Value)} (hrow : (codeOf k)[j]? = some (pc, .istore n, a, b, 0, len, ts)) (hp : preZ lv a = true) (hl : lzS lv a (.int z) = lv') (h : ZR d k (j + 1) lv' st ph Q) : ZR d k j lv (.int z :: st) ph Q := by
  refine zr_istore hk hrow hp ?_
  rw [hl]
  exact h
theorem zi_inc (hk : k < 186) {pc a b x len n : Nat} {m : Int} {e c : Int} {ts : List Nat} {lv' : List (Option Value)} (hrow : (codeOf k)[j]? = some (pc, .iinc n m, a, b, x, len, ts)) (hg : lv[a]? = some (some (.int (iv e)))) (hp : preZ lv a = true) (hc : Int32.ofNat b = iv c) (hl : lzS lv a (.int (iv (e + c))) = lv') (h : ZR d k (j + 1) lv' st ph Q) : ZR d k j lv st ph Q := by
  refine zr_iinc hk hrow hg hp ?_
  rw [hc, iv_add, hl]
  exact h
theorem zi_add (hk : k < 186) {pc a b x len : Nat} {ts : List Nat} {e f : Int} (hrow : (codeOf k)[j]? = some (pc, .iadd, a, b, x, len, ts)) (h : ZR d k (j + 1) lv (.int (iv (e + f)) :: st) ph Q) : ZR d k j lv (.int (iv f) :: .int (iv e) :: st) ph Q := by
  refine zr_iadd hk hrow ?_
  rw [iv_add]
  exact h
theorem zi_sub (hk : k < 186) {pc a b x len : Nat} {ts : List Nat} {e f : Int} (hrow : (codeOf k)[j]? = some (pc, .isub, a, b, x, len, ts)) (h : ZR d k (j + 1) lv (.int (iv (e - f)) :: st) ph Q) : ZR d k j lv (.int (iv f) :: .int (iv e) :: st) ph Q := by
  refine zr_isub hk hrow ?_
  rw [iv_sub]
  exact h
theorem zi_mul (hk : k < 186) {pc a b x len : Nat} {ts : List Nat} {e f : Int} (hrow : (codeOf k)[j]? = some (pc, .imul, a, b, x, len, ts)) (h : ZR d k (j + 1) lv (.int (iv (e * f)) :: st) ph Q) : ZR d k j lv (.int (iv f) :: .int (iv e) :: st) ph Q := by
  refine zr_imul hk hrow ?_
  rw [iv_mul]
  exact h
theorem zi_rem (hk : k < 186) {pc a b x len : Nat} {ts : List Nat} {e f : Int} (hrow : (codeOf k)[j]? = some (pc, .irem, a, b, x, len, ts)) (he : 0 ≤ e ∧ e < 2147483648) (hf : 0 < f ∧ f < 2147483648) (h : ZR d k (j + 1) lv (.int (iv (e % f)) :: st) ph Q) : ZR d k j lv (.int (iv f) :: .int (iv e) :: st) ph Q := by
  refine zr_irem hk hrow (fun z => ?_) ?_
  · have := (iv_eq (a := f) (b := 0) (by unfold inR; omega) (by unfold inR; omega)).mp z
    omega
  · rw [iv_rem he.1 he.2 hf.1 hf.2]
    exact h
theorem zi_icmp_eq (hk : k < 186) {pc a b w : Nat} {o : Int} {x y : Int} {ts : List Nat} (hrow : (codeOf k)[j]? = some (pc, .if_icmp .eq o, a, b, w, 3, ts)) (hx : inR x) (hy : inR y) (hT : x = y → ZR d k b lv st ph Q) (hF : ¬ x = y → ZR d k (j + 1) lv st ph Q) : ZR d k j lv (.int (iv y) :: .int (iv x) :: st) ph Q := by
  refine zr_icmp_eq hk hrow ?_
  by_cases h : x = y
  · rw [decide_eq_true (show iv x = iv y from (iv_eq hx hy).mpr h)]
    exact hT h
  · rw [decide_eq_false (show ¬ (iv x = iv y) from fun w => h ((iv_eq hx hy).mp w))]
    exact hF h
theorem zi_if_eq (hk : k < 186) {pc a b w : Nat} {o : Int} {x : Int} {ts : List Nat} (hrow : (codeOf k)[j]? = some (pc, .ifCond .eq o, a, b, w, 3, ts)) (hx : inR x) (hT : x = 0 → ZR d k b lv st ph Q) (hF : ¬ x = 0 → ZR d k (j + 1) lv st ph Q) : ZR d k j lv (.int (iv x) :: st) ph Q := by
  have hy := inR_0
  refine zr_if_eq hk hrow ?_
  by_cases h : x = 0
  · rw [decide_eq_true (show iv x = (0 : Int32) from (iv_eq hx hy).mpr h)]
    exact hT h
  · rw [decide_eq_false (show ¬ (iv x = (0 : Int32)) from fun w => h ((iv_eq hx hy).mp w))]
    exact hF h
theorem zo_icmp_eq (hk : k < 186) {pc a b w : Nat} {o : Int} {x y : Int32} {ts : List Nat} (hrow : (codeOf k)[j]? = some (pc, .if_icmp .eq o, a, b, w, 3, ts)) (hT : x = y → ZR d k b lv st ph Q) (hF : ¬ x = y → ZR d k (j + 1) lv st ph Q) : ZR d k j lv (.int y :: .int x :: st) ph Q := by
  refine zr_icmp_eq hk hrow ?_
  by_cases h : x = y
  · rw [decide_eq_true h]
    exact hT h
  · rw [decide_eq_false h]
    exact hF h
theorem zo_if_eq (hk : k < 186) {pc a b w : Nat} {o : Int} {x : Int32} {ts : List Nat} (hrow : (codeOf k)[j]? = some (pc, .ifCond .eq o, a, b, w, 3, ts)) (hT : x = 0 → ZR d k b lv st ph Q) (hF : ¬ x = 0 → ZR d k (j + 1) lv st ph Q) : ZR d k j lv (.int x :: st) ph Q := by
  refine zr_if_eq hk hrow ?_
  by_cases h : x = 0
  · rw [decide_eq_true h]
    exact hT h
  · rw [decide_eq_false h]
    exact hF h
theorem zi_icmp_ne (hk : k < 186) {pc a b w : Nat} {o : Int} {x y : Int} {ts : List Nat} (hrow : (codeOf k)[j]? = some (pc, .if_icmp .ne o, a, b, w, 3, ts)) (hx : inR x) (hy : inR y) (hT : ¬ x = y → ZR d k b lv st ph Q) (hF : x = y → ZR d k (j + 1) lv st ph Q) : ZR d k j lv (.int (iv y) :: .int (iv x) :: st) ph Q := by
  refine zr_icmp_ne hk hrow ?_
  by_cases h : ¬ x = y
  · rw [decide_eq_true (show ¬ iv x = iv y from fun w => h ((iv_eq hx hy).mp w))]
    exact hT h
  · rw [decide_eq_false (show ¬ (¬ iv x = iv y) from fun w => h (fun u => w ((iv_eq hx hy).mpr u)))]
    exact hF (Decidable.of_not_not h)
theorem zi_if_ne (hk : k < 186) {pc a b w : Nat} {o : Int} {x : Int} {ts : List Nat} (hrow : (codeOf k)[j]? = some (pc, .ifCond .ne o, a, b, w, 3, ts)) (hx : inR x) (hT : ¬ x = 0 → ZR d k b lv st ph Q) (hF : x = 0 → ZR d k (j + 1) lv st ph Q) : ZR d k j lv (.int (iv x) :: st) ph Q := by
  have hy := inR_0
  refine zr_if_ne hk hrow ?_
  by_cases h : ¬ x = 0
  · rw [decide_eq_true (show ¬ iv x = (0 : Int32) from fun w => h ((iv_eq hx hy).mp w))]
    exact hT h
  · rw [decide_eq_false (show ¬ (¬ iv x = (0 : Int32)) from fun w => h (fun u => w ((iv_eq hx hy).mpr u)))]
    exact hF (Decidable.of_not_not h)
theorem zo_icmp_ne (hk : k < 186) {pc a b w : Nat} {o : Int} {x y : Int32} {ts : List Nat} (hrow : (codeOf k)[j]? = some (pc, .if_icmp .ne o, a, b, w, 3, ts)) (hT : ¬ x = y → ZR d k b lv st ph Q) (hF : x = y → ZR d k (j + 1) lv st ph Q) : ZR d k j lv (.int y :: .int x :: st) ph Q := by
  refine zr_icmp_ne hk hrow ?_
  by_cases h : ¬ x = y
  · rw [decide_eq_true h]
    exact hT h
  · rw [decide_eq_false h]
    exact hF (Decidable.of_not_not h)
theorem zo_if_ne (hk : k < 186) {pc a b w : Nat} {o : Int} {x : Int32} {ts : List Nat} (hrow : (codeOf k)[j]? = some (pc, .ifCond .ne o, a, b, w, 3, ts)) (hT : ¬ x = 0 → ZR d k b lv st ph Q) (hF : x = 0 → ZR d k (j + 1) lv st ph Q) : ZR d k j lv (.int x :: st) ph Q := by
  refine zr_if_ne hk hrow ?_
  by_cases h : ¬ x = 0
  · rw [decide_eq_true h]
    exact hT h
  · rw [decide_eq_false h]
    exact hF (Decidable.of_not_not h)
theorem zi_icmp_lt (hk : k < 186) {pc a b w : Nat} {o : Int} {x y : Int} {ts : List Nat} (hrow : (codeOf k)[j]? = some (pc, .if_icmp .lt o, a, b, w, 3, ts)) (hx : inR x) (hy : inR y) (hT : x < y → ZR d k b lv st ph Q) (hF : y ≤ x → ZR d k (j + 1) lv st ph Q) : ZR d k j lv (.int (iv y) :: .int (iv x) :: st) ph Q := by
  refine zr_icmp_lt hk hrow ?_
  by_cases h : x < y
  · rw [decide_eq_true (show iv x < iv y from (iv_lt hx hy).mpr h)]
    exact hT h
  · rw [decide_eq_false (show ¬ (iv x < iv y) from fun w => h ((iv_lt hx hy).mp w))]
    exact hF (by omega)
theorem zi_if_lt (hk : k < 186) {pc a b w : Nat} {o : Int} {x : Int} {ts : List Nat} (hrow : (codeOf k)[j]? = some (pc, .ifCond .lt o, a, b, w, 3, ts)) (hx : inR x) (hT : x < 0 → ZR d k b lv st ph Q) (hF : 0 ≤ x → ZR d k (j + 1) lv st ph Q) : ZR d k j lv (.int (iv x) :: st) ph Q := by
  have hy := inR_0
  refine zr_if_lt hk hrow ?_
  by_cases h : x < 0
  · rw [decide_eq_true (show iv x < (0 : Int32) from (iv_lt hx hy).mpr h)]
    exact hT h
  · rw [decide_eq_false (show ¬ (iv x < (0 : Int32)) from fun w => h ((iv_lt hx hy).mp w))]
    exact hF (by omega)
theorem zo_icmp_lt (hk : k < 186) {pc a b w : Nat} {o : Int} {x y : Int32} {ts : List Nat} (hrow : (codeOf k)[j]? = some (pc, .if_icmp .lt o, a, b, w, 3, ts)) (hT : x < y → ZR d k b lv st ph Q) (hF : ¬ x < y → ZR d k (j + 1) lv st ph Q) : ZR d k j lv (.int y :: .int x :: st) ph Q := by
  refine zr_icmp_lt hk hrow ?_
  by_cases h : x < y
  · rw [decide_eq_true h]
    exact hT h
  · rw [decide_eq_false h]
    exact hF h
theorem zo_if_lt (hk : k < 186) {pc a b w : Nat} {o : Int} {x : Int32} {ts : List Nat} (hrow : (codeOf k)[j]? = some (pc, .ifCond .lt o, a, b, w, 3, ts)) (hT : x < 0 → ZR d k b lv st ph Q) (hF : ¬ x < 0 → ZR d k (j + 1) lv st ph Q) : ZR d k j lv (.int x :: st) ph Q := by
  refine zr_if_lt hk hrow ?_
  by_cases h : x < 0
  · rw [decide_eq_true h]
    exact hT h
  · rw [decide_eq_false h]
    exact hF h
theorem zi_icmp_ge (hk : k < 186) {pc a b w : Nat} {o : Int} {x y : Int} {ts : List Nat} (hrow : (codeOf k)[j]? = some (pc, .if_icmp .ge o, a, b, w, 3, ts)) (hx : inR x) (hy : inR y) (hT : y ≤ x → ZR d k b lv st ph Q) (hF : x < y → ZR d k (j + 1) lv st ph Q) : ZR d k j lv (.int (iv y) :: .int (iv x) :: st) ph Q := by
  refine zr_icmp_ge hk hrow ?_
  by_cases h : y ≤ x
  · rw [decide_eq_true (show iv y ≤ iv x from (iv_le hy hx).mpr h)]
    exact hT h
  · rw [decide_eq_false (show ¬ (iv y ≤ iv x) from fun w => h ((iv_le hy hx).mp w))]
    exact hF (by omega)
theorem zi_if_ge (hk : k < 186) {pc a b w : Nat} {o : Int} {x : Int} {ts : List Nat} (hrow : (codeOf k)[j]? = some (pc, .ifCond .ge o, a, b, w, 3, ts)) (hx : inR x) (hT : 0 ≤ x → ZR d k b lv st ph Q) (hF : x < 0 → ZR d k (j + 1) lv st ph Q) : ZR d k j lv (.int (iv x) :: st) ph Q := by
  have hy := inR_0
  refine zr_if_ge hk hrow ?_
  by_cases h : 0 ≤ x
  · rw [decide_eq_true (show (0 : Int32) ≤ iv x from (iv_le hy hx).mpr h)]
    exact hT h
  · rw [decide_eq_false (show ¬ ((0 : Int32) ≤ iv x) from fun w => h ((iv_le hy hx).mp w))]
    exact hF (by omega)
theorem zo_icmp_ge (hk : k < 186) {pc a b w : Nat} {o : Int} {x y : Int32} {ts : List Nat} (hrow : (codeOf k)[j]? = some (pc, .if_icmp .ge o, a, b, w, 3, ts)) (hT : y ≤ x → ZR d k b lv st ph Q) (hF : ¬ y ≤ x → ZR d k (j + 1) lv st ph Q) : ZR d k j lv (.int y :: .int x :: st) ph Q := by
  refine zr_icmp_ge hk hrow ?_
  by_cases h : y ≤ x
  · rw [decide_eq_true h]
    exact hT h
  · rw [decide_eq_false h]
    exact hF h
theorem zo_if_ge (hk : k < 186) {pc a b w : Nat} {o : Int} {x : Int32} {ts : List Nat} (hrow : (codeOf k)[j]? = some (pc, .ifCond .ge o, a, b, w, 3, ts)) (hT : 0 ≤ x → ZR d k b lv st ph Q) (hF : ¬ 0 ≤ x → ZR d k (j + 1) lv st ph Q) : ZR d k j lv (.int x :: st) ph Q := by
  refine zr_if_ge hk hrow ?_
  by_cases h : 0 ≤ x
  · rw [decide_eq_true h]
    exact hT h
  · rw [decide_eq_false h]
    exact hF h
theorem zi_icmp_gt (hk : k < 186) {pc a b w : Nat} {o : Int} {x y : Int} {ts : List Nat} (hrow : (codeOf k)[j]? = some (pc, .if_icmp .gt o, a, b, w, 3, ts)) (hx : inR x) (hy : inR y) (hT : y < x → ZR d k b lv st ph Q) (hF : x ≤ y → ZR d k (j + 1) lv st ph Q) : ZR d k j lv (.int (iv y) :: .int (iv x) :: st) ph Q := by
  refine zr_icmp_gt hk hrow ?_
  by_cases h : y < x
  · rw [decide_eq_true (show iv y < iv x from (iv_lt hy hx).mpr h)]
    exact hT h
  · rw [decide_eq_false (show ¬ (iv y < iv x) from fun w => h ((iv_lt hy hx).mp w))]
    exact hF (by omega)
theorem zi_if_gt (hk : k < 186) {pc a b w : Nat} {o : Int} {x : Int} {ts : List Nat} (hrow : (codeOf k)[j]? = some (pc, .ifCond .gt o, a, b, w, 3, ts)) (hx : inR x) (hT : 0 < x → ZR d k b lv st ph Q) (hF : x ≤ 0 → ZR d k (j + 1) lv st ph Q) : ZR d k j lv (.int (iv x) :: st) ph Q := by
  have hy := inR_0
  refine zr_if_gt hk hrow ?_
  by_cases h : 0 < x
  · rw [decide_eq_true (show (0 : Int32) < iv x from (iv_lt hy hx).mpr h)]
    exact hT h
  · rw [decide_eq_false (show ¬ ((0 : Int32) < iv x) from fun w => h ((iv_lt hy hx).mp w))]
    exact hF (by omega)
theorem zo_icmp_gt (hk : k < 186) {pc a b w : Nat} {o : Int} {x y : Int32} {ts : List Nat} (hrow : (codeOf k)[j]? = some (pc, .if_icmp .gt o, a, b, w, 3, ts)) (hT : y < x → ZR d k b lv st ph Q) (hF : ¬ y < x → ZR d k (j + 1) lv st ph Q) : ZR d k j lv (.int y :: .int x :: st) ph Q := by
  refine zr_icmp_gt hk hrow ?_
  by_cases h : y < x
  · rw [decide_eq_true h]
    exact hT h
  · rw [decide_eq_false h]
    exact hF h
theorem zo_if_gt (hk : k < 186) {pc a b w : Nat} {o : Int} {x : Int32} {ts : List Nat} (hrow : (codeOf k)[j]? = some (pc, .ifCond .gt o, a, b, w, 3, ts)) (hT : 0 < x → ZR d k b lv st ph Q) (hF : ¬ 0 < x → ZR d k (j + 1) lv st ph Q) : ZR d k j lv (.int x :: st) ph Q := by
  refine zr_if_gt hk hrow ?_
  by_cases h : 0 < x
  · rw [decide_eq_true h]
    exact hT h
  · rw [decide_eq_false h]
    exact hF h
theorem zi_icmp_le (hk : k < 186) {pc a b w : Nat} {o : Int} {x y : Int} {ts : List Nat} (hrow : (codeOf k)[j]? = some (pc, .if_icmp .le o, a, b, w, 3, ts)) (hx : inR x) (hy : inR y) (hT : x ≤ y → ZR d k b lv st ph Q) (hF : y < x → ZR d k (j + 1) lv st ph Q) : ZR d k j lv (.int (iv y) :: .int (iv x) :: st) ph Q := by
  refine zr_icmp_le hk hrow ?_
  by_cases h : x ≤ y
  · rw [decide_eq_true (show iv x ≤ iv y from (iv_le hx hy).mpr h)]
    exact hT h
  · rw [decide_eq_false (show ¬ (iv x ≤ iv y) from fun w => h ((iv_le hx hy).mp w))]
    exact hF (by omega)
theorem zi_if_le (hk : k < 186) {pc a b w : Nat} {o : Int} {x : Int} {ts : List Nat} (hrow : (codeOf k)[j]? = some (pc, .ifCond .le o, a, b, w, 3, ts)) (hx : inR x) (hT : x ≤ 0 → ZR d k b lv st ph Q) (hF : 0 < x → ZR d k (j + 1) lv st ph Q) : ZR d k j lv (.int (iv x) :: st) ph Q := by
  have hy := inR_0
  refine zr_if_le hk hrow ?_
  by_cases h : x ≤ 0
  · rw [decide_eq_true (show iv x ≤ (0 : Int32) from (iv_le hx hy).mpr h)]
    exact hT h
  · rw [decide_eq_false (show ¬ (iv x ≤ (0 : Int32)) from fun w => h ((iv_le hx hy).mp w))]
    exact hF (by omega)
theorem zo_icmp_le (hk : k < 186) {pc a b w : Nat} {o : Int} {x y : Int32} {ts : List Nat} (hrow : (codeOf k)[j]? = some (pc, .if_icmp .le o, a, b, w, 3, ts)) (hT : x ≤ y → ZR d k b lv st ph Q) (hF : ¬ x ≤ y → ZR d k (j + 1) lv st ph Q) : ZR d k j lv (.int y :: .int x :: st) ph Q := by
  refine zr_icmp_le hk hrow ?_
  by_cases h : x ≤ y
  · rw [decide_eq_true h]
    exact hT h
  · rw [decide_eq_false h]
    exact hF h
theorem zo_if_le (hk : k < 186) {pc a b w : Nat} {o : Int} {x : Int32} {ts : List Nat} (hrow : (codeOf k)[j]? = some (pc, .ifCond .le o, a, b, w, 3, ts)) (hT : x ≤ 0 → ZR d k b lv st ph Q) (hF : ¬ x ≤ 0 → ZR d k (j + 1) lv st ph Q) : ZR d k j lv (.int x :: st) ph Q := by
  refine zr_if_le hk hrow ?_
  by_cases h : x ≤ 0
  · rw [decide_eq_true h]
    exact hT h
  · rw [decide_eq_false h]
    exact hF h
theorem zr_ireturnB (hk : k < 186) {pc b x : Nat} {z : Int32} {ts : List Nat} (hrow : (codeOf k)[j]? = some (pc, .ireturn, 2, b, x, 1, ts)) (hz : z = 0 ∨ z = 1) (h : Q (some (.int z)) ph) : ZR d k j lv [.int z] ph Q := by
  intro clv nc ns hL
  obtain ⟨M, hM⟩ := zr_M hk
  obtain ⟨i, ln, hd, hl, hn⟩ := row_at hM hrow (by simp)
  have hl : ln = 1 := hl
  subst hl
  refine ⟨_, hrow, 1, some (.int z), ph, nc, ns, ?_, h⟩
  cases i <;> simp [nrm] at hn
  have h0 : mR M = some .boolean := retT_2 hn.symm
  rw [run, hM]
  dsimp only
  rw [hd]
  rcases hz with rfl | rfl <;> simp [x_ca, x_re, h0]
theorem mz_getf (hk : k < 186) (hB : 87 ≤ B.length) {pc b x ix : Nat} {w : Value} {ts : List Nat} (hrow : (codeOf k)[j]? = some (pc, .getfield ix, 9, b, x, 3, ts)) (hw : (mz z)[b]? = some w) (h : ZR d k (j + 1) lv (w :: st) (mh B p a z) Q) : ZR d k j lv (.ref 75 :: st) (mh B p a z) Q :=
  zr_getfield hk hrow (mh_obj hB) (by decide) hw h
theorem mz_pld (hk : k < 186) (hB : 87 ≤ B.length) {pc c b x : Nat} {e : Int} {ts : List Nat} (hrow : (codeOf k)[j]? = some (pc, .iaload, c, b, x, 1, ts)) (i : Nat) (he : e = (i : Int)) (hi : i < 14000) (h : ZR d k (j + 1) lv (.int (p i) :: st) (mh B p a z) Q) : ZR d k j lv (.int (iv e) :: .ref 76 :: st) (mh B p a z) Q := by
  obtain ⟨h1, h2⟩ := iv_clamp he (by omega)
  refine zr_iaload hk hrow (mh_pg hB) h1 (by rw [h2]; exact hi) ?_
  rw [h2]
  exact h
theorem mz_plde (hk : k < 186) (hB : 87 ≤ B.length) {pc c b x : Nat} {e : Int} {ts : List Nat} (hrow : (codeOf k)[j]? = some (pc, .iaload, c, b, x, 1, ts)) (i : Nat) (he : e = (i : Int)) (hi : i < 14000) {f : Int32} (hf : p i = f) (h : ZR d k (j + 1) lv (.int f :: st) (mh B p a z) Q) : ZR d k j lv (.int (iv e) :: .ref 76 :: st) (mh B p a z) Q := by
  subst hf
  exact mz_pld hk hB hrow i he hi h
theorem mz_pst (hk : k < 186) (hB : 87 ≤ B.length) {pc c b x : Nat} {e : Int} {y : Int32} {ts : List Nat} (hrow : (codeOf k)[j]? = some (pc, .iastore, c, b, x, 1, ts)) (i : Nat) (he : e = (i : Int)) (hi : i < 14000) (h : ZR d k (j + 1) lv st (mh B (upd p i y) a z) Q) : ZR d k j lv (.int y :: .int (iv e) :: .ref 76 :: st) (mh B p a z) Q := by
  obtain ⟨h1, h2⟩ := iv_clamp he (by omega)
  refine zr_iastore hk hrow (mh_pg hB) h1 (by rw [h2]; exact hi) (by decide) ?_
  rw [h2, mh_pgS hB]
  exact h
theorem mz_ald (hk : k < 186) {pc c b x A n : Nat} {f : Nat → Int32} {e : Int} {ts : List Nat} (hv : ph[A]? = some (.inl (n, f))) (hrow : (codeOf k)[j]? = some (pc, .iaload, c, b, x, 1, ts)) (i : Nat) (he : e = (i : Int)) (hi : i < n) (hn : n < 20000) (h : ZR d k (j + 1) lv (.int (f i) :: st) ph Q) : ZR d k j lv (.int (iv e) :: .ref A :: st) ph Q := by
  obtain ⟨h1, h2⟩ := iv_clamp he (by omega)
  refine zr_iaload hk hrow hv h1 (by rw [h2]; exact hi) ?_
  rw [h2]
  exact h
theorem mz_aldE (hk : k < 186) {pc c b x A n : Nat} {f : Nat → Int32} {e : Int} {ts : List Nat} (hv : ph[A]? = some (.inl (n, f))) (hrow : (codeOf k)[j]? = some (pc, .iaload, c, b, x, 1, ts)) (i : Nat) (he : e = (i : Int)) (hi : i < n) (hn : n < 20000) {g : Int32} (hg : f i = g) (h : ZR d k (j + 1) lv (.int g :: st) ph Q) : ZR d k j lv (.int (iv e) :: .ref A :: st) ph Q := by
  subst hg
  exact mz_ald hk hv hrow i he hi hn h
theorem mz_ast (hk : k < 186) {pc c b x A n : Nat} {f : Nat → Int32} {e : Int} {y : Int32} {ph' : PH} {ts : List Nat} (hv : ph[A]? = some (.inl (n, f))) (hA : 2 ≤ A) (hrow : (codeOf k)[j]? = some (pc, .iastore, c, b, x, 1, ts)) (i : Nat) (he : e = (i : Int)) (hi : i < n) (hn : n < 20000) (hs : ph.set A (.inl (n, upd f i y)) = ph') (h : ZR d k (j + 1) lv st ph' Q) : ZR d k j lv (.int y :: .int (iv e) :: .ref A :: st) ph Q := by
  obtain ⟨h1, h2⟩ := iv_clamp he (by omega)
  refine zr_iastore hk hrow hv h1 (by rw [h2]; exact hi) hA ?_
  rw [h2, hs]
  exact h
theorem mz_putf (hk : k < 186) (hB : 87 ≤ B.length) {pc b ix : Nat} {y : Int32} {z' : Nat → Int32} {ts : List Nat} (hrow : (codeOf k)[j]? = some (pc, .putfield ix, 9, b, 0, 3, ts)) (hb : b < 15) (hs : (mh B p a z).set 75 (.inr (.inr (9, (mz z).set b (.int y)))) = mh B p a z') (h : ZR d k (j + 1) lv st (mh B p a z') Q) : ZR d k j lv (.int y :: .ref 75 :: st) (mh B p a z) Q := by
  refine zr_putI hk hrow (mh_obj hB) (by decide) hb ?_
  rw [hs]
  exact h
/-- a call of the other side's own -/
theorem mz_call (hk : k < 186) (hB : 87 ≤ B.length) {pc b x kc n L ix : Nat} {ts : List Nat} {as r : List Value} {P : Option Value → PH → Prop} (hrow : (codeOf k)[j]? = some (pc, .invokevirtual ix, kc, b, x, 3, ts)) (hkc : kc < 186) (h0 : kc ≠ 0) (hI : (tget CM 8 kc mTab).2.1 = L ∧ (tget CM 8 kc mTab).2.2.1 = n ∧ (tget CM 8 kc mTab).2.2.2.1 = 0 ∧ (tget CM 8 kc mTab).2.2.2.2.1 = 9) (hn : as.length = n) (hst : st = as.reverse ++ .ref 75 :: r) (hcat : catS r ≤ 8) (hl : (lg_sl (.ref 75 :: as)).length ≤ L)
    (hc : ZC d kc (.ref 75 :: as) (mh B p a z) P) (h : ∀ w ph', P w ph' → ZR (d + 1) k (j + 1) lv (w.toList ++ r) ph' Q) : ZR (d + 1) k j lv st (mh B p a z) Q :=
  zr_virtual hk hrow hkc h0 hI (mh_obj hB) (by decide) hn hst hcat hl hc h
end MB

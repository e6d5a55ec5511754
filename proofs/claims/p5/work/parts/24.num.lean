/-! ===== the evaluator's numbers, trees and cells against the pure machine's ===== -/
def oI (v : Nat) : Int32 := Int32.ofNat (v + oZ)
def oL (v : Nat) : Int64 := Int64.ofNat (v + oY)
theorem oI_toInt {v : Nat} (h : v < oM) : (oI v).toInt = (v : Int) - 2147483648 := by
  unfold oI oZ
  unfold oM at h
  rw [Int32.toInt_ofNat', Int.bmod_def]
  show (if ((v + 2147483648 : Nat) : Int) % ((4294967296 : Nat) : Int) < (((4294967296 : Nat) : Int) + 1) / 2 then ((v + 2147483648 : Nat) : Int) % ((4294967296 : Nat) : Int) else ((v + 2147483648 : Nat) : Int) % ((4294967296 : Nat) : Int) - ((4294967296 : Nat) : Int)) = _
  split <;> omega
theorem oL_toInt {v : Nat} (h : v < oN) : (oL v).toInt = (v : Int) - 9223372036854775808 := by
  unfold oL oY
  unfold oN at h
  rw [Int64.toInt_ofNat', Int.bmod_def]
  show (if ((v + 9223372036854775808 : Nat) : Int) % ((18446744073709551616 : Nat) : Int) < (((18446744073709551616 : Nat) : Int) + 1) / 2 then ((v + 9223372036854775808 : Nat) : Int) % ((18446744073709551616 : Nat) : Int) else ((v + 9223372036854775808 : Nat) : Int) % ((18446744073709551616 : Nat) : Int) - ((18446744073709551616 : Nat) : Int)) = _
  split <;> omega
/-- numbers that are the same modulo 2^32 are the same int -/
theorem ofNat_mod32 (n : Nat) : Int32.ofNat (n % oM) = Int32.ofNat n := by
  apply Int32.toInt.inj
  rw [Int32.toInt_ofNat', Int32.toInt_ofNat']
  show (((n % 4294967296 : Nat) : Int)).bmod 4294967296 = ((n : Nat) : Int).bmod 4294967296
  rw [Int.natCast_emod]
  exact Int.emod_bmod _ _
theorem ofNat_mod64 (n : Nat) : Int64.ofNat (n % oN) = Int64.ofNat n := by
  apply Int64.toInt.inj
  rw [Int64.toInt_ofNat', Int64.toInt_ofNat']
  show (((n % 18446744073709551616 : Nat) : Int)).bmod 18446744073709551616 = ((n : Nat) : Int).bmod 18446744073709551616
  rw [Int.natCast_emod]
  exact Int.emod_bmod _ _
theorem oI_mod (n : Nat) : oI (n % oM) = oI n := by
  unfold oI
  rw [Int32.ofNat_add, ofNat_mod32, ← Int32.ofNat_add]
theorem oI_per (n : Nat) : Int32.ofNat (n + oM) = Int32.ofNat n := by
  have e : (n + oM) % oM = n % oM := Nat.add_mod_right n oM
  rw [← ofNat_mod32 (n + oM), e, ofNat_mod32]
theorem oL_mod (n : Nat) : oL (n % oN) = oL n := by
  unfold oL
  rw [Int64.ofNat_add, ofNat_mod64, ← Int64.ofNat_add]
theorem oL_per (n : Nat) : Int64.ofNat (n + oN) = Int64.ofNat n := by
  have e : (n + oN) % oN = n % oN := Nat.add_mod_right n oN
  rw [← ofNat_mod64 (n + oN), e, ofNat_mod64]
theorem oI_add (a b : Nat) : oI ((a + b + oZ) % oM) = oI a + oI b := by
  rw [oI_mod]
  unfold oI
  have e : a + b + oZ + oZ = (a + oZ) + (b + oZ) := by omega
  rw [e, Int32.ofNat_add (a + oZ)]
theorem oI_sub {a b : Nat} (hb : b ≤ oM) : oI ((a + (oM - b) + oZ) % oM) = oI a - oI b := by
  rw [oI_mod]
  have h : oI (a + (oM - b) + oZ) + oI b = oI a := by
    unfold oI
    rw [← Int32.ofNat_add]
    have e : a + (oM - b) + oZ + oZ + (b + oZ) = (a + oZ) + oM + oM := by unfold oM oZ at *; omega
    rw [e, oI_per, oI_per]
  rw [← h]
  exact (Int32.add_sub_cancel _ _).symm
theorem oI_mul (a b : Nat) : oI (((a + oZ) * (b + oZ) + oZ) % oM) = oI a * oI b := by
  rw [oI_mod]
  unfold oI
  rw [← Int32.ofNat_mul]
  have e : (a + oZ) * (b + oZ) + oZ + oZ = (a + oZ) * (b + oZ) + oM := by unfold oM oZ; omega
  rw [e, oI_per]
theorem oI_neg {a : Nat} (h : a ≤ oM) : oI ((oM - a) % oM) = -oI a := by
  rw [oI_mod]
  have h1 : oI (oM - a) + oI a = 0 := by
    unfold oI
    rw [← Int32.ofNat_add]
    have e : oM - a + oZ + (a + oZ) = 0 + oM + oM := by unfold oM oZ at *; omega
    rw [e, oI_per, oI_per]
    rfl
  have h2 : oI (oM - a) = 0 - oI a := by rw [← h1, Int32.add_sub_cancel]
  rw [h2, Int32.zero_sub]
theorem oL_add (a b : Nat) : oL ((a + b + oY) % oN) = oL a + oL b := by
  rw [oL_mod]
  unfold oL
  have e : a + b + oY + oY = (a + oY) + (b + oY) := by omega
  rw [e, Int64.ofNat_add (a + oY)]
theorem oL_sub {a b : Nat} (hb : b ≤ oN) : oL ((a + (oN - b) + oY) % oN) = oL a - oL b := by
  rw [oL_mod]
  have h : oL (a + (oN - b) + oY) + oL b = oL a := by
    unfold oL
    rw [← Int64.ofNat_add]
    have e : a + (oN - b) + oY + oY + (b + oY) = (a + oY) + oN + oN := by unfold oN oY at *; omega
    rw [e, oL_per, oL_per]
  rw [← h]
  exact (Int64.add_sub_cancel _ _).symm
theorem oL_mul (a b : Nat) : oL (((a + oY) * (b + oY) + oY) % oN) = oL a * oL b := by
  rw [oL_mod]
  unfold oL
  rw [← Int64.ofNat_mul]
  have e : (a + oY) * (b + oY) + oY + oY = (a + oY) * (b + oY) + oN := by unfold oN oY; omega
  rw [e, oL_per]
theorem oI_lt {a b : Nat} (ha : a < oM) (hb : b < oM) : oI a < oI b ↔ a < b := by
  rw [Int32.lt_iff_toInt_lt, oI_toInt ha, oI_toInt hb]
  omega
theorem oI_inj {a b : Nat} (ha : a < oM) (hb : b < oM) : oI a = oI b ↔ a = b := by
  constructor
  · intro h
    have := congrArg Int32.toInt h
    rw [oI_toInt ha, oI_toInt hb] at this
    omega
  · rintro rfl
    rfl
theorem oL_lt {a b : Nat} (ha : a < oN) (hb : b < oN) : oL a < oL b ↔ a < b := by
  rw [Int64.lt_iff_toInt_lt, oL_toInt ha, oL_toInt hb]
  omega
theorem oL_inj {a b : Nat} (ha : a < oN) (hb : b < oN) : oL a = oL b ↔ a = b := by
  constructor
  · intro h
    have := congrArg Int64.toInt h
    rw [oL_toInt ha, oL_toInt hb] at this
    omega
  · rintro rfl
    rfl
/-- an int that is not negative -/
theorem oI_pos {a : Nat} (h : oZ ≤ a) (ha : a < oM) : oI a = nI (a - oZ) := by
  apply Int32.toInt.inj
  unfold oZ oM at *
  rw [oI_toInt (by unfold oM; omega), nI_toInt (by omega)]
  omega
theorem oI_clamp {a : Nat} (h : oZ ≤ a) (ha : a < oM) : (oI a).toNatClampNeg = a - oZ ∧ 0 ≤ oI a := by
  rw [oI_pos h ha]
  unfold oZ oM at *
  exact ⟨nI_clamp (by omega), nI_pos' (by omega)⟩
/-- the number of an int -/
def cI' (x : Int32) : Nat := (x.toInt + 2147483648).toNat
theorem cI'_lt (x : Int32) : cI' x < oM := by
  have h1 := x.toInt_lt
  have h2 := x.le_toInt
  unfold cI' oM
  omega
theorem oI_cI (x : Int32) : oI (cI' x) = x := by
  apply Int32.toInt.inj
  rw [oI_toInt (cI'_lt x)]
  have h2 := x.le_toInt
  unfold cI'
  omega
/-! trees -/
theorem tget_z (α : Type) (i : Nat) (t : TTy α 0) : tget α 0 i t = t := rfl
theorem tget_s (α : Type) (k i : Nat) (a b : TTy α k) : tget α (k + 1) i ((a, b) : TTy α k × TTy α k) = bif Nat.blt i (2 ^ k) then tget α k i a else tget α k (i - 2 ^ k) b := rfl
noncomputable def tput (α : Type) (k i : Nat) (x : α) (t : TTy α k) : TTy α k := tset α (TTy α k) k i x t id
theorem tset_s (α R : Type) (k i : Nat) (x : α) (a b : TTy α k) (K : TTy α (k + 1) → R) : tset α R (k + 1) i x ((a, b) : TTy α k × TTy α k) K = bif Nat.blt i (2 ^ k) then tset α R k i x a (fun l => K (l, b)) else tset α R k (i - 2 ^ k) x b (fun r => K (a, r)) := rfl
theorem tset_put (α : Type) : ∀ (k : Nat) (R : Type) (i : Nat) (x : α) (t : TTy α k) (K : TTy α k → R), tset α R k i x t K = K (tput α k i x t)
  | 0, R, i, x, t, K => rfl
  | k + 1, R, i, x, t, K => by
    obtain ⟨a, b⟩ : TTy α k × TTy α k := t
    unfold tput
    rw [tset_s, tset_s]
    cases Nat.blt i (2 ^ k) with
    | true => rw [cond_true, cond_true, tset_put α k, tset_put α k]; rfl
    | false => rw [cond_false, cond_false, tset_put α k, tset_put α k]; rfl
theorem blt_iff {a b : Nat} : Nat.blt a b = true ↔ a < b := by
  unfold Nat.blt
  rw [Nat.ble_eq]
  exact Iff.rfl
theorem tget_put (α : Type) : ∀ (k i j : Nat) (x : α) (t : TTy α k), i < 2 ^ k → j < 2 ^ k → tget α k j (tput α k i x t) = if j = i then x else tget α k j t
  | 0, i, j, x, t, hi, hj => by
    rw [if_pos (by omega)]
    rfl
  | k + 1, i, j, x, t, hi, hj => by
    obtain ⟨a, b⟩ : TTy α k × TTy α k := t
    rw [Nat.pow_succ] at hi hj
    unfold tput
    rw [tset_s]
    cases hb : Nat.blt i (2 ^ k) with
    | true =>
      have h1 := blt_iff.mp hb
      rw [cond_true, tset_put α k]
      show tget α (k + 1) j ((tput α k i x a, b) : TTy α k × TTy α k) = _
      rw [tget_s, tget_s]
      cases hc : Nat.blt j (2 ^ k) with
      | true =>
        have h2 := blt_iff.mp hc
        rw [cond_true, cond_true, tget_put α k i j x a h1 h2]
      | false =>
        have h2 : ¬ j < 2 ^ k := fun h => by rw [blt_iff.mpr h] at hc; cases hc
        rw [cond_false, cond_false, if_neg (by omega)]
    | false =>
      have h1 : ¬ i < 2 ^ k := fun h => by rw [blt_iff.mpr h] at hb; cases hb
      rw [cond_false, tset_put α k]
      show tget α (k + 1) j ((a, tput α k (i - 2 ^ k) x b) : TTy α k × TTy α k) = _
      rw [tget_s, tget_s]
      cases hc : Nat.blt j (2 ^ k) with
      | true =>
        have h2 := blt_iff.mp hc
        rw [cond_true, cond_true, if_neg (by omega)]
      | false =>
        have h2 : ¬ j < 2 ^ k := fun h => by rw [blt_iff.mpr h] at hc; cases hc
        rw [cond_false, cond_false, tget_put α k _ _ x b (by omega) (by omega)]
        by_cases h3 : j = i
        · rw [if_pos h3, if_pos (by omega)]
        · rw [if_neg h3, if_neg (by omega)]
theorem tget_all (α : Type) (x : α) : ∀ (k j : Nat), tget α k j (tall α x k) = x
  | 0, _ => rfl
  | k + 1, j => by
    show tget α (k + 1) j ((tall α x k, tall α x k) : TTy α k × TTy α k) = x
    rw [tget_s, tget_all α x k, tget_all α x k]
    cases Nat.blt j (2 ^ k) <;> rfl
theorem fN_eq {R : Type} (n : Nat) (K : Nat → R) : fN n K = K n := by cases n <;> rfl

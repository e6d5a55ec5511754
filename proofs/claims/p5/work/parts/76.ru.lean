/-! ===== by program (wip/gen/m76.py): runs; states are remembered ===== -/
theorem kc126_eq : codeOf 126 = kc126 := rfl
theorem hk_126 : 126 < 186 := by decide
theorem rw_126_0 : (codeOf 126)[0]? = some (0, .aload 0, 0, 0, 3, 1, []) := by rw [kc126_eq]; rfl
theorem rw_126_1 : (codeOf 126)[1]? = some (1, .getfield 51, 9, 1, 0, 3, []) := by rw [kc126_eq]; rfl
theorem rw_126_2 : (codeOf 126)[2]? = some (4, .iconst 5, 2147483653, 0, 0, 1, []) := by rw [kc126_eq]; rfl
theorem rw_126_3 : (codeOf 126)[3]? = some (5, .if_icmp .ne 34, 39, 24, 0, 3, []) := by rw [kc126_eq]; rfl
theorem rw_126_4 : (codeOf 126)[4]? = some (8, .iconst 1, 2147483649, 0, 0, 1, []) := by rw [kc126_eq]; rfl
theorem rw_126_5 : (codeOf 126)[5]? = some (9, .istore 1, 1, 0, 0, 1, []) := by rw [kc126_eq]; rfl
theorem rw_126_6 : (codeOf 126)[6]? = some (10, .monitorexit, 1008, 0, 0, 0, []) := by rw [kc126_eq]; rfl
theorem rw_126_7 : (codeOf 126)[7]? = some (10, .iload 1, 1, 0, 0, 1, []) := by rw [kc126_eq]; rfl
theorem rw_126_8 : (codeOf 126)[8]? = some (11, .iconst 5, 2147483653, 0, 0, 1, []) := by rw [kc126_eq]; rfl
theorem rw_126_9 : (codeOf 126)[9]? = some (12, .if_icmp .ge 17, 29, 18, 0, 3, []) := by rw [kc126_eq]; rfl
theorem rw_126_10 : (codeOf 126)[10]? = some (15, .aload 0, 0, 0, 3, 1, []) := by rw [kc126_eq]; rfl
theorem rw_126_11 : (codeOf 126)[11]? = some (16, .iload 1, 1, 0, 0, 1, []) := by rw [kc126_eq]; rfl
theorem rw_126_12 : (codeOf 126)[12]? = some (17, .iconst 1, 2147483649, 0, 0, 1, []) := by rw [kc126_eq]; rfl
theorem rw_126_13 : (codeOf 126)[13]? = some (18, .iadd, 0, 0, 0, 1, []) := by rw [kc126_eq]; rfl
theorem rw_126_14 : (codeOf 126)[14]? = some (19, .iload 1, 1, 0, 0, 1, []) := by rw [kc126_eq]; rfl
theorem rw_126_15 : (codeOf 126)[15]? = some (20, .monitorenter, 127, 0, 0, 3, []) := by rw [kc126_eq]; rfl
theorem rw_126_16 : (codeOf 126)[16]? = some (23, .iinc 1 1, 1, 1, 0, 3, []) := by rw [kc126_eq]; rfl
theorem rw_126_17 : (codeOf 126)[17]? = some (26, .goto (-16), 10, 6, 0, 3, []) := by rw [kc126_eq]; rfl
theorem rw_126_18 : (codeOf 126)[18]? = some (29, .aload 0, 0, 0, 3, 1, []) := by rw [kc126_eq]; rfl
theorem rw_126_19 : (codeOf 126)[19]? = some (30, .dup, 0, 0, 0, 1, []) := by rw [kc126_eq]; rfl
theorem rw_126_20 : (codeOf 126)[20]? = some (31, .getfield 51, 9, 1, 0, 3, []) := by rw [kc126_eq]; rfl
theorem rw_126_21 : (codeOf 126)[21]? = some (34, .iconst 1, 2147483649, 0, 0, 1, []) := by rw [kc126_eq]; rfl
theorem rw_126_22 : (codeOf 126)[22]? = some (35, .isub, 0, 0, 0, 1, []) := by rw [kc126_eq]; rfl
theorem rw_126_23 : (codeOf 126)[23]? = some (36, .putfield 51, 9, 1, 0, 3, []) := by rw [kc126_eq]; rfl
theorem rw_126_24 : (codeOf 126)[24]? = some (39, .aload 0, 0, 0, 3, 1, []) := by rw [kc126_eq]; rfl
theorem rw_126_25 : (codeOf 126)[25]? = some (40, .dup, 0, 0, 0, 1, []) := by rw [kc126_eq]; rfl
theorem rw_126_26 : (codeOf 126)[26]? = some (41, .getfield 51, 9, 1, 0, 3, []) := by rw [kc126_eq]; rfl
theorem rw_126_27 : (codeOf 126)[27]? = some (44, .iconst 1, 2147483649, 0, 0, 1, []) := by rw [kc126_eq]; rfl
theorem rw_126_28 : (codeOf 126)[28]? = some (45, .iadd, 0, 0, 0, 1, []) := by rw [kc126_eq]; rfl
theorem rw_126_29 : (codeOf 126)[29]? = some (46, .putfield 51, 9, 1, 0, 3, []) := by rw [kc126_eq]; rfl
theorem rw_126_30 : (codeOf 126)[30]? = some (49, .aload 0, 0, 0, 3, 1, []) := by rw [kc126_eq]; rfl
theorem rw_126_31 : (codeOf 126)[31]? = some (50, .iconst 0, 2147483648, 0, 0, 1, []) := by rw [kc126_eq]; rfl
theorem rw_126_32 : (codeOf 126)[32]? = some (51, .aload 0, 0, 0, 3, 1, []) := by rw [kc126_eq]; rfl
theorem rw_126_33 : (codeOf 126)[33]? = some (52, .getfield 51, 9, 1, 0, 3, []) := by rw [kc126_eq]; rfl
theorem rw_126_34 : (codeOf 126)[34]? = some (55, .monitorenter, 127, 0, 0, 3, []) := by rw [kc126_eq]; rfl
theorem rw_126_35 : (codeOf 126)[35]? = some (58, .return_, 0, 0, 0, 1, []) := by rw [kc126_eq]; rfl
theorem kc144_eq : codeOf 144 = kc144 := rfl
theorem hk_144 : 144 < 186 := by decide
theorem rw_144_0 : (codeOf 144)[0]? = some (0, .iconst 0, 2147483648, 0, 0, 1, []) := by rw [kc144_eq]; rfl
theorem rw_144_1 : (codeOf 144)[1]? = some (1, .istore 2, 2, 0, 0, 1, []) := by rw [kc144_eq]; rfl
theorem rw_144_2 : (codeOf 144)[2]? = some (2, .iconst 0, 2147483648, 0, 0, 1, []) := by rw [kc144_eq]; rfl
theorem rw_144_3 : (codeOf 144)[3]? = some (3, .istore 3, 3, 0, 0, 1, []) := by rw [kc144_eq]; rfl
theorem rw_144_4 : (codeOf 144)[4]? = some (4, .monitorexit, 1152, 0, 0, 0, []) := by rw [kc144_eq]; rfl
theorem rw_144_5 : (codeOf 144)[5]? = some (4, .iload 3, 3, 0, 0, 1, []) := by rw [kc144_eq]; rfl
theorem rw_144_6 : (codeOf 144)[6]? = some (5, .iload 1, 1, 0, 0, 1, []) := by rw [kc144_eq]; rfl
theorem rw_144_7 : (codeOf 144)[7]? = some (6, .if_icmp .ge 16, 22, 15, 0, 3, []) := by rw [kc144_eq]; rfl
theorem rw_144_8 : (codeOf 144)[8]? = some (9, .iload 2, 2, 0, 0, 1, []) := by rw [kc144_eq]; rfl
theorem rw_144_9 : (codeOf 144)[9]? = some (10, .aload 0, 0, 0, 3, 1, []) := by rw [kc144_eq]; rfl
theorem rw_144_10 : (codeOf 144)[10]? = some (11, .invokevirtual 169, 145, 0, 0, 3, []) := by rw [kc144_eq]; rfl
theorem rw_144_11 : (codeOf 144)[11]? = some (14, .iadd, 0, 0, 0, 1, []) := by rw [kc144_eq]; rfl
theorem rw_144_12 : (codeOf 144)[12]? = some (15, .istore 2, 2, 0, 0, 1, []) := by rw [kc144_eq]; rfl
theorem rw_144_13 : (codeOf 144)[13]? = some (16, .iinc 3 1, 3, 1, 0, 3, []) := by rw [kc144_eq]; rfl
theorem rw_144_14 : (codeOf 144)[14]? = some (19, .goto (-15), 4, 4, 0, 3, []) := by rw [kc144_eq]; rfl
theorem rw_144_15 : (codeOf 144)[15]? = some (22, .iload 2, 2, 0, 0, 1, []) := by rw [kc144_eq]; rfl
theorem rw_144_16 : (codeOf 144)[16]? = some (23, .ireturn, 1, 0, 0, 1, []) := by rw [kc144_eq]; rfl
section MM
variable {d k j : Nat} {lv : List (Option Value)} {st : List Value} {ph : PH} {Q : Option Value → PH → Prop} {B : PH} {p : Nat → Int32} {a : Nat → Nat → Int32} {z : Nat → Int32}
theorem BaseOK.congr {p q : Nat → Int32} (h : BaseOK p) (e : ∀ i, i < 2000 → q i = p i) : BaseOK q := h.eqv (fun i _ h => e i (by omega))
theorem PageOK.congr {T : Nat} {p q : Nat → Int32} (h : PageOK T p) (e : ∀ i, i < 2000 → q i = p i) : PageOK T q :=
  ⟨h.1.congr e, h.2.of_eq (e _ (by omega)) (e _ (by omega)) (fun c hc => e _ (by omega)) (fun i _ h => e i h)⟩
theorem PageOK.up {T T' : Nat} {p : Nat → Int32} (h : PageOK T p) (hT : T ≤ T') : PageOK T' p := by
  obtain ⟨h1, t, C, h2, h3⟩ := h
  exact ⟨h1, t, C, by omega, h3⟩
/-- page s -/
def sl (p : Nat → Int32) (s : Nat) : Nat → Int32 := fun i => p (2000 * s + i)
def PIn (T : Nat) (p : Nat → Int32) (r : Nat) : Prop := ∀ s, s ≤ r → PageOK T (sl p s)
theorem sl0 {T : Nat} {p : Nat → Int32} : PageOK T (sl p 0) ↔ PageOK T p := by
  have e : ∀ i, sl p 0 i = p i := fun i => by
    unfold sl
    congr 1
    omega
  exact ⟨fun h => h.congr (fun i _ => (e i).symm), fun h => h.congr (fun i _ => e i)⟩
theorem cpy_sl {q : Nat → Int32} {f t s i : Nat} (hi : i < 2000) : sl (cpyP q f t 2000) s i = if s = t then sl q f i else sl q s i := by
  unfold sl cpyP
  by_cases e : s = t
  · subst e
    rw [if_pos rfl, if_pos (by omega)]
    congr 1
    omega
  · rw [if_neg e, if_neg (by omega)]
theorem PIn_cpy {T : Nat} {q : Nat → Int32} {f t r r' : Nat} (h : PIn T q r) (hf : f ≤ r) (hr : ∀ s, s ≤ r' → s = t ∨ s ≤ r) : PIn T (cpyP q f t 2000) r' := by
  intro s hs
  by_cases e : s = t
  · exact (h f hf).congr (fun i hi => by rw [cpy_sl hi, if_pos e])
  · exact (h s (by have := hr s hs; omega)).congr (fun i hi => by rw [cpy_sl hi, if_neg e])
theorem cpy_lo {q : Nat → Int32} {f t i : Nat} (ht : 1 ≤ t) (hi : i < 2000) : cpyP q f t 2000 i = q i := by
  unfold cpyP
  rw [if_neg (by omega)]
/-- what always holds of the other side: the pages that count, and how many they are -/
def MInv (T : Nat) (p : Nat → Int32) (z : Nat → Int32) : Prop := ∃ r : Nat, r ≤ 5 ∧ z 0 = iv (r : Int) ∧ PIn T p r
def PubQ (B : PH) (T : Nat) (a : Nat → Nat → Int32) (z : Nat → Int32) (v : Option Value) (ph' : PH) : Prop := ∃ p' a' z', ph' = mh B p' a' z' ∧ (∃ x : Int32, v = some (.int x)) ∧ MInv (T + 60) p' z' ∧ (∀ i, i ≠ 0 → z' i = z i) ∧ K4 a a'
theorem MInv.up {T T' : Nat} {p z : Nat → Int32} (h : MInv T p z) (hT : T ≤ T') : MInv T' p z := by
  obtain ⟨r, h1, h2, h3⟩ := h
  exact ⟨r, h1, h2, fun s hs => (h3 s hs).up hT⟩
theorem MInv.sameK {T : Nat} {p z : Nat → Int32} {b : Nat → Nat → Int32} (h : MInv T p z) (hK : K4 a b) {x : Int32} : PubQ B T a z (some (.int x)) (mh B p b z) := ⟨p, b, z, rfl, ⟨x, rfl⟩, h.up (by omega), fun _ _ => rfl, hK⟩
theorem MInv.same {T : Nat} {p z : Nat → Int32} (h : MInv T p z) {x : Int32} : PubQ B T a z (some (.int x)) (mh B p a z) := h.sameK (K4.id a)
theorem ru_loop (hB : 87 ≤ B.length) {T n : Nat} (hn : n ≤ 60) (hT0 : T ≤ 900000) : ∀ (m k : Nat) (q : Nat → Int32) (b : Nat → Nat → Int32) (s : Int32), k + m = n → K4 a b → PageOK (T + k) q → (∀ i, 2000 ≤ i → q i = p i) → ZR (d + 7) 144 4 [some (.ref 75), some (.int (iv ((n : Int)))), some (.int (s)), some (.int (iv ((k : Int))))] [] (mh B q b z) (fun v ph' => ∃ q b, ph' = mh B q b z ∧ (K4 a b ∧ ∃ x : Int32, v = some (.int x)) ∧ PageOK (T + 60) q ∧ ∀ i, 2000 ≤ i → q i = p i) := by
  intro m
  induction m with
  | zero =>
    intro k q b s hkm hK hP hH
    refine zr_cut hk_144 rw_144_4 ?_
    refine zr_iload hk_144 rw_144_5 rfl ?_
    refine zr_iload hk_144 rw_144_6 rfl ?_
    refine zi_icmp_ge hk_144 rw_144_7 (by unfold inR; omega) (by unfold inR; omega) (fun h7 => ?_) (fun h7 => by omega)
    refine zr_iload hk_144 rw_144_15 rfl ?_
    refine zr_ireturn hk_144 rw_144_16 ?_
    exact ⟨_, _, rfl, ⟨hK, _, rfl⟩, hP.up (by omega), hH⟩
  | succ m ih =>
    intro k q b s hkm hK hP hH
    refine zr_cut hk_144 rw_144_4 ?_
    refine zr_iload hk_144 rw_144_5 rfl ?_
    refine zr_iload hk_144 rw_144_6 rfl ?_
    refine zi_icmp_ge hk_144 rw_144_7 (by unfold inR; omega) (by unfold inR; omega) (fun h7 => by omega) (fun h7 => ?_)
    refine zr_iload hk_144 rw_144_8 rfl ?_
    refine zr_aload hk_144 rw_144_9 rfl ?_
    refine c_ticks hk_144 hB rw_144_10 (by omega) hP (Nat.le_of_ble_eq_true rfl) (fun q b x hK2 hP hH2 => ?_)
    have hK := hK.trans hK2
    have hH : ∀ i, 2000 ≤ i → q i = p i := fun i hi => (hH2 i hi).trans (hH i hi)
    refine zr_iadd hk_144 rw_144_11 ?_
    refine zi_istore hk_144 rw_144_12 rfl (lv' := [some (.ref 75), some (.int (iv ((n : Int)))), some (.int ((s) + (x))), some (.int (iv ((k : Int))))]) rfl ?_
    refine zi_inc hk_144 rw_144_13 rfl rfl inc_1 (lv' := [some (.ref 75), some (.int (iv ((n : Int)))), some (.int ((s) + (x))), some (.int (iv ((k : Int) + 1)))]) rfl ?_
    refine zr_goto hk_144 rw_144_14 ?_
    exact ih (k + 1) q b _ (by omega) hK hP hH
theorem runs_ok (d : Nat) (hB : 87 ≤ B.length) {T n : Nat} (hn : n ≤ 60) (hT0 : T ≤ 900000) (hP : PageOK T p) : ZC (d + 7) 144 [.ref 75, .int (iv (n : Int))] (mh B p a z) (fun v ph' => ∃ q b, ph' = mh B q b z ∧ (K4 a b ∧ ∃ x : Int32, v = some (.int x)) ∧ PageOK (T + 60) q ∧ ∀ i, 2000 ≤ i → q i = p i) := by
  refine ZC.of (lv := [some (.ref 75), some (.int (iv ((n : Int))))]) hk_144 (fun i v hv => ?_) ?_
  · match i, hv with
    | 0, hv => cases hv; rfl
    | 1, hv => cases hv; rfl
    | i + 2, hv => simp at hv
  refine zi_const hk_144 rw_144_0 (c := 0) rfl ?_
  refine zi_istore hk_144 rw_144_1 rfl (lv' := [some (.ref 75), some (.int (iv ((n : Int)))), some (.int (iv (0)))]) rfl ?_
  refine zi_const hk_144 rw_144_2 (c := 0) rfl ?_
  refine zi_istore hk_144 rw_144_3 rfl (lv' := [some (.ref 75), some (.int (iv ((n : Int)))), some (.int (iv (0))), some (.int (iv (0)))]) rfl ?_
  exact ru_loop hB hn hT0 n 0 p a _ (by omega) (K4.id a) hP (fun _ _ => rfl)
theorem c_runs (hk : k < 186) (hB : 87 ≤ B.length) {pc b x ix : Nat} {ts : List Nat} {e : Int} (hrow : (codeOf k)[j]? = some (pc, .invokevirtual ix, 144, b, x, 3, ts)) (n : Nat) (he : e = (n : Int)) {T : Nat} (hn : n ≤ 60) (hT0 : T ≤ 900000) (hP : PageOK T p) (hcat : catS st ≤ 8) (h : ∀ (q : Nat → Int32) (b : Nat → Nat → Int32) (x : Int32), K4 a b → PageOK (T + 60) q → (∀ i, 2000 ≤ i → q i = p i) → ZR (d + 8) k (j + 1) lv (.int x :: st) (mh B q b z) Q) : ZR (d + 8) k j lv (.int (iv e) :: .ref 75 :: st) (mh B p a z) Q := by
  subst he
  refine mz_call (L := 4) (n := 1) (as := [.int (iv (n : Int))]) (r := st) hk hB hrow (by decide) (by decide) ⟨rfl, rfl, rfl, rfl⟩ rfl rfl hcat (Nat.le_of_ble_eq_true rfl) (runs_ok d hB hn hT0 hP) ?_
  rintro w ph' ⟨q, b, rfl, ⟨hK, x, rfl⟩, h1, h2⟩
  exact h q b x hK h1 h2
theorem rec_tail (hB : 87 ≤ B.length) {T r : Nat} (hr : r ≤ 4) (hz : z 0 = iv (r : Int)) (hP : PIn T p r) : ZR (d + 1) 126 24 [some (.ref 75)] [] (mh B p a z) (fun v ph' => ∃ (p' z' : Nat → Int32) (r' : Nat), ph' = mh B p' a z' ∧ v = none ∧ r' ≤ 5 ∧ z' 0 = iv (r' : Int) ∧ PIn T p' r' ∧ (∀ i, i < 2000 → p' i = p i) ∧ ∀ i, i ≠ 0 → z' i = z i) := by
  refine zr_aload hk_126 rw_126_24 rfl ?_
  refine zr_dup hk_126 rw_126_25 rfl ?_
  refine mz_getf hk_126 hB rw_126_26 (by show some (Value.int (z 0)) = _; rw [hz]) ?_
  refine zi_const hk_126 rw_126_27 (c := 1) rfl ?_
  refine zi_add hk_126 rw_126_28 ?_
  refine mz_putf hk_126 hB rw_126_29 (by decide) (mh_zS0 hB) ?_
  refine zr_aload hk_126 rw_126_30 rfl ?_
  refine zi_const hk_126 rw_126_31 (c := 0) rfl ?_
  refine zr_aload hk_126 rw_126_32 rfl ?_
  refine mz_getf hk_126 hB rw_126_33 (by show some (Value.int (upd z 0 _ 0)) = _; rw [uq_eq]) ?_
  refine c_copies hk_126 hB rw_126_34 (0) (r + 1) (by omega) (by omega) (by omega) (by omega) (Nat.le_of_ble_eq_true rfl) ?_
  refine zr_return (a := 0) hk_126 rw_126_35 ?_
  exact ⟨_, _, r + 1, rfl, rfl, by omega, uq_eq, PIn_cpy (r := r) hP (by omega) (fun s hs => by omega), fun i hi => cpy_lo (by omega) hi, fun i hi => uq_ne hi⟩
theorem rec_loop (hB : 87 ≤ B.length) {T : Nat} (hQ : ∀ q, PIn T q 5 → (∀ i, i < 2000 → q i = p i) → ZR (d + 1) 126 18 [some (.ref 75), some (.int (iv (((5 : Nat) : Int))))] [] (mh B q a z) Q) : ∀ (m k : Nat) (q : Nat → Int32), k + m = 5 → 1 ≤ k → PIn T q 5 → (∀ i, i < 2000 → q i = p i) → ZR (d + 1) 126 6 [some (.ref 75), some (.int (iv ((k : Int))))] [] (mh B q a z) Q := by
  intro m
  induction m with
  | zero =>
    intro k q hkm hk1 hP hL
    refine zr_cut hk_126 rw_126_6 ?_
    refine zr_iload hk_126 rw_126_7 rfl ?_
    refine zi_const hk_126 rw_126_8 (c := 5) rfl ?_
    refine zi_icmp_ge hk_126 rw_126_9 (by unfold inR; omega) (by unfold inR; omega) (fun h9 => ?_) (fun h9 => by omega)
    obtain rfl : k = 5 := by omega
    exact hQ q hP hL
  | succ m ih =>
    intro k q hkm hk1 hP hL
    refine zr_cut hk_126 rw_126_6 ?_
    refine zr_iload hk_126 rw_126_7 rfl ?_
    refine zi_const hk_126 rw_126_8 (c := 5) rfl ?_
    refine zi_icmp_ge hk_126 rw_126_9 (by unfold inR; omega) (by unfold inR; omega) (fun h9 => by omega) (fun h9 => ?_)
    refine zr_aload hk_126 rw_126_10 rfl ?_
    refine zr_iload hk_126 rw_126_11 rfl ?_
    refine zi_const hk_126 rw_126_12 (c := 1) rfl ?_
    refine zi_add hk_126 rw_126_13 ?_
    refine zr_iload hk_126 rw_126_14 rfl ?_
    refine c_copies hk_126 hB rw_126_15 (k + 1) (k) (by omega) (by omega) (by omega) (by omega) (Nat.le_of_ble_eq_true rfl) ?_
    refine zi_inc hk_126 rw_126_16 rfl rfl inc_1 (lv' := [some (.ref 75), some (.int (iv ((k : Int) + 1)))]) rfl ?_
    refine zr_goto hk_126 rw_126_17 ?_
    exact ih (k + 1) _ (by omega) (by omega) (PIn_cpy (r := 5) hP (by omega) (fun s hs => by omega)) (fun i hi => (cpy_lo hk1 hi).trans (hL i hi))
theorem records_ok (d : Nat) (hB : 87 ≤ B.length) {T r : Nat} (hr : r ≤ 5) (hz : z 0 = iv (r : Int)) (hP : PIn T p r) : ZC (d + 1) 126 [.ref 75] (mh B p a z) (fun v ph' => ∃ (p' z' : Nat → Int32) (r' : Nat), ph' = mh B p' a z' ∧ v = none ∧ r' ≤ 5 ∧ z' 0 = iv (r' : Int) ∧ PIn T p' r' ∧ (∀ i, i < 2000 → p' i = p i) ∧ ∀ i, i ≠ 0 → z' i = z i) := by
  refine ZC.of (lv := [some (.ref 75)]) hk_126 (fun i v hv => ?_) ?_
  · match i, hv with
    | 0, hv => cases hv; rfl
    | i + 1, hv => simp at hv
  refine zr_aload hk_126 rw_126_0 rfl ?_
  refine mz_getf hk_126 hB rw_126_1 (by show some (Value.int (z 0)) = _; rw [hz]) ?_
  refine zi_const hk_126 rw_126_2 (c := 5) rfl ?_
  refine zi_icmp_ne hk_126 rw_126_3 (by unfold inR; omega) (by unfold inR; omega) (fun h3 => ?_) (fun h3 => ?_)
  · exact rec_tail hB (by omega) hz hP
  · refine zi_const hk_126 rw_126_4 (c := 1) rfl ?_
    refine zi_istore hk_126 rw_126_5 rfl (lv' := [some (.ref 75), some (.int (iv (1)))]) rfl ?_
    obtain rfl : r = 5 := by omega
    refine rec_loop hB (p := p) (fun q hP hL => ?_) 4 1 p (by omega) (by omega) hP (fun _ _ => rfl)
    refine zr_aload hk_126 rw_126_18 rfl ?_
    refine zr_dup hk_126 rw_126_19 rfl ?_
    refine mz_getf hk_126 hB rw_126_20 (by show some (Value.int (z 0)) = _; rw [hz]) ?_
    refine zi_const hk_126 rw_126_21 (c := 1) rfl ?_
    refine zi_sub hk_126 rw_126_22 ?_
    refine mz_putf hk_126 hB rw_126_23 (by decide) (mh_zS0 hB) ?_
    refine zr_app (lv := [some (.ref 75)]) (ex := [some (.int (iv (((5 : Nat) : Int))))]) ?_
    exact zr_mono (fun v ph' ⟨p', z', r', e1, e2, e3, e4, e5, e6, e7⟩ => ⟨p', z', r', e1, e2, e3, e4, e5, fun i hi => (e6 i hi).trans (hL i hi), fun i hi => (e7 i hi).trans (uq_ne hi)⟩) (rec_tail (r := 4) hB (by omega) uq_eq (fun s hs => hP s (by omega)))
theorem c_records (hk : k < 186) (hB : 87 ≤ B.length) {pc b x ix : Nat} {ts : List Nat} (hrow : (codeOf k)[j]? = some (pc, .invokevirtual ix, 126, b, x, 3, ts)) {T r : Nat} (hr : r ≤ 5) (hz : z 0 = iv (r : Int)) (hP : PIn T p r) (hcat : catS st ≤ 8) (h : ∀ (q z' : Nat → Int32) (r' : Nat), r' ≤ 5 → z' 0 = iv (r' : Int) → PIn T q r' → (∀ i, i < 2000 → q i = p i) → (∀ i, i ≠ 0 → z' i = z i) → ZR (d + 2) k (j + 1) lv st (mh B q a z') Q) : ZR (d + 2) k j lv (.ref 75 :: st) (mh B p a z) Q := by
  refine mz_call (L := 2) (n := 0) (as := []) (r := st) hk hB hrow (by decide) (by decide) ⟨rfl, rfl, rfl, rfl⟩ rfl rfl hcat (Nat.le_of_ble_eq_true rfl) (records_ok d hB hr hz hP) ?_
  rintro w ph' ⟨q, z', r', rfl, rfl, h1, h2, h3, h4, h5⟩
  exact h q z' r' h1 h2 h3 h4 h5
end MM

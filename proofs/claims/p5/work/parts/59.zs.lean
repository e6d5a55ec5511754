/-! ===== by hand: the other rows ===== -/
def lzS : List (Option Value) → Nat → Value → List (Option Value)
  | [], 0, v => [some v]
  | [], i + 1, v => none :: lzS [] i v
  | _ :: t, 0, v => some v :: t
  | x :: t, i + 1, v => x :: lzS t i v
theorem lzS_get : ∀ (l : List (Option Value)) (i j : Nat) (v w : Value), (lzS l i v)[j]? = some (some w) → (j = i ∧ v = w) ∨ (j ≠ i ∧ l[j]? = some (some w))
  | [], 0, 0, v, w, h => by
    rw [lzS, List.getElem?_cons_zero] at h
    exact Or.inl ⟨rfl, Option.some.inj (Option.some.inj h)⟩
  | [], 0, j + 1, v, w, h => by simp [lzS] at h
  | [], i + 1, 0, v, w, h => by simp [lzS] at h
  | [], i + 1, j + 1, v, w, h => by
    rw [lzS, List.getElem?_cons_succ] at h
    rcases lzS_get [] i j v w h with ⟨a, b⟩ | ⟨_, b⟩
    · exact Or.inl ⟨by omega, b⟩
    · simp at b
  | x :: t, 0, 0, v, w, h => by
    rw [lzS, List.getElem?_cons_zero] at h
    exact Or.inl ⟨rfl, Option.some.inj (Option.some.inj h)⟩
  | x :: t, 0, j + 1, v, w, h => by
    rw [lzS, List.getElem?_cons_succ] at h
    exact Or.inr ⟨by omega, by rw [List.getElem?_cons_succ]; exact h⟩
  | x :: t, i + 1, 0, v, w, h => by
    rw [lzS, List.getElem?_cons_zero] at h
    exact Or.inr ⟨by omega, by rw [List.getElem?_cons_zero]; exact h⟩
  | x :: t, i + 1, j + 1, v, w, h => by
    rw [lzS, List.getElem?_cons_succ] at h
    rcases lzS_get t i j v w h with ⟨a, b⟩ | ⟨a, b⟩
    · exact Or.inl ⟨by omega, b⟩
    · exact Or.inr ⟨by omega, by rw [List.getElem?_cons_succ]; exact b⟩
/-- no long just below -/
def preZ (lv : List (Option Value)) (i : Nat) : Bool := match i with
  | 0 => true
  | j + 1 => (match lv[j]? with
    | some (some (.long _)) => false
    | some (some (.double _)) => false
    | _ => true)
theorem preZ_ok {lv : List (Option Value)} {i j : Nat} {v : Value} (h : preZ lv i = true) (hj : lv[j]? = some (some v)) : ¬ (j + 1 = i ∧ v.category = 2) := by
  rintro ⟨rfl, hc⟩
  unfold preZ at h
  dsimp only at h
  rw [hj] at h
  cases v <;> first | (cases h; done) | (cases hc; done)
theorem LZ.st1 {lv : List (Option Value)} {clv : PV} (h : LZ lv clv) {i : Nat} {v : Value} (hp : preZ lv i = true) : LZ (lzS lv i v) (sl1 clv i v) := by
  intro j w hw
  rcases lzS_get _ _ _ _ _ hw with ⟨rfl, rfl⟩ | ⟨hne, hj⟩
  · exact gl_sl1_self _ _ _
  · exact gl_sl1 (h j w hj) hne (preZ_ok hp hj)
section ZB
variable {d k j : Nat} {lv : List (Option Value)} {st : List Value} {ph : PH} {Q : Option Value → PH → Prop} {M : MR} {e : CE}
theorem zr_aload (hk : k < 186) {pc a b len n : Nat} {z : Nat} {ts : List Nat} (hrow : (codeOf k)[j]? = some (pc, .aload n, a, b, 3, len, ts)) (hg : lv[a]? = some (some (.ref z))) (h : ZR d k (j + 1) lv (.ref z :: st) ph Q) : ZR d k j lv st ph Q := by
  refine zr_go hk hrow (by simp) (fun M i clv nc ns hn hL => ?_) h
  have hgl := hL a _ hg
  cases i <;> simp [nrm] at hn
  · obtain ⟨⟨_, h2⟩, h3⟩ := hn
    subst h2 h3
    exact ⟨rfl, rfl, clv, hL, by simp [stp, x_ld, hgl]⟩
  · obtain ⟨⟨_, h2⟩, h3⟩ := hn
    subst h2 h3
    exact ⟨rfl, rfl, clv, hL, by simp [stp, x_ld, hgl]⟩
theorem zr_istore (hk : k < 186) {pc a b len n : Nat} {z : Int32} {ts : List Nat} (hrow : (codeOf k)[j]? = some (pc, .istore n, a, b, 0, len, ts)) (hp : preZ lv a = true) (h : ZR d k (j + 1) (lzS lv a (.int z)) st ph Q) : ZR d k j lv (.int z :: st) ph Q := by
  refine zr_go hk hrow (by simp) (fun M i clv nc ns hn hL => ?_) h
  cases i <;> simp [nrm] at hn
  · obtain ⟨⟨⟨_, h2⟩, h3⟩, h4⟩ := hn
    subst h2 h3
    exact ⟨rfl, rfl, _, hL.st1 hp, by simp [stp, x_ld, x_st, h4]⟩
  · obtain ⟨⟨⟨_, h2⟩, h3⟩, h4⟩ := hn
    subst h2 h3
    exact ⟨rfl, rfl, _, hL.st1 hp, by simp [stp, x_ld, x_st, h4]⟩
theorem zr_astore (hk : k < 186) {pc a b len n : Nat} {z : Nat} {ts : List Nat} (hrow : (codeOf k)[j]? = some (pc, .astore n, a, b, 3, len, ts)) (hp : preZ lv a = true) (h : ZR d k (j + 1) (lzS lv a (.ref z)) st ph Q) : ZR d k j lv (.ref z :: st) ph Q := by
  refine zr_go hk hrow (by simp) (fun M i clv nc ns hn hL => ?_) h
  cases i <;> simp [nrm] at hn
  · obtain ⟨⟨⟨_, h2⟩, h3⟩, h4⟩ := hn
    subst h2 h3
    exact ⟨rfl, rfl, _, hL.st1 hp, by simp [stp, x_ld, x_st, h4]⟩
  · obtain ⟨⟨⟨_, h2⟩, h3⟩, h4⟩ := hn
    subst h2 h3
    exact ⟨rfl, rfl, _, hL.st1 hp, by simp [stp, x_ld, x_st, h4]⟩
theorem zr_iinc (hk : k < 186) {pc a b x len n : Nat} {m : Int} {z : Int32} {ts : List Nat} (hrow : (codeOf k)[j]? = some (pc, .iinc n m, a, b, x, len, ts)) (hg : lv[a]? = some (some (.int z))) (hp : preZ lv a = true) (h : ZR d k (j + 1) (lzS lv a (.int (z + Int32.ofNat b))) st ph Q) : ZR d k j lv st ph Q := by
  refine zr_go hk hrow (by simp) (fun M i clv nc ns hn hL => ?_) h
  have hgl := hL a _ hg
  cases i <;> simp [nrm] at hn
  obtain ⟨⟨⟨⟨_, h2⟩, h3⟩, h4⟩, h5⟩ := hn
  subst h2 h4
  exact ⟨rfl, rfl, _, hL.st1 hp, by simp [stp, x_ld, x_st, h5, hgl, h3]⟩
theorem zr_iadd (hk : k < 186) {pc a b x len : Nat} {ts : List Nat} {y z : Int32} (hrow : (codeOf k)[j]? = some (pc, .iadd, a, b, x, len, ts)) (h : ZR d k (j + 1) lv (.int (z + y) :: st) ph Q) : ZR d k j lv (.int y :: .int z :: st) ph Q := by
  refine zr_go hk hrow (by simp) (fun M i clv nc ns hn hL => ?_) h
  cases i <;> simp [nrm] at hn
  have hn : len = 1 := by simpa using hn
  subst hn
  exact ⟨rfl, rfl, clv, hL, by simp [stp, x_ld, x_st, x_ar]⟩
theorem zr_isub (hk : k < 186) {pc a b x len : Nat} {ts : List Nat} {y z : Int32} (hrow : (codeOf k)[j]? = some (pc, .isub, a, b, x, len, ts)) (h : ZR d k (j + 1) lv (.int (z - y) :: st) ph Q) : ZR d k j lv (.int y :: .int z :: st) ph Q := by
  refine zr_go hk hrow (by simp) (fun M i clv nc ns hn hL => ?_) h
  cases i <;> simp [nrm] at hn
  have hn : len = 1 := by simpa using hn
  subst hn
  exact ⟨rfl, rfl, clv, hL, by simp [stp, x_ld, x_st, x_ar]⟩
theorem zr_imul (hk : k < 186) {pc a b x len : Nat} {ts : List Nat} {y z : Int32} (hrow : (codeOf k)[j]? = some (pc, .imul, a, b, x, len, ts)) (h : ZR d k (j + 1) lv (.int (z * y) :: st) ph Q) : ZR d k j lv (.int y :: .int z :: st) ph Q := by
  refine zr_go hk hrow (by simp) (fun M i clv nc ns hn hL => ?_) h
  cases i <;> simp [nrm] at hn
  have hn : len = 1 := by simpa using hn
  subst hn
  exact ⟨rfl, rfl, clv, hL, by simp [stp, x_ld, x_st, x_ar]⟩
theorem zr_iand (hk : k < 186) {pc a b x len : Nat} {ts : List Nat} {y z : Int32} (hrow : (codeOf k)[j]? = some (pc, .iand, a, b, x, len, ts)) (h : ZR d k (j + 1) lv (.int (z &&& y) :: st) ph Q) : ZR d k j lv (.int y :: .int z :: st) ph Q := by
  refine zr_go hk hrow (by simp) (fun M i clv nc ns hn hL => ?_) h
  cases i <;> simp [nrm] at hn
  have hn : len = 1 := by simpa using hn
  subst hn
  exact ⟨rfl, rfl, clv, hL, by simp [stp, x_ld, x_st, x_ar]⟩
theorem zr_ior (hk : k < 186) {pc a b x len : Nat} {ts : List Nat} {y z : Int32} (hrow : (codeOf k)[j]? = some (pc, .ior, a, b, x, len, ts)) (h : ZR d k (j + 1) lv (.int (z ||| y) :: st) ph Q) : ZR d k j lv (.int y :: .int z :: st) ph Q := by
  refine zr_go hk hrow (by simp) (fun M i clv nc ns hn hL => ?_) h
  cases i <;> simp [nrm] at hn
  have hn : len = 1 := by simpa using hn
  subst hn
  exact ⟨rfl, rfl, clv, hL, by simp [stp, x_ld, x_st, x_ar]⟩
theorem zr_ixor (hk : k < 186) {pc a b x len : Nat} {ts : List Nat} {y z : Int32} (hrow : (codeOf k)[j]? = some (pc, .ixor, a, b, x, len, ts)) (h : ZR d k (j + 1) lv (.int (z ^^^ y) :: st) ph Q) : ZR d k j lv (.int y :: .int z :: st) ph Q := by
  refine zr_go hk hrow (by simp) (fun M i clv nc ns hn hL => ?_) h
  cases i <;> simp [nrm] at hn
  have hn : len = 1 := by simpa using hn
  subst hn
  exact ⟨rfl, rfl, clv, hL, by simp [stp, x_ld, x_st, x_ar]⟩
theorem zr_ishl (hk : k < 186) {pc a b x len : Nat} {ts : List Nat} {y z : Int32} (hrow : (codeOf k)[j]? = some (pc, .ishl, a, b, x, len, ts)) (h : ZR d k (j + 1) lv (.int (z <<< (y &&& 31)) :: st) ph Q) : ZR d k j lv (.int y :: .int z :: st) ph Q := by
  refine zr_go hk hrow (by simp) (fun M i clv nc ns hn hL => ?_) h
  cases i <;> simp [nrm] at hn
  have hn : len = 1 := by simpa using hn
  subst hn
  exact ⟨rfl, rfl, clv, hL, by simp [stp, x_ld, x_st, x_ar]⟩
theorem zr_ishr (hk : k < 186) {pc a b x len : Nat} {ts : List Nat} {y z : Int32} (hrow : (codeOf k)[j]? = some (pc, .ishr, a, b, x, len, ts)) (h : ZR d k (j + 1) lv (.int (z >>> (y &&& 31)) :: st) ph Q) : ZR d k j lv (.int y :: .int z :: st) ph Q := by
  refine zr_go hk hrow (by simp) (fun M i clv nc ns hn hL => ?_) h
  cases i <;> simp [nrm] at hn
  have hn : len = 1 := by simpa using hn
  subst hn
  exact ⟨rfl, rfl, clv, hL, by simp [stp, x_ld, x_st, x_ar]⟩
theorem zr_idiv (hk : k < 186) {pc a b x len : Nat} {ts : List Nat} {y z : Int32} (hrow : (codeOf k)[j]? = some (pc, .idiv, a, b, x, len, ts)) (hy : ¬ y = 0) (h : ZR d k (j + 1) lv (.int (z / y) :: st) ph Q) : ZR d k j lv (.int y :: .int z :: st) ph Q := by
  refine zr_go hk hrow (by simp) (fun M i clv nc ns hn hL => ?_) h
  cases i <;> simp [nrm] at hn
  have hn : len = 1 := by simpa using hn
  subst hn
  exact ⟨rfl, rfl, clv, hL, by simp [stp, x_ld, x_st, x_ar, hy]⟩
theorem zr_irem (hk : k < 186) {pc a b x len : Nat} {ts : List Nat} {y z : Int32} (hrow : (codeOf k)[j]? = some (pc, .irem, a, b, x, len, ts)) (hy : ¬ y = 0) (h : ZR d k (j + 1) lv (.int (z - z / y * y) :: st) ph Q) : ZR d k j lv (.int y :: .int z :: st) ph Q := by
  refine zr_go hk hrow (by simp) (fun M i clv nc ns hn hL => ?_) h
  cases i <;> simp [nrm] at hn
  have hn : len = 1 := by simpa using hn
  subst hn
  exact ⟨rfl, rfl, clv, hL, by simp [stp, x_ld, x_st, x_ar, hy]⟩
theorem zr_ineg (hk : k < 186) {pc a b x len : Nat} {ts : List Nat} {z : Int32} (hrow : (codeOf k)[j]? = some (pc, .ineg, a, b, x, len, ts)) (h : ZR d k (j + 1) lv (.int (-z) :: st) ph Q) : ZR d k j lv (.int z :: st) ph Q := by
  refine zr_go hk hrow (by simp) (fun M i clv nc ns hn hL => ?_) h
  cases i <;> simp [nrm] at hn
  have hn : len = 1 := by simpa using hn
  subst hn
  exact ⟨rfl, rfl, clv, hL, by simp [stp, x_ld, x_st, x_ar]⟩
theorem zr_dup (hk : k < 186) {pc a b x len : Nat} {ts : List Nat} {v : Value} (hrow : (codeOf k)[j]? = some (pc, .dup, a, b, x, len, ts)) (hc : v.category = 1) (h : ZR d k (j + 1) lv (v :: v :: st) ph Q) : ZR d k j lv (v :: st) ph Q := by
  refine zr_go hk hrow (by simp) (fun M i clv nc ns hn hL => ?_) h
  cases i <;> simp [nrm] at hn
  have hn : len = 1 := by simpa using hn
  subst hn
  exact ⟨rfl, rfl, clv, hL, by simp [stp, x_ld, x_st, x_ar, hc]⟩
theorem zr_pop (hk : k < 186) {pc a b x len : Nat} {ts : List Nat} {v : Value} (hrow : (codeOf k)[j]? = some (pc, .pop, a, b, x, len, ts)) (hc : v.category = 1) (h : ZR d k (j + 1) lv (st) ph Q) : ZR d k j lv (v :: st) ph Q := by
  refine zr_go hk hrow (by simp) (fun M i clv nc ns hn hL => ?_) h
  cases i <;> simp [nrm] at hn
  have hn : len = 1 := by simpa using hn
  subst hn
  exact ⟨rfl, rfl, clv, hL, by simp [stp, x_ld, x_st, x_ar, hc]⟩
theorem zr_dup2 (hk : k < 186) {pc a b x len : Nat} {ts : List Nat} {v w : Value} (hrow : (codeOf k)[j]? = some (pc, .dup2, a, b, x, len, ts)) (hc : v.category = 1) (hc2 : w.category = 1) (h : ZR d k (j + 1) lv (v :: w :: v :: w :: st) ph Q) : ZR d k j lv (v :: w :: st) ph Q := by
  refine zr_go hk hrow (by simp) (fun M i clv nc ns hn hL => ?_) h
  cases i <;> simp [nrm] at hn
  have hn : len = 1 := by simpa using hn
  subst hn
  exact ⟨rfl, rfl, clv, hL, by simp [stp, x_ld, x_st, x_ar, hc, hc2]⟩
end ZB

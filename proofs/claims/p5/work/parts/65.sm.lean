/-! ===== by program (wip/gen/m65.py): the other side's small methods, and calls of them ===== -/
theorem kc119_eq : codeOf 119 = kc119 := rfl
theorem hk_119 : 119 < 186 := by decide
theorem rw_119_0 : (codeOf 119)[0]? = some (0, .aload 0, 0, 0, 3, 1, []) := by rw [kc119_eq]; rfl
theorem rw_119_1 : (codeOf 119)[1]? = some (1, .getfield 7, 9, 0, 3, 3, []) := by rw [kc119_eq]; rfl
theorem rw_119_2 : (codeOf 119)[2]? = some (4, .iconst 21, 2147483669, 0, 0, 2, []) := by rw [kc119_eq]; rfl
theorem rw_119_3 : (codeOf 119)[3]? = some (6, .iload 1, 1, 0, 0, 1, []) := by rw [kc119_eq]; rfl
theorem rw_119_4 : (codeOf 119)[4]? = some (7, .imul, 0, 0, 0, 1, []) := by rw [kc119_eq]; rfl
theorem rw_119_5 : (codeOf 119)[5]? = some (8, .iload 2, 2, 0, 0, 1, []) := by rw [kc119_eq]; rfl
theorem rw_119_6 : (codeOf 119)[6]? = some (9, .iadd, 0, 0, 0, 1, []) := by rw [kc119_eq]; rfl
theorem rw_119_7 : (codeOf 119)[7]? = some (10, .iload 3, 3, 0, 0, 1, []) := by rw [kc119_eq]; rfl
theorem rw_119_8 : (codeOf 119)[8]? = some (11, .iastore, 0, 0, 0, 1, []) := by rw [kc119_eq]; rfl
theorem rw_119_9 : (codeOf 119)[9]? = some (12, .return_, 0, 0, 0, 1, []) := by rw [kc119_eq]; rfl
theorem kc121_eq : codeOf 121 = kc121 := rfl
theorem hk_121 : 121 < 186 := by decide
theorem rw_121_0 : (codeOf 121)[0]? = some (0, .iload 0, 0, 0, 0, 1, []) := by rw [kc121_eq]; rfl
theorem rw_121_1 : (codeOf 121)[1]? = some (1, .iload 1, 1, 0, 0, 1, []) := by rw [kc121_eq]; rfl
theorem rw_121_2 : (codeOf 121)[2]? = some (2, .if_icmp .lt 12, 14, 8, 0, 3, []) := by rw [kc121_eq]; rfl
theorem rw_121_3 : (codeOf 121)[3]? = some (5, .iload 0, 0, 0, 0, 1, []) := by rw [kc121_eq]; rfl
theorem rw_121_4 : (codeOf 121)[4]? = some (6, .iload 2, 2, 0, 0, 1, []) := by rw [kc121_eq]; rfl
theorem rw_121_5 : (codeOf 121)[5]? = some (7, .if_icmp .gt 7, 14, 8, 0, 3, []) := by rw [kc121_eq]; rfl
theorem rw_121_6 : (codeOf 121)[6]? = some (10, .iconst 1, 2147483649, 0, 0, 1, []) := by rw [kc121_eq]; rfl
theorem rw_121_7 : (codeOf 121)[7]? = some (11, .goto 4, 15, 9, 0, 3, []) := by rw [kc121_eq]; rfl
theorem rw_121_8 : (codeOf 121)[8]? = some (14, .iconst 0, 2147483648, 0, 0, 1, []) := by rw [kc121_eq]; rfl
theorem rw_121_9 : (codeOf 121)[9]? = some (15, .ireturn, 2, 0, 0, 1, []) := by rw [kc121_eq]; rfl
theorem kc130_eq : codeOf 130 = kc130 := rfl
theorem hk_130 : 130 < 186 := by decide
theorem rw_130_0 : (codeOf 130)[0]? = some (0, .aload 0, 0, 0, 3, 1, []) := by rw [kc130_eq]; rfl
theorem rw_130_1 : (codeOf 130)[1]? = some (1, .getfield 7, 9, 0, 3, 3, []) := by rw [kc130_eq]; rfl
theorem rw_130_2 : (codeOf 130)[2]? = some (4, .iconst 21, 2147483669, 0, 0, 2, []) := by rw [kc130_eq]; rfl
theorem rw_130_3 : (codeOf 130)[3]? = some (6, .iload 1, 1, 0, 0, 1, []) := by rw [kc130_eq]; rfl
theorem rw_130_4 : (codeOf 130)[4]? = some (7, .imul, 0, 0, 0, 1, []) := by rw [kc130_eq]; rfl
theorem rw_130_5 : (codeOf 130)[5]? = some (8, .iload 2, 2, 0, 0, 1, []) := by rw [kc130_eq]; rfl
theorem rw_130_6 : (codeOf 130)[6]? = some (9, .iadd, 0, 0, 0, 1, []) := by rw [kc130_eq]; rfl
theorem rw_130_7 : (codeOf 130)[7]? = some (10, .iaload, 0, 0, 0, 1, []) := by rw [kc130_eq]; rfl
theorem rw_130_8 : (codeOf 130)[8]? = some (11, .ireturn, 1, 0, 0, 1, []) := by rw [kc130_eq]; rfl
theorem kc133_eq : codeOf 133 = kc133 := rfl
theorem hk_133 : 133 < 186 := by decide
theorem rw_133_0 : (codeOf 133)[0]? = some (0, .iload 1, 1, 0, 0, 1, []) := by rw [kc133_eq]; rfl
theorem rw_133_1 : (codeOf 133)[1]? = some (1, .iconst 0, 2147483648, 0, 0, 1, []) := by rw [kc133_eq]; rfl
theorem rw_133_2 : (codeOf 133)[2]? = some (2, .iconst 9, 2147483657, 0, 0, 2, []) := by rw [kc133_eq]; rfl
theorem rw_133_3 : (codeOf 133)[3]? = some (4, .invokestatic 58, 121, 0, 0, 3, []) := by rw [kc133_eq]; rfl
theorem rw_133_4 : (codeOf 133)[4]? = some (7, .ifCond .eq 17, 24, 13, 0, 3, []) := by rw [kc133_eq]; rfl
theorem rw_133_5 : (codeOf 133)[5]? = some (10, .aload 0, 0, 0, 3, 1, []) := by rw [kc133_eq]; rfl
theorem rw_133_6 : (codeOf 133)[6]? = some (11, .iload 1, 1, 0, 0, 1, []) := by rw [kc133_eq]; rfl
theorem rw_133_7 : (codeOf 133)[7]? = some (12, .iconst 0, 2147483648, 0, 0, 1, []) := by rw [kc133_eq]; rfl
theorem rw_133_8 : (codeOf 133)[8]? = some (13, .invokevirtual 62, 130, 0, 0, 3, []) := by rw [kc133_eq]; rfl
theorem rw_133_9 : (codeOf 133)[9]? = some (16, .iconst 1, 2147483649, 0, 0, 1, []) := by rw [kc133_eq]; rfl
theorem rw_133_10 : (codeOf 133)[10]? = some (17, .if_icmp .ne 7, 24, 13, 0, 3, []) := by rw [kc133_eq]; rfl
theorem rw_133_11 : (codeOf 133)[11]? = some (20, .iconst 1, 2147483649, 0, 0, 1, []) := by rw [kc133_eq]; rfl
theorem rw_133_12 : (codeOf 133)[12]? = some (21, .goto 4, 25, 14, 0, 3, []) := by rw [kc133_eq]; rfl
theorem rw_133_13 : (codeOf 133)[13]? = some (24, .iconst 0, 2147483648, 0, 0, 1, []) := by rw [kc133_eq]; rfl
theorem rw_133_14 : (codeOf 133)[14]? = some (25, .ireturn, 2, 0, 0, 1, []) := by rw [kc133_eq]; rfl
theorem kc137_eq : codeOf 137 = kc137 := rfl
theorem hk_137 : 137 < 186 := by decide
theorem rw_137_0 : (codeOf 137)[0]? = some (0, .iload 0, 0, 0, 0, 1, []) := by rw [kc137_eq]; rfl
theorem rw_137_1 : (codeOf 137)[1]? = some (1, .iload 1, 1, 0, 0, 1, []) := by rw [kc137_eq]; rfl
theorem rw_137_2 : (codeOf 137)[2]? = some (2, .if_icmp .ge 7, 9, 5, 0, 3, []) := by rw [kc137_eq]; rfl
theorem rw_137_3 : (codeOf 137)[3]? = some (5, .iload 0, 0, 0, 0, 1, []) := by rw [kc137_eq]; rfl
theorem rw_137_4 : (codeOf 137)[4]? = some (6, .goto 4, 10, 6, 0, 3, []) := by rw [kc137_eq]; rfl
theorem rw_137_5 : (codeOf 137)[5]? = some (9, .iload 1, 1, 0, 0, 1, []) := by rw [kc137_eq]; rfl
theorem rw_137_6 : (codeOf 137)[6]? = some (10, .ireturn, 1, 0, 0, 1, []) := by rw [kc137_eq]; rfl
theorem kc138_eq : codeOf 138 = kc138 := rfl
theorem hk_138 : 138 < 186 := by decide
theorem rw_138_0 : (codeOf 138)[0]? = some (0, .iload 0, 0, 0, 0, 1, []) := by rw [kc138_eq]; rfl
theorem rw_138_1 : (codeOf 138)[1]? = some (1, .iload 1, 1, 0, 0, 1, []) := by rw [kc138_eq]; rfl
theorem rw_138_2 : (codeOf 138)[2]? = some (2, .if_icmp .le 7, 9, 5, 0, 3, []) := by rw [kc138_eq]; rfl
theorem rw_138_3 : (codeOf 138)[3]? = some (5, .iload 0, 0, 0, 0, 1, []) := by rw [kc138_eq]; rfl
theorem rw_138_4 : (codeOf 138)[4]? = some (6, .goto 4, 10, 6, 0, 3, []) := by rw [kc138_eq]; rfl
theorem rw_138_5 : (codeOf 138)[5]? = some (9, .iload 1, 1, 0, 0, 1, []) := by rw [kc138_eq]; rfl
theorem rw_138_6 : (codeOf 138)[6]? = some (10, .ireturn, 1, 0, 0, 1, []) := by rw [kc138_eq]; rfl
theorem kc152_eq : codeOf 152 = kc152 := rfl
theorem hk_152 : 152 < 186 := by decide
theorem rw_152_0 : (codeOf 152)[0]? = some (0, .aload 0, 0, 0, 3, 1, []) := by rw [kc152_eq]; rfl
theorem rw_152_1 : (codeOf 152)[1]? = some (1, .iload 1, 1, 0, 0, 1, []) := by rw [kc152_eq]; rfl
theorem rw_152_2 : (codeOf 152)[2]? = some (2, .iconst 15, 2147483663, 0, 0, 2, []) := by rw [kc152_eq]; rfl
theorem rw_152_3 : (codeOf 152)[3]? = some (4, .iload 2, 2, 0, 0, 1, []) := by rw [kc152_eq]; rfl
theorem rw_152_4 : (codeOf 152)[4]? = some (5, .iadd, 0, 0, 0, 1, []) := by rw [kc152_eq]; rfl
theorem rw_152_5 : (codeOf 152)[5]? = some (6, .aload 0, 0, 0, 3, 1, []) := by rw [kc152_eq]; rfl
theorem rw_152_6 : (codeOf 152)[6]? = some (7, .iload 1, 1, 0, 0, 1, []) := by rw [kc152_eq]; rfl
theorem rw_152_7 : (codeOf 152)[7]? = some (8, .iconst 15, 2147483663, 0, 0, 2, []) := by rw [kc152_eq]; rfl
theorem rw_152_8 : (codeOf 152)[8]? = some (10, .iload 2, 2, 0, 0, 1, []) := by rw [kc152_eq]; rfl
theorem rw_152_9 : (codeOf 152)[9]? = some (11, .iadd, 0, 0, 0, 1, []) := by rw [kc152_eq]; rfl
theorem rw_152_10 : (codeOf 152)[10]? = some (12, .invokevirtual 62, 130, 0, 0, 3, []) := by rw [kc152_eq]; rfl
theorem rw_152_11 : (codeOf 152)[11]? = some (15, .iload 3, 3, 0, 0, 1, []) := by rw [kc152_eq]; rfl
theorem rw_152_12 : (codeOf 152)[12]? = some (16, .iadd, 0, 0, 0, 1, []) := by rw [kc152_eq]; rfl
theorem rw_152_13 : (codeOf 152)[13]? = some (17, .invokevirtual 66, 119, 0, 0, 3, []) := by rw [kc152_eq]; rfl
theorem rw_152_14 : (codeOf 152)[14]? = some (20, .return_, 0, 0, 0, 1, []) := by rw [kc152_eq]; rfl
theorem inc_1 : Int32.ofNat 1 = iv 1 := by decide
theorem inc_m1 : Int32.ofNat 4294967295 = iv (-1) := by decide
theorem inc_20 : Int32.ofNat 20 = iv 20 := by decide
def mn (x y : Int32) : Int32 := if y ≤ x then y else x
def mx (x y : Int32) : Int32 := if x ≤ y then y else x
section MC
variable {d k j : Nat} {lv : List (Option Value)} {st : List Value} {ph : PH} {Q : Option Value → PH → Prop} {B : PH} {p : Nat → Int32} {a : Nat → Nat → Int32} {z : Nat → Int32}
theorem in_ok (d : Nat) {x l h : Int} (hx : inR x) (hl : inR l) (hh : inR h) (ph : PH) : ZC d 121 [.int (iv x), .int (iv l), .int (iv h)] ph (fun v ph' => ph' = ph ∧ ((l ≤ x ∧ x ≤ h) ∧ v = some (.int (iv 1)) ∨ ¬ (l ≤ x ∧ x ≤ h) ∧ v = some (.int (iv 0)))) := by
  refine ZC.of (lv := [some (.int (iv (x))), some (.int (iv (l))), some (.int (iv (h)))]) hk_121 (fun i v hv => ?_) ?_
  · match i, hv with
    | 0, hv => cases hv; rfl
    | 1, hv => cases hv; rfl
    | 2, hv => cases hv; rfl
    | i + 3, hv => simp at hv
  refine zr_iload hk_121 rw_121_0 rfl ?_
  refine zr_iload hk_121 rw_121_1 rfl ?_
  refine zi_icmp_lt hk_121 rw_121_2 (by assumption) (by assumption) (fun h2 => ?_) (fun h2 => ?_)
  · refine zi_const hk_121 rw_121_8 (c := 0) rfl ?_
    refine zr_ireturnB hk_121 rw_121_9 (by decide) ?_
    exact ⟨rfl, Or.inr ⟨by omega, rfl⟩⟩
  · refine zr_iload hk_121 rw_121_3 rfl ?_
    refine zr_iload hk_121 rw_121_4 rfl ?_
    refine zi_icmp_gt hk_121 rw_121_5 (by assumption) (by assumption) (fun h5 => ?_) (fun h5 => ?_)
    · refine zi_const hk_121 rw_121_8 (c := 0) rfl ?_
      refine zr_ireturnB hk_121 rw_121_9 (by decide) ?_
      exact ⟨rfl, Or.inr ⟨by omega, rfl⟩⟩
    · refine zi_const hk_121 rw_121_6 (c := 1) rfl ?_
      refine zr_goto hk_121 rw_121_7 ?_
      refine zr_ireturnB hk_121 rw_121_9 (by decide) ?_
      exact ⟨rfl, Or.inl ⟨by omega, rfl⟩⟩
theorem c_in (hk : k < 186) (hB : 87 ≤ B.length) {pc b x ix : Nat} {ts : List Nat} {v l h : Int} (hrow : (codeOf k)[j]? = some (pc, .invokestatic ix, 121, b, x, 3, ts)) (hv : inR v) (hl : inR l) (hh : inR h) (hcat : catS st ≤ 8) (hT : (l ≤ v ∧ v ≤ h) → ZR (d + 1) k (j + 1) lv (.int (iv 1) :: st) ph Q) (hF : ¬ (l ≤ v ∧ v ≤ h) → ZR (d + 1) k (j + 1) lv (.int (iv 0) :: st) ph Q) : ZR (d + 1) k j lv (.int (iv h) :: .int (iv l) :: .int (iv v) :: st) ph Q := by
  refine zr_static (L := 3) (n := 3) (as := [.int (iv v), .int (iv l), .int (iv h)]) (r := st) hk hrow (by decide) (by decide) ⟨rfl, rfl, rfl⟩ rfl rfl hcat (Nat.le_of_ble_eq_true rfl) (in_ok d hv hl hh ph) ?_
  rintro w ph' ⟨rfl, hw⟩
  rcases hw with ⟨h1, rfl⟩ | ⟨h1, rfl⟩
  · exact hT h1
  · exact hF h1
theorem least_ok (d : Nat) (x y : Int32) (ph : PH) : ZC d 137 [.int x, .int y] ph (fun v ph' => ph' = ph ∧ v = some (.int (mn x y))) := by
  refine ZC.of (lv := [some (.int (x)), some (.int (y))]) hk_137 (fun i v hv => ?_) ?_
  · match i, hv with
    | 0, hv => cases hv; rfl
    | 1, hv => cases hv; rfl
    | i + 2, hv => simp at hv
  refine zr_iload hk_137 rw_137_0 rfl ?_
  refine zr_iload hk_137 rw_137_1 rfl ?_
  refine zo_icmp_ge hk_137 rw_137_2 (fun h2 => ?_) (fun h2 => ?_)
  · refine zr_iload hk_137 rw_137_5 rfl ?_
    refine zr_ireturn hk_137 rw_137_6 ?_
    exact ⟨rfl, by unfold mn; rw [if_pos h2]⟩
  · refine zr_iload hk_137 rw_137_3 rfl ?_
    refine zr_goto hk_137 rw_137_4 ?_
    refine zr_ireturn hk_137 rw_137_6 ?_
    exact ⟨rfl, by unfold mn; rw [if_neg h2]⟩
theorem c_least (hk : k < 186) (hB : 87 ≤ B.length) {pc b x ix : Nat} {ts : List Nat} {u v : Int32} (hrow : (codeOf k)[j]? = some (pc, .invokestatic ix, 137, b, x, 3, ts)) (hcat : catS st ≤ 8) (h : ZR (d + 1) k (j + 1) lv (.int (mn u v) :: st) ph Q) : ZR (d + 1) k j lv (.int v :: .int u :: st) ph Q := by
  refine zr_static (L := 2) (n := 2) (as := [.int u, .int v]) (r := st) hk hrow (by decide) (by decide) ⟨rfl, rfl, rfl⟩ rfl rfl hcat (Nat.le_of_ble_eq_true rfl) (least_ok d u v ph) ?_
  rintro w ph' ⟨rfl, rfl⟩
  exact h
theorem most_ok (d : Nat) (x y : Int32) (ph : PH) : ZC d 138 [.int x, .int y] ph (fun v ph' => ph' = ph ∧ v = some (.int (mx x y))) := by
  refine ZC.of (lv := [some (.int (x)), some (.int (y))]) hk_138 (fun i v hv => ?_) ?_
  · match i, hv with
    | 0, hv => cases hv; rfl
    | 1, hv => cases hv; rfl
    | i + 2, hv => simp at hv
  refine zr_iload hk_138 rw_138_0 rfl ?_
  refine zr_iload hk_138 rw_138_1 rfl ?_
  refine zo_icmp_le hk_138 rw_138_2 (fun h2 => ?_) (fun h2 => ?_)
  · refine zr_iload hk_138 rw_138_5 rfl ?_
    refine zr_ireturn hk_138 rw_138_6 ?_
    exact ⟨rfl, by unfold mx; rw [if_pos h2]⟩
  · refine zr_iload hk_138 rw_138_3 rfl ?_
    refine zr_goto hk_138 rw_138_4 ?_
    refine zr_ireturn hk_138 rw_138_6 ?_
    exact ⟨rfl, by unfold mx; rw [if_neg h2]⟩
theorem c_most (hk : k < 186) (hB : 87 ≤ B.length) {pc b x ix : Nat} {ts : List Nat} {u v : Int32} (hrow : (codeOf k)[j]? = some (pc, .invokestatic ix, 138, b, x, 3, ts)) (hcat : catS st ≤ 8) (h : ZR (d + 1) k (j + 1) lv (.int (mx u v) :: st) ph Q) : ZR (d + 1) k j lv (.int v :: .int u :: st) ph Q := by
  refine zr_static (L := 2) (n := 2) (as := [.int u, .int v]) (r := st) hk hrow (by decide) (by decide) ⟨rfl, rfl, rfl⟩ rfl rfl hcat (Nat.le_of_ble_eq_true rfl) (most_ok d u v ph) ?_
  rintro w ph' ⟨rfl, rfl⟩
  exact h
theorem of_ok (d : Nat) (hB : 87 ≤ B.length) {c w : Int} {i : Nat} (he : 21 * c + w = (i : Int)) (hi : i < 14000) : ZC d 130 [.ref 75, .int (iv c), .int (iv w)] (mh B p a z) (fun v ph' => ph' = mh B p a z ∧ v = some (.int (p i))) := by
  refine ZC.of (lv := [some (.ref 75), some (.int (iv (c))), some (.int (iv (w)))]) hk_130 (fun i v hv => ?_) ?_
  · match i, hv with
    | 0, hv => cases hv; rfl
    | 1, hv => cases hv; rfl
    | 2, hv => cases hv; rfl
    | i + 3, hv => simp at hv
  refine zr_aload hk_130 rw_130_0 rfl ?_
  refine mz_getf hk_130 hB rw_130_1 rfl ?_
  refine zi_const hk_130 rw_130_2 (c := 21) rfl ?_
  refine zr_iload hk_130 rw_130_3 rfl ?_
  refine zi_mul hk_130 rw_130_4 ?_
  refine zr_iload hk_130 rw_130_5 rfl ?_
  refine zi_add hk_130 rw_130_6 ?_
  refine mz_plde hk_130 hB rw_130_7 (i) (he) (hi) (rfl) ?_
  refine zr_ireturn hk_130 rw_130_8 ?_
  exact ⟨rfl, rfl⟩
theorem c_of (hk : k < 186) (hB : 87 ≤ B.length) {pc b x ix : Nat} {ts : List Nat} {c w : Int} (hrow : (codeOf k)[j]? = some (pc, .invokevirtual ix, 130, b, x, 3, ts)) (i : Nat) (he : 21 * c + w = (i : Int)) (hi : i < 14000) (hcat : catS st ≤ 8) (h : ZR (d + 1) k (j + 1) lv (.int (p i) :: st) (mh B p a z) Q) : ZR (d + 1) k j lv (.int (iv w) :: .int (iv c) :: .ref 75 :: st) (mh B p a z) Q := by
  refine mz_call (L := 3) (n := 2) (as := [.int (iv c), .int (iv w)]) (r := st) hk hB hrow (by decide) (by decide) ⟨rfl, rfl, rfl, rfl⟩ rfl rfl hcat (Nat.le_of_ble_eq_true rfl) (of_ok d hB he hi) ?_
  rintro w ph' ⟨rfl, rfl⟩
  exact h
theorem c_ofE (hk : k < 186) (hB : 87 ≤ B.length) {pc b x ix : Nat} {ts : List Nat} {c w : Int} (hrow : (codeOf k)[j]? = some (pc, .invokevirtual ix, 130, b, x, 3, ts)) (i : Nat) (he : 21 * c + w = (i : Int)) (hi : i < 14000) {f : Int32} (hf : p i = f) (hcat : catS st ≤ 8) (h : ZR (d + 1) k (j + 1) lv (.int f :: st) (mh B p a z) Q) : ZR (d + 1) k j lv (.int (iv w) :: .int (iv c) :: .ref 75 :: st) (mh B p a z) Q := by
  subst hf
  exact c_of hk hB hrow i he hi hcat h
theorem put_ok (d : Nat) (hB : 87 ≤ B.length) {c w : Int} {y : Int32} {i : Nat} (he : 21 * c + w = (i : Int)) (hi : i < 14000) : ZC d 119 [.ref 75, .int (iv c), .int (iv w), .int y] (mh B p a z) (fun v ph' => ph' = mh B (upd p i y) a z ∧ v = none) := by
  refine ZC.of (lv := [some (.ref 75), some (.int (iv (c))), some (.int (iv (w))), some (.int (y))]) hk_119 (fun i v hv => ?_) ?_
  · match i, hv with
    | 0, hv => cases hv; rfl
    | 1, hv => cases hv; rfl
    | 2, hv => cases hv; rfl
    | 3, hv => cases hv; rfl
    | i + 4, hv => simp at hv
  refine zr_aload hk_119 rw_119_0 rfl ?_
  refine mz_getf hk_119 hB rw_119_1 rfl ?_
  refine zi_const hk_119 rw_119_2 (c := 21) rfl ?_
  refine zr_iload hk_119 rw_119_3 rfl ?_
  refine zi_mul hk_119 rw_119_4 ?_
  refine zr_iload hk_119 rw_119_5 rfl ?_
  refine zi_add hk_119 rw_119_6 ?_
  refine zr_iload hk_119 rw_119_7 rfl ?_
  refine mz_pst hk_119 hB rw_119_8 (i) (he) (hi) ?_
  refine zr_return (a := 0) hk_119 rw_119_9 ?_
  exact ⟨rfl, rfl⟩
theorem c_put (hk : k < 186) (hB : 87 ≤ B.length) {pc b x ix : Nat} {ts : List Nat} {c w : Int} {y : Int32} (hrow : (codeOf k)[j]? = some (pc, .invokevirtual ix, 119, b, x, 3, ts)) (i : Nat) (he : 21 * c + w = (i : Int)) (hi : i < 14000) (hcat : catS st ≤ 8) (h : ZR (d + 1) k (j + 1) lv st (mh B (upd p i y) a z) Q) : ZR (d + 1) k j lv (.int y :: .int (iv w) :: .int (iv c) :: .ref 75 :: st) (mh B p a z) Q := by
  refine mz_call (L := 4) (n := 3) (as := [.int (iv c), .int (iv w), .int y]) (r := st) hk hB hrow (by decide) (by decide) ⟨rfl, rfl, rfl, rfl⟩ rfl rfl hcat (Nat.le_of_ble_eq_true rfl) (put_ok d hB he hi) ?_
  rintro w ph' ⟨rfl, rfl⟩
  exact h
theorem isOpen_ok (d : Nat) (hB : 87 ≤ B.length) {c : Int} (hc : inR c) : ZC (d + 1) 133 [.ref 75, .int (iv c)] (mh B p a z) (fun v ph' => ph' = mh B p a z ∧ ((∃ n : Nat, c = (n : Int) ∧ n ≤ 9 ∧ p (21 * n) = iv 1) ∧ v = some (.int (iv 1)) ∨ ¬ (∃ n : Nat, c = (n : Int) ∧ n ≤ 9 ∧ p (21 * n) = iv 1) ∧ v = some (.int (iv 0)))) := by
  refine ZC.of (lv := [some (.ref 75), some (.int (iv (c)))]) hk_133 (fun i v hv => ?_) ?_
  · match i, hv with
    | 0, hv => cases hv; rfl
    | 1, hv => cases hv; rfl
    | i + 2, hv => simp at hv
  refine zr_iload hk_133 rw_133_0 rfl ?_
  refine zi_const hk_133 rw_133_1 (c := 0) rfl ?_
  refine zi_const hk_133 rw_133_2 (c := 9) rfl ?_
  refine c_in hk_133 hB rw_133_3 (by first | assumption | (unfold inR; omega)) (by first | assumption | (unfold inR; omega)) (by first | assumption | (unfold inR; omega)) (Nat.le_of_ble_eq_true rfl) (fun h3c => ?_) (fun h3c => ?_)
  · refine zi_if_eq hk_133 rw_133_4 (by unfold inR; omega) (fun h => absurd h (by decide)) (fun _ => ?_)
    refine zr_aload hk_133 rw_133_5 rfl ?_
    refine zr_iload hk_133 rw_133_6 rfl ?_
    refine zi_const hk_133 rw_133_7 (c := 0) rfl ?_
    refine c_of hk_133 hB rw_133_8 (21 * c.toNat) (by omega) (by omega) (Nat.le_of_ble_eq_true rfl) ?_
    refine zi_const hk_133 rw_133_9 (c := 1) rfl ?_
    refine zo_icmp_ne hk_133 rw_133_10 (fun h10 => ?_) (fun h10 => ?_)
    · refine zi_const hk_133 rw_133_13 (c := 0) rfl ?_
      refine zr_ireturnB hk_133 rw_133_14 (by decide) ?_
      exact ⟨rfl, Or.inr ⟨fun ⟨n, e1, e2, e3⟩ => h10 (by rw [show c.toNat = n by omega]; exact e3), rfl⟩⟩
    · refine zi_const hk_133 rw_133_11 (c := 1) rfl ?_
      refine zr_goto hk_133 rw_133_12 ?_
      refine zr_ireturnB hk_133 rw_133_14 (by decide) ?_
      exact ⟨rfl, Or.inl ⟨⟨c.toNat, by omega, by omega, h10⟩, rfl⟩⟩
  · refine zi_if_eq hk_133 rw_133_4 (by unfold inR; omega) (fun _ => ?_) (fun h => absurd h (by decide))
    refine zi_const hk_133 rw_133_13 (c := 0) rfl ?_
    refine zr_ireturnB hk_133 rw_133_14 (by decide) ?_
    exact ⟨rfl, Or.inr ⟨fun ⟨n, e1, e2, e3⟩ => h3c ⟨by omega, by omega⟩, rfl⟩⟩
theorem c_isOpen (hk : k < 186) (hB : 87 ≤ B.length) {pc b x ix : Nat} {ts : List Nat} {c : Int} (hrow : (codeOf k)[j]? = some (pc, .invokevirtual ix, 133, b, x, 3, ts)) (hc : inR c) (hcat : catS st ≤ 8) (hT : (∃ n : Nat, c = (n : Int) ∧ n ≤ 9 ∧ p (21 * n) = iv 1) → ZR (d + 2) k (j + 1) lv (.int (iv 1) :: st) (mh B p a z) Q) (hF : ¬ (∃ n : Nat, c = (n : Int) ∧ n ≤ 9 ∧ p (21 * n) = iv 1) → ZR (d + 2) k (j + 1) lv (.int (iv 0) :: st) (mh B p a z) Q) : ZR (d + 2) k j lv (.int (iv c) :: .ref 75 :: st) (mh B p a z) Q := by
  refine mz_call (L := 2) (n := 1) (as := [.int (iv c)]) (r := st) hk hB hrow (by decide) (by decide) ⟨rfl, rfl, rfl, rfl⟩ rfl rfl hcat (Nat.le_of_ble_eq_true rfl) (isOpen_ok d hB hc) ?_
  rintro w ph' ⟨rfl, hw⟩
  rcases hw with ⟨h1, rfl⟩ | ⟨h1, rfl⟩
  · exact hT h1
  · exact hF h1
theorem c_isOpenN (hk : k < 186) (hB : 87 ≤ B.length) {pc b x ix : Nat} {ts : List Nat} {c : Int} (hrow : (codeOf k)[j]? = some (pc, .invokevirtual ix, 133, b, x, 3, ts)) (n : Nat) (hc : c = (n : Int)) (hn : n ≤ 9) (hcat : catS st ≤ 8) (hT : p (21 * n) = iv 1 → ZR (d + 2) k (j + 1) lv (.int (iv 1) :: st) (mh B p a z) Q) (hF : ¬ p (21 * n) = iv 1 → ZR (d + 2) k (j + 1) lv (.int (iv 0) :: st) (mh B p a z) Q) : ZR (d + 2) k j lv (.int (iv c) :: .ref 75 :: st) (mh B p a z) Q :=
  c_isOpen hk hB hrow (by unfold inR; omega) hcat (fun ⟨m, e1, e2, e3⟩ => hT (by rw [show n = m by omega]; exact e3)) (fun h => hF (fun e => h ⟨n, hc, hn, e⟩))
theorem counts_ok (d : Nat) (hB : 87 ≤ B.length) {c w : Int} {y : Int32} {i : Nat} (he : 21 * c + 15 + w = (i : Int)) (hi : i < 14000) : ZC (d + 1) 152 [.ref 75, .int (iv c), .int (iv w), .int y] (mh B p a z) (fun v ph' => ph' = mh B (upd p i (p i + y)) a z ∧ v = none) := by
  refine ZC.of (lv := [some (.ref 75), some (.int (iv (c))), some (.int (iv (w))), some (.int (y))]) hk_152 (fun i v hv => ?_) ?_
  · match i, hv with
    | 0, hv => cases hv; rfl
    | 1, hv => cases hv; rfl
    | 2, hv => cases hv; rfl
    | 3, hv => cases hv; rfl
    | i + 4, hv => simp at hv
  refine zr_aload hk_152 rw_152_0 rfl ?_
  refine zr_iload hk_152 rw_152_1 rfl ?_
  refine zi_const hk_152 rw_152_2 (c := 15) rfl ?_
  refine zr_iload hk_152 rw_152_3 rfl ?_
  refine zi_add hk_152 rw_152_4 ?_
  refine zr_aload hk_152 rw_152_5 rfl ?_
  refine zr_iload hk_152 rw_152_6 rfl ?_
  refine zi_const hk_152 rw_152_7 (c := 15) rfl ?_
  refine zr_iload hk_152 rw_152_8 rfl ?_
  refine zi_add hk_152 rw_152_9 ?_
  refine c_of hk_152 hB rw_152_10 i (by omega) hi (Nat.le_of_ble_eq_true rfl) ?_
  refine zr_iload hk_152 rw_152_11 rfl ?_
  refine zr_iadd hk_152 rw_152_12 ?_
  refine c_put hk_152 hB rw_152_13 i (by omega) hi (Nat.le_of_ble_eq_true rfl) ?_
  refine zr_return (a := 0) hk_152 rw_152_14 ?_
  exact ⟨rfl, rfl⟩
theorem c_counts (hk : k < 186) (hB : 87 ≤ B.length) {pc b x ix : Nat} {ts : List Nat} {c w : Int} {y : Int32} (hrow : (codeOf k)[j]? = some (pc, .invokevirtual ix, 152, b, x, 3, ts)) (i : Nat) (he : 21 * c + 15 + w = (i : Int)) (hi : i < 14000) (hcat : catS st ≤ 8) (h : ZR (d + 2) k (j + 1) lv st (mh B (upd p i (p i + y)) a z) Q) : ZR (d + 2) k j lv (.int y :: .int (iv w) :: .int (iv c) :: .ref 75 :: st) (mh B p a z) Q := by
  refine mz_call (L := 4) (n := 3) (as := [.int (iv c), .int (iv w), .int y]) (r := st) hk hB hrow (by decide) (by decide) ⟨rfl, rfl, rfl, rfl⟩ rfl rfl hcat (Nat.le_of_ble_eq_true rfl) (counts_ok d hB he hi) ?_
  rintro w ph' ⟨rfl, rfl⟩
  exact h
end MC

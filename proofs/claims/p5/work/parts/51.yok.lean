/-! ===== the abstract machine is right ===== -/
section YJ
variable {GI : PH → Prop} {mk D : Nat} {σ : List Value} {ih : YB} {e : CE} {full rest : List CE} {lv : List (Option YV)} {st : List YV} {Y : YE} {d mi pc nc ns : Nat} {l : List YO} {M : MR} {clv : PV} {cst : List Value} {ph : PH}
theorem gy_ret {len : Nat} {i : Instr} {r : Option YV} {v : Option Value} (hM : mT[mi]? = some M) (hd : decode (mC M) pc = .ok (i, len)) (hc : x_ca (mO M) i len cst ph = none) (hr : x_re M i len cst = some v) (hS : YS GI σ Y lv st clv cst ph) (ho : (r, Y) ∈ l) (hv : optR σ r v) : GoodY GI mk σ d mi pc clv cst ph nc ns l := by
  refine ⟨_, ho, 1, v, ph, nc, ns, σ, ?_, List.prefix_rfl, hS.1, hS.2.1, hS.2.2.1, hS.wt, hS.2.2.2.2.2.2, Fr.rfl' _ _, hv⟩
  rw [run, hM]
  dsimp only
  rw [hd]
  dsimp only
  rw [hc]
  dsimp only
  rw [hr]
theorem yk_return (hA : AtC mi M full (e :: rest) pc) (hS : YS GI σ Y lv st clv cst ph) (ha : e.2.2.1 = retT (mR M)) (hd : decode (mC M) pc = .ok (.return_, 1)) (hp : y_ret 0 ih e full rest lv st Y d = some l) : GoodY GI mk σ d mi pc clv cst ph nc ns l := by
  unfold y_ret at hp
  cases st with
  | cons _ _ => cases hp
  | nil =>
    have hp : (bif Nat.beq e.2.2.1 0 then some [(none, Y)] else none) = some l := hp
    cases hc : Nat.beq e.2.2.1 0 with
    | false => rw [hc] at hp; cases hp
    | true =>
      rw [hc, cond_true] at hp
      cases hp
      have h0 : mR M = none := retT_0 (by rw [← ha]; exact beq_of hc)
      have hn := hS.nil
      subst hn
      exact gy_ret (r := none) (v := none) hA.1 hd rfl (by simp [x_re, h0]) hS List.mem_cons_self trivial
theorem yk_ireturn (hA : AtC mi M full (e :: rest) pc) (hS : YS GI σ Y lv st clv cst ph) (ha : e.2.2.1 = retT (mR M)) (hd : decode (mC M) pc = .ok (.ireturn, 1)) (hp : y_ret 1 ih e full rest lv st Y d = some l) : GoodY GI mk σ d mi pc clv cst ph nc ns l := by
  unfold y_ret at hp
  match st, hS, hp with
  | [], _, hp => cases hp
  | v :: w :: r, _, hp => cases hp
  | [v], hS, hp =>
    have hp : (rngK Y.2.1 v fun a b => bif Nat.beq e.2.2.1 1 then some [(some v, Y)] else bif Nat.beq e.2.2.1 2 && Nat.ble oZ a && Nat.ble b (oZ + 1) then some [(some v, Y)] else none) = some l := hp
    obtain ⟨x0, c2, rfl, hv, hS1⟩ := hS.pop
    have hn := hS1.nil
    subst hn
    obtain ⟨a, b, x, -, rfl, a1, a2, hp⟩ := rngK_ok hp hS.env hv
    cases hc : Nat.beq e.2.2.1 1 with
    | true =>
      rw [hc, cond_true] at hp
      cases hp
      have h0 : mR M = some .int := retT_1 (by rw [← ha]; exact beq_of hc)
      exact gy_ret (r := some v) (v := some (.int x)) hA.1 hd rfl (by simp [x_re, h0]) hS List.mem_cons_self hv
    | false =>
      rw [hc, cond_false] at hp
      cases hc2 : (Nat.beq e.2.2.1 2 && Nat.ble oZ a && Nat.ble b (oZ + 1)) with
      | false => rw [hc2] at hp; cases hp
      | true =>
        rw [hc2, cond_true] at hp
        cases hp
        simp only [Bool.and_eq_true] at hc2
        have h0 : mR M = some .boolean := retT_2 (by rw [← ha]; exact beq_of hc2.1.1)
        have b1 := ble_of hc2.1.2
        have b2 := ble_of hc2.2
        have hz : cI' x = oZ ∨ cI' x = oZ + 1 := by omega
        have hx : x = 0 ∨ x = 1 := by
          rw [← oI_cI x]
          rcases hz with z | z
          · rw [z, oI_z]; exact Or.inl rfl
          · rw [z, oI_one]; exact Or.inr rfl
        exact gy_ret (r := some v) (v := some (.int x)) hA.1 hd rfl (by simp [x_re, h0, hx]) hS List.mem_cons_self hv
theorem yk_lreturn (hA : AtC mi M full (e :: rest) pc) (hS : YS GI σ Y lv st clv cst ph) (ha : e.2.2.1 = retT (mR M)) (hd : decode (mC M) pc = .ok (.lreturn, 1)) (hp : y_ret 3 ih e full rest lv st Y d = some l) : GoodY GI mk σ d mi pc clv cst ph nc ns l := by
  unfold y_ret at hp
  match st, hS, hp with
  | [], _, hp => cases hp
  | v :: w :: r, _, hp => cases hp
  | [v], hS, hp =>
    have hp : (rngL Y.2.1 v fun _ _ => bif Nat.beq e.2.2.1 3 then some [(some v, Y)] else none) = some l := hp
    obtain ⟨x0, c2, rfl, hv, hS1⟩ := hS.pop
    have hn := hS1.nil
    subst hn
    obtain ⟨a, b, x, -, rfl, a1, a2, hp⟩ := rngL_ok hp hS.env hv
    cases hc : Nat.beq e.2.2.1 3 with
    | false => rw [hc] at hp; cases hp
    | true =>
      rw [hc, cond_true] at hp
      cases hp
      have h0 : mR M = some .long := retT_3 (by rw [← ha]; exact beq_of hc)
      exact gy_ret (r := some v) (v := some (.long x)) hA.1 hd rfl (by simp [x_re, h0]) hS List.mem_cons_self hv
/-- what is known at the cuts holds -/
def CutY (GI : PH → Prop) (mk D : Nat) (B : YP) : Prop := ∀ (ih : YB) (e : CE) (full rest : List CE) (lv : List (Option YV)) (st : List YV) (Y : YE) (d : Nat) (l : List YO), B ih e full rest lv st Y d = some l → ∀ (mi : Nat) (M : MR) (σ : List Value) (pc : Nat) (clv : PV) (cst : List Value) (ph : PH) (nc ns : Nat), AtC mi M full (e :: rest) pc → cutB M e.2.2.1 = true → d ≤ D → YS GI σ Y lv st clv cst ph → GoodY GI mk σ d mi pc clv cst ph nc ns l
set_option maxHeartbeats 4000000 in
theorem yx_ok {B : YP} (hC : CertAll) (hG : GOK GI) (hG2 : ∀ ph, GI ph → 2 ≤ ph.length) (hK0 : CtAll GI D) (hB : CutY GI mk D B) : ∀ n, IHy GI mk D (yx mk B n)
  | 0 => ⟨fun _ _ _ _ _ => rfl, fun _ _ _ _ _ _ _ _ _ hr => by cases hr⟩
  | n + 1 => by
    have hI := yx_ok hC hG hG2 hK0 hB n
    refine ⟨fun _ _ _ _ _ => rfl, ?_⟩
    intro mi M full cur lv st Y d l hr σ pc clv cst ph nc ns hA hD hS
    obtain ⟨hM, hf, j, e, rest, hcur, hdrop, hpc⟩ := id hA
    subst hcur
    have hr : yd mk B e.2.1 (yx mk B n) e full rest lv st Y d = some l := hr
    have hmem : e ∈ codeOf mi := by rw [← hf]; exact List.mem_of_mem_drop (i := j) (by rw [hdrop]; exact List.mem_cons_self)
    have hrow := (hC mi M hM).1 e hmem
    unfold rowOK at hrow
    cases hcut : decide (e.2.1 = .monitorexit) with
    | true =>
      rw [hcut, cond_true, Bool.and_eq_true] at hrow
      rw [of_decide_eq_true hcut] at hr
      have hr : (match B (yx mk B n) e full rest lv st Y d with
        | some l => some l
        | none => yx mk B n full rest lv st Y d) = some l := hr
      cases hbb : B (yx mk B n) e full rest lv st Y d with
      | some l' =>
        rw [hbb] at hr
        cases hr
        exact hB (yx mk B n) e full rest lv st Y d _ hbb mi M σ pc clv cst ph nc ns hA hrow.2 hD hS
      | none =>
        rw [hbb] at hr
        exact gy_next hC hI hA (beq_of hrow.1) hD hr hS
    | false =>
    rw [hcut, cond_false] at hrow
    split at hrow
    case h_2 => cases hrow
    rename_i i len hd
    rw [Bool.and_eq_true] at hrow
    obtain ⟨hlen, hnr⟩ := hrow
    have hlen := (beq_of hlen).symm
    rw [hpc] at hd
    rw [← hf] at hnr
    cases i <;> simp only [nrm, Bool.and_eq_true, decide_eq_true_eq] at hnr
    case iconst v =>
      obtain ⟨⟨ht, ha⟩, hl⟩ := hnr
      rw [ht] at hr
      have hl := beq_of hl
      have hq : len = e.2.2.2.2.2.1 := hlen.symm
      rw [hl] at hq
      subst hq
      exact yk_iconst hC hI hA hD hS ha hd hl hr
    case bipush v =>
      obtain ⟨⟨ht, ha⟩, hl⟩ := hnr
      rw [ht] at hr
      have hl := beq_of hl
      have hq : len = e.2.2.2.2.2.1 := hlen.symm
      rw [hl] at hq
      subst hq
      exact yk_bipush hC hI hA hD hS ha hd hl hr
    case sipush v =>
      obtain ⟨⟨ht, ha⟩, hl⟩ := hnr
      rw [ht] at hr
      have hl := beq_of hl
      have hq : len = e.2.2.2.2.2.1 := hlen.symm
      rw [hl] at hq
      subst hq
      exact yk_sipush hC hI hA hD hS ha hd hl hr
    case lconst v =>
      obtain ⟨⟨ht, ha⟩, hl⟩ := hnr
      rw [ht] at hr
      have hl := beq_of hl
      have hq : len = e.2.2.2.2.2.1 := hlen.symm
      rw [hl] at hq
      subst hq
      exact yk_lconst hC hI hA hD hS ha hd hl hr
    case ldc2_w ix =>
      obtain ⟨⟨ht, ha⟩, hl⟩ := hnr
      rw [ht] at hr
      have hl := beq_of hl
      have hq : len = e.2.2.2.2.2.1 := hlen.symm
      rw [hl] at hq
      subst hq
      exact yk_ldc2 hC hI hA hD hS ha hd hl hr
    case iload k =>
      obtain ⟨⟨⟨ht, ha⟩, hx⟩, hl⟩ := hnr
      rw [ht] at hr
      have hl := beq_of hl
      have hq : len = e.2.2.2.2.2.1 := hlen.symm
      rw [hl] at hq
      subst hq
      exact yk_iload hC hI hA hD hS (beq_of ha) (beq_of hx) hd hl hr
    case iload_n k =>
      obtain ⟨⟨⟨ht, ha⟩, hx⟩, hl⟩ := hnr
      rw [ht] at hr
      have hl := beq_of hl
      have hq : len = e.2.2.2.2.2.1 := hlen.symm
      rw [hl] at hq
      subst hq
      exact yk_iload_n hC hI hA hD hS (beq_of ha) (beq_of hx) hd hl hr
    case lload k =>
      obtain ⟨⟨⟨ht, ha⟩, hx⟩, hl⟩ := hnr
      rw [ht] at hr
      have hl := beq_of hl
      have hq : len = e.2.2.2.2.2.1 := hlen.symm
      rw [hl] at hq
      subst hq
      exact yk_lload hC hI hA hD hS (beq_of ha) (beq_of hx) hd hl hr
    case lload_n k =>
      obtain ⟨⟨⟨ht, ha⟩, hx⟩, hl⟩ := hnr
      rw [ht] at hr
      have hl := beq_of hl
      have hq : len = e.2.2.2.2.2.1 := hlen.symm
      rw [hl] at hq
      subst hq
      exact yk_lload_n hC hI hA hD hS (beq_of ha) (beq_of hx) hd hl hr
    case aload k =>
      obtain ⟨⟨⟨ht, ha⟩, hx⟩, hl⟩ := hnr
      rw [ht] at hr
      have hl := beq_of hl
      have hq : len = e.2.2.2.2.2.1 := hlen.symm
      rw [hl] at hq
      subst hq
      exact yk_aload hC hI hA hD hS (beq_of ha) (beq_of hx) hd hl hr
    case aload_n k =>
      obtain ⟨⟨⟨ht, ha⟩, hx⟩, hl⟩ := hnr
      rw [ht] at hr
      have hl := beq_of hl
      have hq : len = e.2.2.2.2.2.1 := hlen.symm
      rw [hl] at hq
      subst hq
      exact yk_aload_n hC hI hA hD hS (beq_of ha) (beq_of hx) hd hl hr
    case istore k =>
      obtain ⟨⟨⟨⟨ht, ha⟩, hx⟩, hl⟩, hk⟩ := hnr
      rw [ht] at hr
      have hl := beq_of hl
      have hq : len = e.2.2.2.2.2.1 := hlen.symm
      rw [hl] at hq
      subst hq
      exact yk_istore hC hI hA hD hS (beq_of ha) (beq_of hx) (blt_iff.mp hk) hd hl hr
    case istore_n k =>
      obtain ⟨⟨⟨⟨ht, ha⟩, hx⟩, hl⟩, hk⟩ := hnr
      rw [ht] at hr
      have hl := beq_of hl
      have hq : len = e.2.2.2.2.2.1 := hlen.symm
      rw [hl] at hq
      subst hq
      exact yk_istore_n hC hI hA hD hS (beq_of ha) (beq_of hx) (blt_iff.mp hk) hd hl hr
    case astore k =>
      obtain ⟨⟨⟨⟨ht, ha⟩, hx⟩, hl⟩, hk⟩ := hnr
      rw [ht] at hr
      have hl := beq_of hl
      have hq : len = e.2.2.2.2.2.1 := hlen.symm
      rw [hl] at hq
      subst hq
      exact yk_astore hC hI hA hD hS (beq_of ha) (beq_of hx) (blt_iff.mp hk) hd hl hr
    case astore_n k =>
      obtain ⟨⟨⟨⟨ht, ha⟩, hx⟩, hl⟩, hk⟩ := hnr
      rw [ht] at hr
      have hl := beq_of hl
      have hq : len = e.2.2.2.2.2.1 := hlen.symm
      rw [hl] at hq
      subst hq
      exact yk_astore_n hC hI hA hD hS (beq_of ha) (beq_of hx) (blt_iff.mp hk) hd hl hr
    case lstore k =>
      obtain ⟨⟨⟨⟨ht, ha⟩, hx⟩, hl⟩, hk⟩ := hnr
      rw [ht] at hr
      have hl := beq_of hl
      have hq : len = e.2.2.2.2.2.1 := hlen.symm
      rw [hl] at hq
      subst hq
      exact yk_lstore hC hI hA hD hS (beq_of ha) (blt_iff.mp hk) hd hl hr
    case lstore_n k =>
      obtain ⟨⟨⟨⟨ht, ha⟩, hx⟩, hl⟩, hk⟩ := hnr
      rw [ht] at hr
      have hl := beq_of hl
      have hq : len = e.2.2.2.2.2.1 := hlen.symm
      rw [hl] at hq
      subst hq
      exact yk_lstore_n hC hI hA hD hS (beq_of ha) (blt_iff.mp hk) hd hl hr
    case iinc k m =>
      obtain ⟨⟨⟨⟨ht, ha⟩, hb⟩, hl⟩, hk⟩ := hnr
      rw [ht] at hr
      have hl := beq_of hl
      have hq : len = e.2.2.2.2.2.1 := hlen.symm
      rw [hl] at hq
      subst hq
      exact yk_iinc hC hI hA hD hS (beq_of ha) hb (blt_iff.mp hk) hd hl hr
    case iadd =>
      obtain ⟨ht, hl⟩ := hnr
      rw [ht] at hr
      have hl := beq_of hl
      have hq : len = e.2.2.2.2.2.1 := hlen.symm
      rw [hl] at hq
      subst hq
      exact yk_iadd hC hI hA hD hS hd hl hr
    case isub =>
      obtain ⟨ht, hl⟩ := hnr
      rw [ht] at hr
      have hl := beq_of hl
      have hq : len = e.2.2.2.2.2.1 := hlen.symm
      rw [hl] at hq
      subst hq
      exact yk_isub hC hI hA hD hS hd hl hr
    case imul =>
      obtain ⟨ht, hl⟩ := hnr
      rw [ht] at hr
      have hl := beq_of hl
      have hq : len = e.2.2.2.2.2.1 := hlen.symm
      rw [hl] at hq
      subst hq
      exact yk_imul hC hI hA hD hS hd hl hr
    case idiv =>
      obtain ⟨ht, hl⟩ := hnr
      rw [ht] at hr
      have hl := beq_of hl
      have hq : len = e.2.2.2.2.2.1 := hlen.symm
      rw [hl] at hq
      subst hq
      exact yk_idiv hC hI hA hD hS hd hl hr
    case irem =>
      obtain ⟨ht, hl⟩ := hnr
      rw [ht] at hr
      have hl := beq_of hl
      have hq : len = e.2.2.2.2.2.1 := hlen.symm
      rw [hl] at hq
      subst hq
      exact yk_irem hC hI hA hD hS hd hl hr
    case ineg =>
      obtain ⟨ht, hl⟩ := hnr
      rw [ht] at hr
      have hl := beq_of hl
      have hq : len = e.2.2.2.2.2.1 := hlen.symm
      rw [hl] at hq
      subst hq
      exact yk_ineg hC hI hA hD hS hd hl hr
    case ior =>
      obtain ⟨ht, hl⟩ := hnr
      rw [ht] at hr
      have hl := beq_of hl
      have hq : len = e.2.2.2.2.2.1 := hlen.symm
      rw [hl] at hq
      subst hq
      exact yk_ior hC hI hA hD hS hd hl hr
    case ixor =>
      obtain ⟨ht, hl⟩ := hnr
      rw [ht] at hr
      have hl := beq_of hl
      have hq : len = e.2.2.2.2.2.1 := hlen.symm
      rw [hl] at hq
      subst hq
      exact yk_ixor hC hI hA hD hS hd hl hr
    case ishl =>
      obtain ⟨ht, hl⟩ := hnr
      rw [ht] at hr
      have hl := beq_of hl
      have hq : len = e.2.2.2.2.2.1 := hlen.symm
      rw [hl] at hq
      subst hq
      exact yk_ishl hC hI hA hD hS hd hl hr
    case ishr =>
      obtain ⟨ht, hl⟩ := hnr
      rw [ht] at hr
      have hl := beq_of hl
      have hq : len = e.2.2.2.2.2.1 := hlen.symm
      rw [hl] at hq
      subst hq
      exact yk_ishr hC hI hA hD hS hd hl hr
    case ladd =>
      obtain ⟨ht, hl⟩ := hnr
      rw [ht] at hr
      have hl := beq_of hl
      have hq : len = e.2.2.2.2.2.1 := hlen.symm
      rw [hl] at hq
      subst hq
      exact yk_ladd hC hI hA hD hS hd hl hr
    case lsub =>
      obtain ⟨ht, hl⟩ := hnr
      rw [ht] at hr
      have hl := beq_of hl
      have hq : len = e.2.2.2.2.2.1 := hlen.symm
      rw [hl] at hq
      subst hq
      exact yk_lsub hC hI hA hD hS hd hl hr
    case lmul =>
      obtain ⟨ht, hl⟩ := hnr
      rw [ht] at hr
      have hl := beq_of hl
      have hq : len = e.2.2.2.2.2.1 := hlen.symm
      rw [hl] at hq
      subst hq
      exact yk_lmul hC hI hA hD hS hd hl hr
    case ldiv =>
      obtain ⟨ht, hl⟩ := hnr
      rw [ht] at hr
      have hl := beq_of hl
      have hq : len = e.2.2.2.2.2.1 := hlen.symm
      rw [hl] at hq
      subst hq
      exact yk_ldiv hC hI hA hD hS hd hl hr
    case lcmp =>
      obtain ⟨ht, hl⟩ := hnr
      rw [ht] at hr
      have hl := beq_of hl
      have hq : len = e.2.2.2.2.2.1 := hlen.symm
      rw [hl] at hq
      subst hq
      exact yk_lcmp hC hI hA hD hS hd hl hr
    case i2l =>
      obtain ⟨ht, hl⟩ := hnr
      rw [ht] at hr
      have hl := beq_of hl
      have hq : len = e.2.2.2.2.2.1 := hlen.symm
      rw [hl] at hq
      subst hq
      exact yk_i2l hC hI hA hD hS hd hl hr
    case l2i =>
      obtain ⟨ht, hl⟩ := hnr
      rw [ht] at hr
      have hl := beq_of hl
      have hq : len = e.2.2.2.2.2.1 := hlen.symm
      rw [hl] at hq
      subst hq
      exact yk_l2i hC hI hA hD hS hd hl hr
    case dup =>
      obtain ⟨ht, hl⟩ := hnr
      rw [ht] at hr
      have hl := beq_of hl
      have hq : len = e.2.2.2.2.2.1 := hlen.symm
      rw [hl] at hq
      subst hq
      exact yk_dup hC hI hA hD hS hd hl hr
    case dup2 =>
      obtain ⟨ht, hl⟩ := hnr
      rw [ht] at hr
      have hl := beq_of hl
      have hq : len = e.2.2.2.2.2.1 := hlen.symm
      rw [hl] at hq
      subst hq
      exact yk_dup2 hC hI hA hD hS hd hl hr
    case pop =>
      obtain ⟨ht, hl⟩ := hnr
      rw [ht] at hr
      have hl := beq_of hl
      have hq : len = e.2.2.2.2.2.1 := hlen.symm
      rw [hl] at hq
      subst hq
      exact yk_pop hC hI hA hD hS hd hl hr
    case iaload =>
      obtain ⟨ht, hl⟩ := hnr
      rw [ht] at hr
      have hl := beq_of hl
      have hq : len = e.2.2.2.2.2.1 := hlen.symm
      rw [hl] at hq
      subst hq
      exact yk_iaload hC hI hA hD hS hd hl hr
    case iastore =>
      obtain ⟨ht, hl⟩ := hnr
      rw [ht] at hr
      have hl := beq_of hl
      have hq : len = e.2.2.2.2.2.1 := hlen.symm
      rw [hl] at hq
      subst hq
      exact yk_iastore hG hC hI hA hD hS hd hl hr
    case aaload =>
      obtain ⟨ht, hl⟩ := hnr
      rw [ht] at hr
      have hl := beq_of hl
      have hq : len = e.2.2.2.2.2.1 := hlen.symm
      rw [hl] at hq
      subst hq
      exact yk_aaload hC hI hA hD hS hd hl hr
    case aastore =>
      obtain ⟨ht, hl⟩ := hnr
      rw [ht] at hr
      have hl := beq_of hl
      have hq : len = e.2.2.2.2.2.1 := hlen.symm
      rw [hl] at hq
      subst hq
      cases hr
    case arraylength =>
      obtain ⟨ht, hl⟩ := hnr
      rw [ht] at hr
      have hl := beq_of hl
      have hq : len = e.2.2.2.2.2.1 := hlen.symm
      rw [hl] at hq
      subst hq
      exact yk_alen hC hI hA hD hS hd hl hr
    case iand =>
      obtain ⟨ht, hl⟩ := hnr
      rw [ht] at hr
      have hl := beq_of hl
      have hq : len = e.2.2.2.2.2.1 := hlen.symm
      rw [hl] at hq
      subst hq
      exact yk_iand hC hI hA hD hS hd hl hr
    case goto o =>
      obtain ⟨⟨ht, hl⟩, hj⟩ := hnr
      rw [ht] at hr
      rw [hpc] at hj
      have hl := beq_of hl
      have hq : len = e.2.2.2.2.2.1 := hlen.symm
      rw [hl] at hq
      subst hq
      exact yk_goto hC hI hA hD hS hj hd hl hr
    case ifnonnull o =>
      obtain ⟨⟨ht, hl⟩, hj⟩ := hnr
      rw [ht] at hr
      rw [hpc] at hj
      have hl := beq_of hl
      have hq : len = e.2.2.2.2.2.1 := hlen.symm
      rw [hl] at hq
      subst hq
      cases hr
    case ifCond cd o =>
      obtain ⟨⟨ht, hl⟩, hj⟩ := hnr
      rw [ht] at hr
      rw [hpc] at hj
      have hl := beq_of hl
      have hq : len = e.2.2.2.2.2.1 := hlen.symm
      rw [hl] at hq
      subst hq
      cases cd
      case eq => exact yk_if_eq hC hI hA hD hS hj hd hl hr
      case ne => exact yk_if_ne hC hI hA hD hS hj hd hl hr
      case lt => exact yk_if_lt hC hI hA hD hS hj hd hl hr
      case ge => exact yk_if_ge hC hI hA hD hS hj hd hl hr
      case gt => exact yk_if_gt hC hI hA hD hS hj hd hl hr
      case le => exact yk_if_le hC hI hA hD hS hj hd hl hr
    case if_icmp cd o =>
      obtain ⟨⟨ht, hl⟩, hj⟩ := hnr
      rw [ht] at hr
      rw [hpc] at hj
      have hl := beq_of hl
      have hq : len = e.2.2.2.2.2.1 := hlen.symm
      rw [hl] at hq
      subst hq
      cases cd
      case eq => exact yk_icmp_eq hC hI hA hD hS hj hd hl hr
      case ne => exact yk_icmp_ne hC hI hA hD hS hj hd hl hr
      case lt => exact yk_icmp_lt hC hI hA hD hS hj hd hl hr
      case ge => exact yk_icmp_ge hC hI hA hD hS hj hd hl hr
      case gt => exact yk_icmp_gt hC hI hA hD hS hj hd hl hr
      case le => exact yk_icmp_le hC hI hA hD hS hj hd hl hr
    case tableswitch df lo hi offs =>
      obtain ⟨ht, hs⟩ := hnr
      rw [ht] at hr
      rw [hpc] at hs
      exact yk_switch hI hA hD hS hs hd hr
    case getfield ix =>
      obtain ⟨⟨ht, ha⟩, hl⟩ := hnr
      rw [ht] at hr
      have hl := beq_of hl
      have hq : len = e.2.2.2.2.2.1 := hlen.symm
      rw [hl] at hq
      subst hq
      exact yk_getfield hC hI hA hD hS ha hd hl hr
    case putfield ix =>
      obtain ⟨⟨⟨ht, ha⟩, hl⟩, hb⟩ := hnr
      rw [ht] at hr
      have hl := beq_of hl
      have hq : len = e.2.2.2.2.2.1 := hlen.symm
      rw [hl] at hq
      subst hq
      exact yk_putfield hG hC hI hA hD hS ha hb hd hl hr
    case newarray ty =>
      obtain ⟨⟨ht, ha⟩, hl⟩ := hnr
      rw [ht] at hr
      subst ha
      have hl := beq_of hl
      have hq : len = e.2.2.2.2.2.1 := hlen.symm
      rw [hl] at hq
      subst hq
      cases hr
    case anewarray ix =>
      obtain ⟨⟨⟨ht, ha⟩, hb⟩, hl⟩ := hnr
      rw [ht] at hr
      have hl := beq_of hl
      have hq : len = e.2.2.2.2.2.1 := hlen.symm
      rw [hl] at hq
      subst hq
      cases hr
    case new ix =>
      obtain ⟨⟨ht, ha⟩, hl⟩ := hnr
      rw [ht] at hr
      have hl := beq_of hl
      have hq : len = e.2.2.2.2.2.1 := hlen.symm
      rw [hl] at hq
      subst hq
      cases hr
    case getstatic ix =>
      obtain ⟨⟨ht, ha⟩, hl⟩ := hnr
      rw [ht] at hr
      have hl := beq_of hl
      have hq : len = e.2.2.2.2.2.1 := hlen.symm
      rw [hl] at hq
      subst hq
      exact yk_getstatic hC hI hA hD hS (hG2 _ hS.2.2.2.2.2.2) ha hd hl hr
    case invokespecial ix =>
      obtain ⟨hl, hb⟩ := hnr
      have hl := beq_of hl
      have hq : len = e.2.2.2.2.2.1 := hlen.symm
      rw [hl] at hq
      subst hq
      cases hz : decide (e.2.1 = .nop) with
      | true =>
        rw [hz, cond_true] at hb
        simp only [Bool.and_eq_true, decide_eq_true_eq] at hb hz
        rw [hz] at hr
        cases hr
      | false =>
        rw [hz, cond_false] at hb
        simp only [Bool.and_eq_true, decide_eq_true_eq, Bool.or_eq_true, Bool.not_eq_true'] at hb
        obtain ⟨⟨ht, ha⟩, hm⟩ := hb
        rw [ht] at hr
        cases hr
    case invokestatic ix =>
      obtain ⟨hl, hb⟩ := hnr
      have hl := beq_of hl
      have hq : len = e.2.2.2.2.2.1 := hlen.symm
      rw [hl] at hq
      subst hq
      cases hz : decide (e.2.1 = .swap) with
      | true =>
        rw [hz, cond_true] at hb
        simp only [Bool.and_eq_true, decide_eq_true_eq] at hb hz
        rw [hz] at hr
        exact yk_copy hG hC hI hA hD hS hb.1 hb.2 hd hl hr
      | false =>
        rw [hz, cond_false] at hb
        simp only [Bool.and_eq_true, decide_eq_true_eq, Bool.not_eq_true'] at hb
        obtain ⟨⟨ht, ha⟩, hm⟩ := hb
        rw [ht] at hr
        exact yk_static hC hK0 hI hA hD hS hm (fun z => by rw [z] at ha; cases ha) hd hl hr
    case invokevirtual ix =>
      obtain ⟨⟨⟨hl, ha⟩, hm⟩, hb⟩ := hnr
      have hl := beq_of hl
      have hq : len = e.2.2.2.2.2.1 := hlen.symm
      rw [hl] at hq
      subst hq
      have hk0 : e.2.2.1 ≠ 0 := fun z => by rw [z] at ha; cases ha
      cases hz : decide (e.2.1 = .monitorenter) with
      | true =>
        rw [of_decide_eq_true hz] at hr
        exact yk_virtual hC hK0 hI hA hD hS hm hk0 hd hl hr
      | false =>
        rw [hz, cond_false] at hb
        rw [of_decide_eq_true hb] at hr
        exact yk_virtual hC hK0 hI hA hD hS hm hk0 hd hl hr
    case return_ =>
      obtain ⟨⟨ht, hl⟩, ha⟩ := hnr
      rw [ht] at hr
      have hl := beq_of hl
      have hq : len = e.2.2.2.2.2.1 := hlen.symm
      rw [hl] at hq
      subst hq
      exact yk_return (ih := yx mk B n) (lv := lv) hA hS (beq_of ha) hd hr
    case ireturn =>
      obtain ⟨⟨ht, hl⟩, ha⟩ := hnr
      rw [ht] at hr
      have hl := beq_of hl
      have hq : len = e.2.2.2.2.2.1 := hlen.symm
      rw [hl] at hq
      subst hq
      exact yk_ireturn (ih := yx mk B n) (lv := lv) hA hS (beq_of ha) hd hr
    case lreturn =>
      obtain ⟨⟨ht, hl⟩, ha⟩ := hnr
      rw [ht] at hr
      have hl := beq_of hl
      have hq : len = e.2.2.2.2.2.1 := hlen.symm
      rw [hl] at hq
      subst hq
      exact yk_lreturn (ih := yx mk B n) (lv := lv) hA hS (beq_of ha) hd hr
    case areturn =>
      obtain ⟨⟨ht, hl⟩, ha⟩ := hnr
      rw [ht] at hr
      have hl := beq_of hl
      have hq : len = e.2.2.2.2.2.1 := hlen.symm
      rw [hl] at hq
      subst hq
      cases hr
    all_goals first | (cases hnr; done) | (rw [hnr.1] at hr; cases hr)
end YJ

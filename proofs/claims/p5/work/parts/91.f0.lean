/-! ===== by hand: a cell that nothing takes ===== -/
def dd : PE := .inr (.inr (99, []))
theorem f0_ne {h : PH} {v : Nat} {c Y : PE} (h0 : h[0]? = some dd) (hc : h[v]? = some c) (hne : c ≠ dd) : (h.set 0 Y)[v]? = some c := by
  rw [List.getElem?_set_ne (fun e => hne (by rw [← e, h0] at hc; exact (Option.some.inj hc).symm))]
  exact hc
theorem f0_set {h : PH} {v : Nat} {c' Y : PE} (hv : v ≠ 0) : (h.set 0 Y).set v c' = (h.set v c').set 0 Y := List.set_comm _ _ (fun e => hv e.symm)
theorem f0_app {h l : PH} {Y c : PE} (h0 : h[0]? = some c) : h.set 0 Y ++ l = (h ++ l).set 0 Y := (List.set_append_left _ _ (List.getElem?_eq_some_iff.mp h0).1).symm
theorem f0_get {h : PH} {v : Nat} {c c' : PE} (h0 : h[0]? = some c) (hv : v ≠ 0) : (h.set v c')[0]? = some c := by
  rw [List.getElem?_set_ne hv]
  exact h0
theorem f0_gapp {h l : PH} {c : PE} (h0 : h[0]? = some c) : (h ++ l)[0]? = some c := by
  rw [List.getElem?_append_left (List.getElem?_eq_some_iff.mp h0).1]
  exact h0
theorem x_hp_f0 {c d len pc nc ns : Nat} {ini : Bool} {i : Instr} {st : List Value} {h : PH} {r : Nat × List Value × PH × Nat × Nat} (Y : PE) (h0 : h[0]? = some dd) (hs : x_hp c d ini i len pc st h nc ns = some r) : x_hp c d ini i len pc st (h.set 0 Y) nc ns = some (r.1, r.2.1, r.2.2.1.set 0 Y, r.2.2.2) ∧ r.2.2.1[0]? = some dd := by
  cases i
  case getfield ix =>
    unfold x_hp at hs ⊢
    dsimp only at hs ⊢
    repeat' (first | (cases hs; done) | split at hs)
    all_goals
      rename_i hl _ v _ _ _ _ hf _ _ _ hv hc _ _ hk
      cases hs
      refine ⟨?_, h0⟩
      rw [if_pos hl]
      dsimp only
      rw [f0_ne h0 hv (by intro e; cases e; simp at hk)]
      dsimp only
      rw [if_pos hc, hk]
  case putfield ix =>
    unfold x_hp at hs ⊢
    dsimp only at hs ⊢
    repeat' (first | (cases hs; done) | split at hs)
    all_goals
      rename_i hl _ _ v _ _ _ _ hf _ _ _ hv _ _ _ _ hq ht hc
      cases hs
      have hne : v ≠ 0 := fun e => by rw [e] at hc; exact absurd hc.2.1 (by decide)
      refine ⟨?_, f0_get h0 hne⟩
      rw [if_pos hl]
      dsimp only
      rw [List.getElem?_set_ne (fun e => hne e.symm), hv]
      dsimp only
      rw [if_pos hc, f0_set hne]
  case iaload =>
    unfold x_hp at hs ⊢
    dsimp only at hs ⊢
    repeat' (first | (cases hs; done) | split at hs)
    all_goals
      rename_i hl _ _ v _ _ _ _ hv hc
      cases hs
      refine ⟨?_, h0⟩
      rw [if_pos hl]
      dsimp only
      rw [f0_ne h0 hv (by intro e; cases e)]
      dsimp only
      rw [if_pos hc]
  case iastore =>
    unfold x_hp at hs ⊢
    dsimp only at hs ⊢
    repeat' (first | (cases hs; done) | split at hs)
    all_goals
      rename_i hl _ _ _ v _ _ _ _ hv hc
      cases hs
      have hne : v ≠ 0 := fun e => by rw [e] at hc; exact absurd hc.2.2 (by decide)
      refine ⟨?_, f0_get h0 hne⟩
      rw [if_pos hl]
      dsimp only
      rw [f0_ne h0 hv (by intro e; cases e)]
      dsimp only
      rw [if_pos hc, f0_set hne]
  case aaload =>
    unfold x_hp at hs ⊢
    dsimp only at hs ⊢
    repeat' (first | (cases hs; done) | split at hs)
    all_goals
      rename_i hl _ _ v _ _ _ _ _ hv hc
      cases hs
      refine ⟨?_, h0⟩
      rw [if_pos hl]
      dsimp only
      rw [f0_ne h0 hv (by intro e; cases e)]
      dsimp only
      rw [if_pos hc]
  case aastore =>
    unfold x_hp at hs ⊢
    dsimp only at hs ⊢
    repeat' (first | (cases hs; done) | split at hs)
    all_goals
      rename_i hl _ w _ v _ _ _ _ _ _ _ _ hv hw hc
      cases hs
      have hne : v ≠ 0 := fun e => by rw [e] at hc; exact absurd hc.2.2.2.1 (by decide)
      have hnw : w ≠ 0 := fun e => by rw [e] at hc; exact absurd hc.2.2.2.2.1 (by decide)
      refine ⟨?_, f0_get h0 hne⟩
      rw [if_pos hl]
      dsimp only
      rw [List.getElem?_set_ne (fun e => hne e.symm), List.getElem?_set_ne (fun e => hnw e.symm), hv, hw]
      dsimp only
      rw [if_pos hc, f0_set hne]
  case arraylength =>
    unfold x_hp at hs ⊢
    dsimp only at hs ⊢
    split at hs
    case isFalse => cases hs
    rename_i hl
    split at hs
    case h_2 => cases hs
    rename_i v r0
    split at hs
    · rename_i n f hv
      cases hs
      refine ⟨?_, h0⟩
      rw [if_pos hl]
      dsimp only
      rw [f0_ne h0 hv (by intro e; cases e)]
    · rename_i ci n f hv
      split at hs
      case isFalse => cases hs
      rename_i hc
      cases hs
      refine ⟨?_, h0⟩
      rw [if_pos hl]
      dsimp only
      rw [f0_ne h0 hv (by intro e; cases e)]
      dsimp only
      rw [if_pos hc]
    · cases hs
  case newarray ty =>
    unfold x_hp at hs ⊢
    dsimp only at hs ⊢
    repeat' (first | (cases hs; done) | split at hs)
    all_goals
      rename_i hl _ _ _ hc
      cases hs
      refine ⟨?_, f0_gapp h0⟩
      rw [if_pos hl]
      dsimp only
      rw [if_pos hc, List.length_set, f0_app h0]
  case anewarray ix =>
    unfold x_hp at hs ⊢
    dsimp only at hs ⊢
    repeat' (first | (cases hs; done) | split at hs)
    all_goals
      rename_i hl _ _ _ _ _ hf hc
      cases hs
      refine ⟨?_, f0_gapp h0⟩
      rw [if_pos hl]
      dsimp only
      rw [if_pos hc, List.length_set, f0_app h0]
  case new ix =>
    unfold x_hp at hs ⊢
    dsimp only at hs ⊢
    repeat' (first | (cases hs; done) | split at hs)
    all_goals
      rename_i hl _ _ hf _ _ _ _ hq hd
      cases hs
      refine ⟨?_, f0_gapp h0⟩
      rw [if_pos hl]
      dsimp only
      rw [List.length_set, f0_app h0]
  case getstatic ix =>
    unfold x_hp at hs ⊢
    dsimp only at hs ⊢
    split at hs
    case isFalse => cases hs
    rename_i hl
    cases hs
    rw [if_pos hl]
    exact ⟨rfl, h0⟩
  case ldc2_w ix =>
    unfold x_hp at hs ⊢
    dsimp only at hs ⊢
    split at hs
    case isFalse => cases hs
    rename_i hl
    rw [if_pos hl]
    split at hs
    case h_2 => cases hs
    rename_i v hv
    cases hs
    exact ⟨rfl, h0⟩
  case invokespecial ix =>
    unfold x_hp at hs ⊢
    dsimp only at hs ⊢
    split at hs
    case isFalse => cases hs
    rename_i hl
    rw [if_pos hl]
    split at hs
    case h_2 => cases hs
    rename_i v r0
    split at hs
    case isFalse => cases hs
    rename_i hc
    cases hs
    refine ⟨?_, h0⟩
    dsimp only
    rw [if_pos hc]
  case invokestatic ix =>
    unfold x_hp at hs ⊢
    dsimp only at hs ⊢
    split at hs
    case isFalse => cases hs
    rename_i hl
    rw [if_pos hl]
    split at hs
    case h_2 => cases hs
    rename_i n dp w sp v r0
    split at hs
    case h_2 => cases hs
    rename_i n0 f n1 g hv hw
    split at hs
    case isFalse => cases hs
    rename_i hc
    cases hs
    have hne : w ≠ 0 := fun e => by rw [e] at hc; exact absurd hc.2.1 (by decide)
    refine ⟨?_, f0_get h0 hne⟩
    dsimp only
    rw [f0_ne h0 hv (by intro e; cases e), f0_ne h0 hw (by intro e; cases e)]
    dsimp only
    rw [if_pos hc, f0_set hne]
  all_goals (exact absurd hs (by simp [x_hp]))
theorem stp_f0 {M : MR} {d len : Nat} {i : Instr} {q q' : Sg} (Y : PE) (h0 : q.2.2.2.1[0]? = some dd) (hs : stp M d i len q = some q') : stp M d i len (q.1, q.2.1, q.2.2.1, q.2.2.2.1.set 0 Y, q.2.2.2.2) = some (q'.1, q'.2.1, q'.2.2.1, q'.2.2.2.1.set 0 Y, q'.2.2.2.2) ∧ q'.2.2.2.1[0]? = some dd := by
  unfold stp at hs ⊢
  dsimp only
  split at hs
  · cases hs; exact ⟨rfl, h0⟩
  · split at hs
    · cases hs; exact ⟨rfl, h0⟩
    · split at hs
      · cases hs; exact ⟨rfl, h0⟩
      · split at hs
        · cases hs; exact ⟨rfl, h0⟩
        · split at hs
          · rename_i a he
            cases hs
            obtain ⟨h1, h2⟩ := x_hp_f0 Y h0 he
            rw [h1]
            exact ⟨rfl, h2⟩
          · cases hs
theorem x_ca_f0 {c len : Nat} {i : Instr} {st : List Value} {h : PH} (Y : PE) : x_ca c i len st (h.set 0 Y) = x_ca c i len st h := by
  unfold x_ca
  by_cases hl : len = 3
  · rw [if_pos hl, if_pos hl]
    cases i
    case invokevirtual ix =>
      dsimp only
      cases mlF c ix with
      | none => rfl
      | some k =>
        dsimp only
        cases mT[k]? with
        | none => rfl
        | some K =>
          dsimp only
          cases st.drop (mN K) with
          | nil => rfl
          | cons a r =>
            cases a
            case ref v =>
              dsimp only
              by_cases hv : v = 0
              · subst hv
                cases h1 : (h.set 0 Y)[0]? with
                | none =>
                  dsimp only
                  cases h2 : h[0]? with
                  | none => rfl
                  | some c => match c with
                    | .inl _ => rfl
                    | .inr (.inl _) => rfl
                    | .inr (.inr (ci, _)) =>
                      dsimp only
                      rw [if_neg (fun z => absurd z.2.2.2.1 (by decide))]
                | some c => match c with
                  | .inl _ =>
                    dsimp only
                    cases h2 : h[0]? with
                    | none => rfl
                    | some c => match c with
                      | .inl _ => rfl
                      | .inr (.inl _) => rfl
                      | .inr (.inr (ci, _)) =>
                        dsimp only
                        rw [if_neg (fun z => absurd z.2.2.2.1 (by decide))]
                  | .inr (.inl _) =>
                    dsimp only
                    cases h2 : h[0]? with
                    | none => rfl
                    | some c => match c with
                      | .inl _ => rfl
                      | .inr (.inl _) => rfl
                      | .inr (.inr (ci, _)) =>
                        dsimp only
                        rw [if_neg (fun z => absurd z.2.2.2.1 (by decide))]
                  | .inr (.inr (ci, _)) =>
                    dsimp only
                    rw [if_neg (fun z => absurd z.2.2.2.1 (by decide))]
                    cases h2 : h[0]? with
                    | none => rfl
                    | some c => match c with
                      | .inl _ => rfl
                      | .inr (.inl _) => rfl
                      | .inr (.inr (ci, _)) =>
                        dsimp only
                        rw [if_neg (fun z => absurd z.2.2.2.1 (by decide))]
              · rw [List.getElem?_set_ne (fun e => hv e.symm)]
            all_goals rfl
    all_goals rfl
  · rw [if_neg hl, if_neg hl]
theorem run_f0 (Y : PE) : ∀ (n d mi : Nat) (q : Sg) (x : Option Value × PH × Nat × Nat), q.2.2.2.1[0]? = some dd → run n d mi q = some x → run n d mi (q.1, q.2.1, q.2.2.1, q.2.2.2.1.set 0 Y, q.2.2.2.2) = some (x.1, x.2.1.set 0 Y, x.2.2) ∧ x.2.1[0]? = some dd
  | 0, _, _, _, _, _, h => by simp [run] at h
  | n + 1, d, mi, q, x, h0, h => by
    rw [run] at h ⊢
    cases hM : mT[mi]? with
    | none => rw [hM] at h; cases h
    | some M =>
      rw [hM] at h
      dsimp only at h ⊢
      cases hd : decode (mC M) q.1 with
      | error _ => rw [hd] at h; cases h
      | ok w =>
        obtain ⟨i, len⟩ := w
        rw [hd] at h
        dsimp only at h ⊢
        rw [x_ca_f0]
        cases hc : x_ca (mO M) i len q.2.2.1 q.2.2.2.1 with
        | some w =>
          obtain ⟨k, as, r⟩ := w
          rw [hc] at h
          dsimp only at h ⊢
          cases d with
          | zero => cases h
          | succ d' =>
            dsimp only at h ⊢
            cases hK : mT[k]? with
            | none => rw [hK] at h; cases h
            | some K =>
              rw [hK] at h
              dsimp only at h ⊢
              by_cases hl : (lg_sl as).length ≤ mL K
              · rw [if_pos hl] at h ⊢
                cases hr : run n d' k (0, lv_args 0 as, [], q.2.2.2.1, 0, 0) with
                | none => rw [hr] at h; cases h
                | some w =>
                  obtain ⟨v, h', nc, ns⟩ := w
                  rw [hr] at h
                  dsimp only at h
                  obtain ⟨a1, a2⟩ := run_f0 Y n d' k (0, lv_args 0 as, [], q.2.2.2.1, 0, 0) (v, h', nc, ns) h0 hr
                  obtain ⟨b1, b2⟩ := run_f0 Y n _ _ (q.1 + 3, q.2.1, v.toList ++ r, h', q.2.2.2.2.1 + nc, q.2.2.2.2.2 + ns) _ a2 h
                  dsimp only at a1 b1
                  rw [a1]
                  exact ⟨b1, b2⟩
              · rw [if_neg hl] at h; cases h
        | none =>
          rw [hc] at h
          dsimp only at h ⊢
          cases hr : x_re M i len q.2.2.1 with
          | some v =>
            rw [hr] at h
            cases h
            exact ⟨rfl, h0⟩
          | none =>
            rw [hr] at h
            dsimp only at h ⊢
            cases hs : stp M d i len q with
            | none => rw [hs] at h; cases h
            | some q' =>
              rw [hs] at h
              dsimp only at h
              obtain ⟨a1, a2⟩ := stp_f0 Y h0 hs
              rw [a1]
              dsimp only
              exact run_f0 Y n _ _ _ _ a2 h

/-! ===== by hand: what a run makes is what its heap has more ===== -/
theorem room_set {h : PH} {v nc ns : Nat} {c c' : PE} (hc : h[v]? = some c) (hz : szC c' = szC c) : nc + h.length = nc + (h.set v c').length ∧ ns + szH h = ns + szH (h.set v c') := by
  rw [List.length_set, szH_set hc hz]
  exact ⟨rfl, rfl⟩
theorem room_app {h : PH} {nc ns m : Nat} {c : PE} (hm : szC c = m) : nc + 1 + h.length = nc + (h ++ [c]).length ∧ ns + m + szH h = ns + szH (h ++ [c]) := by
  subst hm
  rw [List.length_append, szH_app]
  have h1 : ([c] : PH).length = 1 := rfl
  have h2 : szH [c] = szC c := by
    unfold szH
    rw [List.map_cons, List.map_nil, List.sum_cons, List.sum_nil, Nat.add_zero]
  omega
def Rm (h : PH) (nc ns : Nat) (h' : PH) (nc' ns' : Nat) : Prop := nc' + h.length = nc + h'.length ∧ ns' + szH h = ns + szH h'
theorem x_hp_room {c d len pc nc ns : Nat} {ini : Bool} {i : Instr} {st : List Value} {h : PH} {r : Nat × List Value × PH × Nat × Nat} (hs : x_hp c d ini i len pc st h nc ns = some r) : Rm h nc ns r.2.2.1 r.2.2.2.1 r.2.2.2.2 := by
  cases i
  case getfield ix =>
    unfold x_hp at hs
    dsimp only at hs
    repeat' (first | (cases hs; done) | split at hs)
    all_goals (cases hs; exact ⟨rfl, rfl⟩)
  case putfield ix =>
    unfold x_hp at hs
    dsimp only at hs
    repeat' (first | (cases hs; done) | split at hs)
    all_goals
      rename_i hcc
      obtain ⟨rfl, -⟩ := hcc
      cases hs
      apply room_set
      · assumption
      · rfl
  case iaload =>
    unfold x_hp at hs
    dsimp only at hs
    repeat' (first | (cases hs; done) | split at hs)
    all_goals (cases hs; exact ⟨rfl, rfl⟩)
  case iastore =>
    unfold x_hp at hs
    dsimp only at hs
    repeat' (first | (cases hs; done) | split at hs)
    all_goals
      cases hs
      apply room_set
      · assumption
      · rfl
  case aaload =>
    unfold x_hp at hs
    dsimp only at hs
    repeat' (first | (cases hs; done) | split at hs)
    all_goals (cases hs; exact ⟨rfl, rfl⟩)
  case aastore =>
    unfold x_hp at hs
    dsimp only at hs
    repeat' (first | (cases hs; done) | split at hs)
    all_goals
      cases hs
      apply room_set
      · assumption
      · rfl
  case arraylength =>
    unfold x_hp at hs
    dsimp only at hs
    repeat' (first | (cases hs; done) | split at hs)
    all_goals (cases hs; exact ⟨rfl, rfl⟩)
  case newarray ty =>
    unfold x_hp at hs
    dsimp only at hs
    repeat' (first | (cases hs; done) | split at hs)
    all_goals
      cases hs
      exact room_app rfl
  case anewarray ix =>
    unfold x_hp at hs
    dsimp only at hs
    repeat' (first | (cases hs; done) | split at hs)
    all_goals
      cases hs
      exact room_app rfl
  case new ix =>
    unfold x_hp at hs
    dsimp only at hs
    repeat' (first | (cases hs; done) | split at hs)
    all_goals
      rename_i q fs hq hf
      cases hs
      refine room_app ?_
      unfold szC
      dsimp only
      rw [hq]
  case getstatic ix =>
    unfold x_hp at hs
    dsimp only at hs
    repeat' (first | (cases hs; done) | split at hs)
    all_goals (cases hs; exact ⟨rfl, rfl⟩)
  case ldc2_w ix =>
    unfold x_hp at hs
    dsimp only at hs
    repeat' (first | (cases hs; done) | split at hs)
    all_goals (cases hs; exact ⟨rfl, rfl⟩)
  case invokespecial ix =>
    unfold x_hp at hs
    dsimp only at hs
    repeat' (first | (cases hs; done) | split at hs)
    all_goals (cases hs; exact ⟨rfl, rfl⟩)
  case invokestatic ix =>
    unfold x_hp at hs
    dsimp only at hs
    repeat' (first | (cases hs; done) | split at hs)
    all_goals
      cases hs
      apply room_set
      · assumption
      · rfl
  all_goals (exact absurd hs (by simp [x_hp]))
theorem stp_room {M : MR} {d len : Nat} {i : Instr} {q q' : Sg} (hs : stp M d i len q = some q') : Rm q.2.2.2.1 q.2.2.2.2.1 q.2.2.2.2.2 q'.2.2.2.1 q'.2.2.2.2.1 q'.2.2.2.2.2 := by
  unfold stp at hs
  split at hs
  · cases hs; exact ⟨rfl, rfl⟩
  · split at hs
    · cases hs; exact ⟨rfl, rfl⟩
    · split at hs
      · cases hs; exact ⟨rfl, rfl⟩
      · split at hs
        · cases hs; exact ⟨rfl, rfl⟩
        · split at hs
          · rename_i a he
            cases hs
            exact x_hp_room he
          · cases hs
theorem run_room : ∀ (n d mi : Nat) (q : Sg) (x : Option Value × PH × Nat × Nat), run n d mi q = some x → Rm q.2.2.2.1 q.2.2.2.2.1 q.2.2.2.2.2 x.2.1 x.2.2.1 x.2.2.2
  | 0, _, _, _, _, h => by simp [run] at h
  | n + 1, d, mi, q, x, h => by
    rw [run] at h
    cases hM : mT[mi]? with
    | none => rw [hM] at h; cases h
    | some M =>
      rw [hM] at h
      dsimp only at h
      cases hd : decode (mC M) q.1 with
      | error _ => rw [hd] at h; cases h
      | ok w =>
        obtain ⟨i, len⟩ := w
        rw [hd] at h
        dsimp only at h
        cases hc : x_ca (mO M) i len q.2.2.1 q.2.2.2.1 with
        | some w =>
          obtain ⟨k, as, r⟩ := w
          rw [hc] at h
          dsimp only at h
          cases d with
          | zero => cases h
          | succ d' =>
            dsimp only at h
            cases hK : mT[k]? with
            | none => rw [hK] at h; cases h
            | some K =>
              rw [hK] at h
              dsimp only at h
              by_cases hl : (lg_sl as).length ≤ mL K
              · rw [if_pos hl] at h
                cases hr : run n d' k (0, lv_args 0 as, [], q.2.2.2.1, 0, 0) with
                | none => rw [hr] at h; cases h
                | some w =>
                  obtain ⟨v, h', nc, ns⟩ := w
                  rw [hr] at h
                  dsimp only at h
                  have h1 := run_room n d' k _ _ hr
                  have h2 := run_room n _ _ _ _ h
                  obtain ⟨a1, a2⟩ := h1
                  obtain ⟨b1, b2⟩ := h2
                  dsimp only at a1 a2 b1 b2
                  exact ⟨by omega, by omega⟩
              · rw [if_neg hl] at h; cases h
        | none =>
          rw [hc] at h
          dsimp only at h
          cases hr : x_re M i len q.2.2.1 with
          | some v =>
            rw [hr] at h
            cases h
            exact ⟨rfl, rfl⟩
          | none =>
            rw [hr] at h
            dsimp only at h
            cases hs : stp M d i len q with
            | none => rw [hs] at h; cases h
            | some q' =>
              rw [hs] at h
              dsimp only at h
              obtain ⟨a1, a2⟩ := stp_room hs
              obtain ⟨b1, b2⟩ := run_room n _ _ _ _ h
              exact ⟨by omega, by omega⟩

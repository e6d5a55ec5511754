/-! ===== the pure machine's values and locals in the real one; instructions that leave the heap alone ===== -/
def shV (g : Nat → Nat) : Value → Value
  | .ref a => .ref (g a)
  | v => v
def shL (g : Nat → Nat) (lv : PV) : PV := lv.map (fun q => (q.1, shV g q.2))
theorem shV_cat (g : Nat → Nat) (v : Value) : (shV g v).category = v.category := by cases v <;> rfl
theorem shV_int {g : Nat → Nat} {v : Value} {x : Int32} (h : shV g v = .int x) : v = .int x := by cases v <;> simp_all [shV]
theorem shL_mem {g : Nat → Nat} {lv : PV} {i : Nat} {v : Value} (h : gl lv i = some v) : (i, shV g v) ∈ shL g lv := by
  unfold gl at h
  cases hf : lv.find? (fun q => q.1 == i) with
  | none => rw [hf] at h; cases h
  | some q =>
    rw [hf] at h
    cases h
    have h1 := List.find?_some hf
    have h2 := List.mem_of_find?_eq_some hf
    have e : q.1 = i := by simpa using h1
    exact List.mem_map.mpr ⟨q, h2, by rw [← e]⟩
theorem shL_sl1 (g : Nat → Nat) (lv : PV) (i : Nat) (v : Value) : shL g (sl1 lv i v) = (i, shV g v) :: (shL g lv).filter (fun q => !(q.1 == i) && !(q.1 + 1 == i && q.2.category == 2)) := by
  unfold shL sl1
  rw [List.map_cons, List.filter_map]
  congr 2
  apply List.filter_congr
  intro q _
  simp [shV_cat]
theorem shL_sl2 (g : Nat → Nat) (lv : PV) (i : Nat) (v : Value) : shL g (sl2 lv i v) = (i, shV g v) :: (shL g lv).filter (fun q => !(q.1 == i) && (!(q.1 == i + 1) && !(q.1 + 1 == i && q.2.category == 2))) := by
  unfold shL sl2
  rw [List.map_cons, List.filter_map]
  congr 2
  apply List.filter_congr
  intro q _
  simp [shV_cat]
theorem shL_args (g : Nat → Nat) : ∀ (vs : List Value) (i : Nat), lv_args i (vs.map (shV g)) = shL g (lv_args i vs)
  | [], _ => rfl
  | v :: vs, i => by
    show (i, shV g v) :: lv_args (if (shV g v).category = 2 then i + 2 else i + 1) (vs.map (shV g)) = (i, shV g v) :: shL g (lv_args (if v.category = 2 then i + 2 else i + 1) vs)
    rw [shL_args g vs, shV_cat]
theorem lg_sl_sh (g : Nat → Nat) (vs : List Value) : (lg_sl (vs.map (shV g))).length = (lg_sl vs).length := by
  induction vs with
  | nil => rfl
  | cons v t ih =>
    unfold lg_sl at ih ⊢
    rw [List.map_cons, List.flatMap_cons, List.flatMap_cons, List.length_append, List.length_append, ih, shV_cat]
    by_cases h : v.category = 2
    · simp [h]
    · simp [h]
theorem catS_sh (g : Nat → Nat) (st : List Value) : ((st.map (shV g)).map fun v => v.category).sum = catS st := by
  unfold catS
  rw [List.map_map]
  congr 1
  apply List.map_congr_left
  intro v _
  exact shV_cat g v
theorem tg_ok {pc t : Nat} {o : Int} (h : tg pc o = some t) : (pc : Int) + o = (t : Int) := by
  unfold tg at h
  split at h
  · cases h
    omega
  · cases h
section PL
variable {p : Program} {l : Launch} {e : Env} {R : Room} {s : State} {m : MethodId} {args : Array Value} {below : List Frame} {meth : Method} {c : Code} {H : Heap} {locs : List Loc} {cells slots : Nat} {Q : State → Prop}
variable {cc : ByteArray} {pc pc' len nL : Nat} {ls : Array Slot} {lv lv' : PV} {st st' : List Value} {i : Instr} {g : Nat → Nat}
theorem gl_at (hl : lv_has ls nL (shL g lv)) {k : Nat} {v : Value} (h : gl lv k = some v) : ls[k]? = some (.val (shV g v)) := hl.2.2 _ (shL_mem h)
set_option maxHeartbeats 1000000 in
theorem x_ld_ok (hx : p.tables.exec = Jvm.exec) (hb : c.code = cc) (hdg : decode cc pc = .ok (i, len)) (hl : lv_has ls nL (shL g lv)) (hs : x_ld i len pc lv st = some (pc', lv', st'))
    (kk : ∀ ls' : Array Slot, lv_has ls' nL (shL g lv') → W p l e R s m args below meth c H locs cells slots Q (F0 m pc' ls' (st'.map (shV g)))) : W p l e R s m args below meth c H locs cells slots Q (F0 m pc ls (st.map (shV g))) := by
  cases i <;> simp only [x_ld, reduceCtorEq] at hs
  case iconst k0 =>
    repeat' (first | (cases hs; done) | split at hs)
    all_goals (have h1 : len = 1 := (by assumption); subst h1; cases hs)
    exact lv_iconst hx hb hdg rfl (kk ls hl)
  case bipush k0 =>
    repeat' (first | (cases hs; done) | split at hs)
    all_goals (have h1 : len = 2 := (by assumption); subst h1; cases hs)
    exact lv_bipush hx hb hdg rfl (kk ls hl)
  case sipush k0 =>
    repeat' (first | (cases hs; done) | split at hs)
    all_goals (have h1 : len = 3 := (by assumption); subst h1; cases hs)
    exact lv_sipush hx hb hdg rfl (kk ls hl)
  case lconst k0 =>
    repeat' (first | (cases hs; done) | split at hs)
    all_goals (have h1 : len = 1 := (by assumption); subst h1; cases hs)
    exact lv_lconst hx hb hdg rfl (kk ls hl)
  case iload k0 =>
    repeat' (first | (cases hs; done) | split at hs)
    all_goals (have h1 : len = 2 := (by assumption); subst h1; cases hs)
    exact lv_iload hx hb hdg (gl_at hl (by assumption)) (kk ls hl)
  case iload_n k0 =>
    repeat' (first | (cases hs; done) | split at hs)
    all_goals (have h1 : len = 1 := (by assumption); subst h1; cases hs)
    exact lv_iload_n hx hb hdg rfl (gl_at hl (by assumption)) (kk ls hl)
  case lload k0 =>
    repeat' (first | (cases hs; done) | split at hs)
    all_goals (have h1 : len = 2 := (by assumption); subst h1; cases hs)
    exact lv_lload hx hb hdg (gl_at hl (by assumption)) (kk ls hl)
  case lload_n k0 =>
    repeat' (first | (cases hs; done) | split at hs)
    all_goals (have h1 : len = 1 := (by assumption); subst h1; cases hs)
    exact lv_lload_n hx hb hdg rfl (gl_at hl (by assumption)) (kk ls hl)
  case aload k0 =>
    repeat' (first | (cases hs; done) | split at hs)
    all_goals (have h1 : len = 2 := (by assumption); subst h1; cases hs)
    · exact lv_aload hx hb hdg (gl_at hl (by assumption)) (kk ls hl)
    · exact lv_aloadN hx hb hdg (gl_at hl (by assumption)) (kk ls hl)
  case aload_n k0 =>
    repeat' (first | (cases hs; done) | split at hs)
    all_goals (have h1 : len = 1 := (by assumption); subst h1; cases hs)
    · exact lv_aload_n hx hb hdg rfl (gl_at hl (by assumption)) (kk ls hl)
    · exact lv_aload_nN hx hb hdg rfl (gl_at hl (by assumption)) (kk ls hl)
set_option maxHeartbeats 1000000 in
theorem x_st_ok (hx : p.tables.exec = Jvm.exec) (hb : c.code = cc) (hdg : decode cc pc = .ok (i, len)) (hl : lv_has ls nL (shL g lv)) (hs : x_st nL i len pc lv st = some (pc', lv', st'))
    (kk : ∀ ls' : Array Slot, lv_has ls' nL (shL g lv') → W p l e R s m args below meth c H locs cells slots Q (F0 m pc' ls' (st'.map (shV g)))) : W p l e R s m args below meth c H locs cells slots Q (F0 m pc ls (st.map (shV g))) := by
  cases i <;> simp only [x_st, reduceCtorEq] at hs
  case iinc k n =>
    repeat' (first | (cases hs; done) | split at hs)
    have h1 : len = 3 := (by assumption)
    subst h1
    cases hs
    obtain ⟨j, hj⟩ := List.getElem?_of_mem (shL_mem (g := g) (by assumption))
    exact lv_iinc (k := j) hx hb hdg hl hj rfl (by assumption) (shL_sl1 g lv k (.int _)).symm kk
  case istore k0 =>
    repeat' (first | (cases hs; done) | split at hs)
    all_goals (have h1 : len = 2 := (by assumption); subst h1; cases hs)
    exact lv_istore hx hb hdg hl (by assumption) (shL_sl1 g lv _ (.int _)).symm kk
  case istore_n k0 =>
    repeat' (first | (cases hs; done) | split at hs)
    all_goals (have h1 : len = 1 := (by assumption); subst h1; cases hs)
    exact lv_istore_n hx hb hdg rfl hl (by assumption) (shL_sl1 g lv _ (.int _)).symm kk
  case lstore k0 =>
    repeat' (first | (cases hs; done) | split at hs)
    all_goals (have h1 : len = 2 := (by assumption); subst h1; cases hs)
    exact lv_lstore hx hb hdg hl (by assumption) (shL_sl2 g lv _ (.long _)).symm kk
  case lstore_n k0 =>
    repeat' (first | (cases hs; done) | split at hs)
    all_goals (have h1 : len = 1 := (by assumption); subst h1; cases hs)
    exact lv_lstore_n hx hb hdg rfl hl (by assumption) (shL_sl2 g lv _ (.long _)).symm kk
  case astore k0 =>
    repeat' (first | (cases hs; done) | split at hs)
    all_goals (have h1 : len = 2 := (by assumption); subst h1; cases hs)
    · exact lv_astore hx hb hdg hl (by assumption) (shL_sl1 g lv _ (.ref _)).symm kk
    · exact lv_astoreN hx hb hdg hl (by assumption) (shL_sl1 g lv _ .null).symm kk
  case astore_n k0 =>
    repeat' (first | (cases hs; done) | split at hs)
    all_goals (have h1 : len = 1 := (by assumption); subst h1; cases hs)
    · exact lv_astore_n hx hb hdg rfl hl (by assumption) (shL_sl1 g lv _ (.ref _)).symm kk
    · exact lv_astore_nN hx hb hdg rfl hl (by assumption) (shL_sl1 g lv _ .null).symm kk
set_option maxHeartbeats 1000000 in
theorem x_ar_ok (hx : p.tables.exec = Jvm.exec) (hb : c.code = cc) (hdg : decode cc pc = .ok (i, len)) (hl : lv_has ls nL (shL g lv)) (hs : x_ar i len pc lv st = some (pc', lv', st'))
    (kk : ∀ ls' : Array Slot, lv_has ls' nL (shL g lv') → W p l e R s m args below meth c H locs cells slots Q (F0 m pc' ls' (st'.map (shV g)))) : W p l e R s m args below meth c H locs cells slots Q (F0 m pc ls (st.map (shV g))) := by
  unfold x_ar at hs
  split at hs
  case isFalse => cases hs
  rename_i h1
  subst h1
  cases i <;> simp only [reduceCtorEq] at hs
  case iadd =>
    repeat' (first | (cases hs; done) | split at hs)
    all_goals cases hs
    exact lv_iadd hx hb hdg (kk ls hl)
  case isub =>
    repeat' (first | (cases hs; done) | split at hs)
    all_goals cases hs
    exact lv_isub hx hb hdg (kk ls hl)
  case imul =>
    repeat' (first | (cases hs; done) | split at hs)
    all_goals cases hs
    exact lv_imul hx hb hdg (kk ls hl)
  case iand =>
    repeat' (first | (cases hs; done) | split at hs)
    all_goals cases hs
    exact lv_iand hx hb hdg (kk ls hl)
  case ior =>
    repeat' (first | (cases hs; done) | split at hs)
    all_goals cases hs
    exact lv_ior hx hb hdg (kk ls hl)
  case ixor =>
    repeat' (first | (cases hs; done) | split at hs)
    all_goals cases hs
    exact lv_ixor hx hb hdg (kk ls hl)
  case ineg =>
    repeat' (first | (cases hs; done) | split at hs)
    all_goals cases hs
    exact lv_ineg hx hb hdg (kk ls hl)
  case ishl =>
    repeat' (first | (cases hs; done) | split at hs)
    all_goals cases hs
    exact lv_ishl hx hb hdg (kk ls hl)
  case ishr =>
    repeat' (first | (cases hs; done) | split at hs)
    all_goals cases hs
    exact lv_ishr hx hb hdg (kk ls hl)
  case ladd =>
    repeat' (first | (cases hs; done) | split at hs)
    all_goals cases hs
    exact lv_ladd hx hb hdg (kk ls hl)
  case lsub =>
    repeat' (first | (cases hs; done) | split at hs)
    all_goals cases hs
    exact lv_lsub hx hb hdg (kk ls hl)
  case lmul =>
    repeat' (first | (cases hs; done) | split at hs)
    all_goals cases hs
    exact lv_lmul hx hb hdg (kk ls hl)
  case idiv =>
    repeat' (first | (cases hs; done) | split at hs)
    all_goals cases hs
    exact lv_idiv hx hb hdg (by assumption) (kk ls hl)
  case irem =>
    repeat' (first | (cases hs; done) | split at hs)
    all_goals cases hs
    exact lv_irem hx hb hdg (by assumption) (kk ls hl)
  case ldiv =>
    repeat' (first | (cases hs; done) | split at hs)
    all_goals cases hs
    exact lv_ldiv hx hb hdg (by assumption) (kk ls hl)
  case lcmp =>
    repeat' (first | (cases hs; done) | split at hs)
    all_goals cases hs
    exact W.lcmp hx hb hdg (kk ls hl)
  case i2l =>
    repeat' (first | (cases hs; done) | split at hs)
    all_goals cases hs
    exact lv_i2l hx hb hdg rfl (kk ls hl)
  case l2i =>
    repeat' (first | (cases hs; done) | split at hs)
    all_goals cases hs
    exact lv_l2i hx hb hdg rfl (kk ls hl)
  case dup =>
    repeat' (first | (cases hs; done) | split at hs)
    all_goals cases hs
    exact lv_dup hx hb hdg (by rw [shV_cat]; assumption) (kk ls hl)
  case pop =>
    repeat' (first | (cases hs; done) | split at hs)
    all_goals cases hs
    exact lv_pop hx hb hdg (by rw [shV_cat]; assumption) (kk ls hl)
  case pop2 =>
    repeat' (first | (cases hs; done) | split at hs)
    all_goals cases hs
    exact lv_pop2_2 hx hb hdg (by rw [shV_cat]; assumption) (kk ls hl)
  case dup2 =>
    repeat' (first | (cases hs; done) | split at hs)
    all_goals cases hs
    rename_i h2; exact lv_dup2_11 hx hb hdg (by rw [shV_cat]; exact h2.1) (by rw [shV_cat]; exact h2.2) (kk ls hl)
theorem goB_ok {b : Bool} {o : Int} {r : List Value} (hs : goB b pc o lv r = some (pc', lv', st')) : ∃ t : Nat, (pc : Int) + o = (t : Int) ∧ lv' = lv ∧ st' = r ∧ ((b = true ∧ pc' = t) ∨ (b = false ∧ pc' = pc + 3)) := by
  unfold goB at hs
  obtain ⟨t, ht, hq⟩ := Option.map_eq_some_iff.mp hs
  cases b
  · cases hq
    exact ⟨t, tg_ok ht, rfl, rfl, Or.inr ⟨rfl, rfl⟩⟩
  · cases hq
    exact ⟨t, tg_ok ht, rfl, rfl, Or.inl ⟨rfl, rfl⟩⟩
set_option maxHeartbeats 1000000 in
theorem x_br_ok (hx : p.tables.exec = Jvm.exec) (hb : c.code = cc) (hdg : decode cc pc = .ok (i, len)) (hl : lv_has ls nL (shL g lv)) (hs : x_br i len pc lv st = some (pc', lv', st'))
    (kk : ∀ ls' : Array Slot, lv_has ls' nL (shL g lv') → W p l e R s m args below meth c H locs cells slots Q (F0 m pc' ls' (st'.map (shV g)))) : W p l e R s m args below meth c H locs cells slots Q (F0 m pc ls (st.map (shV g))) := by
  cases i <;> simp only [x_br, reduceCtorEq] at hs
  case goto o =>
    split at hs
    · rename_i h1
      subst h1
      obtain ⟨t, ht, hq⟩ := Option.map_eq_some_iff.mp hs
      cases hq
      exact lv_goto hx hb hdg (tg_ok ht) (kk ls hl)
    · cases hs
  case ifnonnull o =>
    repeat' (first | (cases hs; done) | split at hs)
    · rename_i h1 _ _ _
      subst h1
      obtain ⟨t, ht, hq⟩ := Option.map_eq_some_iff.mp hs
      cases hq
      exact lv_ifnonnull hx hb hdg (tg_ok ht) (kk ls hl)
    · rename_i h1 _ _
      subst h1
      cases hs
      exact lv_ifnonnullN hx hb hdg (kk ls hl)
  case ifnull o =>
    repeat' (first | (cases hs; done) | split at hs)
    · rename_i h1 _ _ _
      subst h1
      cases hs
      exact lv_ifnull hx hb hdg (kk ls hl)
    · rename_i h1 _ _
      subst h1
      obtain ⟨t, ht, hq⟩ := Option.map_eq_some_iff.mp hs
      cases hq
      exact lv_ifnullN hx hb hdg (tg_ok ht) (kk ls hl)
  case tableswitch dflt lo hi offs =>
    split at hs
    · rename_i x r
      split at hs
      · rename_i h1
        obtain ⟨t, ht, hq⟩ := Option.map_eq_some_iff.mp hs
        cases hq
        exact lv_tableOut hx hb hdg h1 (tg_ok ht) (kk ls hl)
      · rename_i h1
        split at hs
        · rename_i o ho
          obtain ⟨t, ht, hq⟩ := Option.map_eq_some_iff.mp hs
          cases hq
          exact lv_tableIn hx hb hdg (fun h => h1 (Or.inl h)) (fun h => h1 (Or.inr h)) ho (tg_ok ht) (kk ls hl)
        · cases hs
    · cases hs
  case ifCond cd o =>
    cases cd <;> simp only at hs
    case eq =>
      repeat' (first | (cases hs; done) | split at hs)
      rename_i h1 _ x r
      subst h1
      obtain ⟨t, h3, rfl, rfl, ⟨h2, rfl⟩ | ⟨h2, rfl⟩⟩ := goB_ok hs
      · exact lv_if_eq hx hb hdg h3 (fun _ => kk ls hl) (fun h => absurd (of_decide_eq_true h2) h)
      · exact lv_if_eq hx hb hdg h3 (fun h => absurd h (of_decide_eq_false h2)) (fun _ => kk ls hl)
    case ne =>
      repeat' (first | (cases hs; done) | split at hs)
      rename_i h1 _ x r
      subst h1
      obtain ⟨t, h3, rfl, rfl, ⟨h2, rfl⟩ | ⟨h2, rfl⟩⟩ := goB_ok hs
      · exact lv_if_ne hx hb hdg h3 (fun _ => kk ls hl) (fun h => absurd h (of_decide_eq_true h2))
      · exact lv_if_ne hx hb hdg h3 (fun h => absurd h (of_decide_eq_false h2)) (fun _ => kk ls hl)
    case lt =>
      repeat' (first | (cases hs; done) | split at hs)
      rename_i h1 _ x r
      subst h1
      obtain ⟨t, h3, rfl, rfl, ⟨h2, rfl⟩ | ⟨h2, rfl⟩⟩ := goB_ok hs
      · exact lv_if_lt hx hb hdg h3 (fun _ => kk ls hl) (fun h => absurd (of_decide_eq_true h2) h)
      · exact lv_if_lt hx hb hdg h3 (fun h => absurd h (of_decide_eq_false h2)) (fun _ => kk ls hl)
    case ge =>
      repeat' (first | (cases hs; done) | split at hs)
      rename_i h1 _ x r
      subst h1
      obtain ⟨t, h3, rfl, rfl, ⟨h2, rfl⟩ | ⟨h2, rfl⟩⟩ := goB_ok hs
      · exact lv_if_ge hx hb hdg h3 (fun _ => kk ls hl) (fun h => absurd (of_decide_eq_true h2) h)
      · exact lv_if_ge hx hb hdg h3 (fun h => absurd h (of_decide_eq_false h2)) (fun _ => kk ls hl)
    case gt =>
      repeat' (first | (cases hs; done) | split at hs)
      rename_i h1 _ x r
      subst h1
      obtain ⟨t, h3, rfl, rfl, ⟨h2, rfl⟩ | ⟨h2, rfl⟩⟩ := goB_ok hs
      · exact lv_if_gt hx hb hdg h3 (fun _ => kk ls hl) (fun h => absurd (of_decide_eq_true h2) h)
      · exact lv_if_gt hx hb hdg h3 (fun h => absurd h (of_decide_eq_false h2)) (fun _ => kk ls hl)
    case le =>
      repeat' (first | (cases hs; done) | split at hs)
      rename_i h1 _ x r
      subst h1
      obtain ⟨t, h3, rfl, rfl, ⟨h2, rfl⟩ | ⟨h2, rfl⟩⟩ := goB_ok hs
      · exact lv_if_le hx hb hdg h3 (fun _ => kk ls hl) (fun h => absurd (of_decide_eq_true h2) h)
      · exact lv_if_le hx hb hdg h3 (fun h => absurd h (of_decide_eq_false h2)) (fun _ => kk ls hl)
  case if_icmp cd o =>
    cases cd <;> simp only at hs
    case eq =>
      repeat' (first | (cases hs; done) | split at hs)
      rename_i h1 _ y x r
      subst h1
      obtain ⟨t, h3, rfl, rfl, ⟨h2, rfl⟩ | ⟨h2, rfl⟩⟩ := goB_ok hs
      · exact lv_icmp_eq hx hb hdg h3 (fun _ => kk ls hl) (fun h => absurd (of_decide_eq_true h2) h)
      · exact lv_icmp_eq hx hb hdg h3 (fun h => absurd h (of_decide_eq_false h2)) (fun _ => kk ls hl)
    case ne =>
      repeat' (first | (cases hs; done) | split at hs)
      rename_i h1 _ y x r
      subst h1
      obtain ⟨t, h3, rfl, rfl, ⟨h2, rfl⟩ | ⟨h2, rfl⟩⟩ := goB_ok hs
      · exact lv_icmp_ne hx hb hdg h3 (fun _ => kk ls hl) (fun h => absurd h (of_decide_eq_true h2))
      · exact lv_icmp_ne hx hb hdg h3 (fun h => absurd h (of_decide_eq_false h2)) (fun _ => kk ls hl)
    case lt =>
      repeat' (first | (cases hs; done) | split at hs)
      rename_i h1 _ y x r
      subst h1
      obtain ⟨t, h3, rfl, rfl, ⟨h2, rfl⟩ | ⟨h2, rfl⟩⟩ := goB_ok hs
      · exact lv_icmp_lt hx hb hdg h3 (fun _ => kk ls hl) (fun h => absurd (of_decide_eq_true h2) h)
      · exact lv_icmp_lt hx hb hdg h3 (fun h => absurd h (of_decide_eq_false h2)) (fun _ => kk ls hl)
    case ge =>
      repeat' (first | (cases hs; done) | split at hs)
      rename_i h1 _ y x r
      subst h1
      obtain ⟨t, h3, rfl, rfl, ⟨h2, rfl⟩ | ⟨h2, rfl⟩⟩ := goB_ok hs
      · exact lv_icmp_ge hx hb hdg h3 (fun _ => kk ls hl) (fun h => absurd (of_decide_eq_true h2) h)
      · exact lv_icmp_ge hx hb hdg h3 (fun h => absurd h (of_decide_eq_false h2)) (fun _ => kk ls hl)
    case gt =>
      repeat' (first | (cases hs; done) | split at hs)
      rename_i h1 _ y x r
      subst h1
      obtain ⟨t, h3, rfl, rfl, ⟨h2, rfl⟩ | ⟨h2, rfl⟩⟩ := goB_ok hs
      · exact lv_icmp_gt hx hb hdg h3 (fun _ => kk ls hl) (fun h => absurd (of_decide_eq_true h2) h)
      · exact lv_icmp_gt hx hb hdg h3 (fun h => absurd h (of_decide_eq_false h2)) (fun _ => kk ls hl)
    case le =>
      repeat' (first | (cases hs; done) | split at hs)
      rename_i h1 _ y x r
      subst h1
      obtain ⟨t, h3, rfl, rfl, ⟨h2, rfl⟩ | ⟨h2, rfl⟩⟩ := goB_ok hs
      · exact lv_icmp_le hx hb hdg h3 (fun _ => kk ls hl) (fun h => absurd (of_decide_eq_true h2) h)
      · exact lv_icmp_le hx hb hdg h3 (fun h => absurd h (of_decide_eq_false h2)) (fun _ => kk ls hl)
end PL

/-! ===== the words that the tables give, by their places ===== -/
def uw : List Cond := lw_tbl.filter goodWord
def inT (i : Nat) (w : Cond) : Bool := (match lw_tbl[i]? with | some x => decide (x = w) | none => false) && goodWord w
theorem inT_ok {i : Nat} {w : Cond} (h : inT i w = true) : w ∈ uw := by
  unfold inT at h
  rw [Bool.and_eq_true] at h
  refine List.mem_filter.mpr ⟨?_, h.2⟩
  have h1 := h.1
  cases hx : lw_tbl[i]? with
  | none => rw [hx] at h1; cases h1
  | some x =>
    rw [hx] at h1
    have h2 : x = w := by simpa using h1
    rw [← h2]
    exact List.mem_of_getElem? hx
def cnN (c : Nat) : String := cnm.getD c ""
/-- fields -/
def okF (q : Nat × Nat × Nat × Nat × Nat) : Bool := match cls[q.2.2.1]? with
  | some r => decide (q.2.2.2.1 < r.2.2) && inT q.2.2.2.2 (.fieldLink (cnN q.1) q.2.1 (r.2.1 q.2.2.2.1).1 (r.2.1 q.2.2.2.1).2.1 (r.2.1 q.2.2.2.1).2.2.1)
  | none => false
theorem flT_ok : flT.all okF = true := by decide +kernel
theorem find_two {α : Type} {f : α → Nat × Nat} {l : List α} {c ix : Nat} {q : α} (h : l.find? (fun q => (f q).1 == c && (f q).2 == ix) = some q) : q ∈ l ∧ (f q).1 = c ∧ (f q).2 = ix := by
  have h1 := List.find?_some h
  simp only [Bool.and_eq_true, beq_iff_eq] at h1
  exact ⟨List.mem_of_find?_eq_some h, h1.1, h1.2⟩
theorem flF_ok {c ix ci k : Nat} (h : flF c ix = some (ci, k)) : ∃ r, cls[ci]? = some r ∧ k < r.2.2 ∧ Cond.fieldLink (cnN c) ix (r.2.1 k).1 (r.2.1 k).2.1 (r.2.1 k).2.2.1 ∈ uw := by
  unfold flF at h
  obtain ⟨q, hq, he⟩ := Option.map_eq_some_iff.mp h
  obtain ⟨hm, h1, h2⟩ := find_two (f := fun q : Nat × Nat × Nat × Nat × Nat => (q.1, q.2.1)) hq
  have h3 := List.all_eq_true.mp flT_ok q hm
  unfold okF at h3
  cases he
  cases hr : cls[q.2.2.1]? with
  | none => rw [hr] at h3; cases h3
  | some r =>
    rw [hr] at h3
    simp only [Bool.and_eq_true, decide_eq_true_eq] at h3
    refine ⟨r, rfl, h3.1, ?_⟩
    have h4 := inT_ok h3.2
    dsimp only at h1 h2
    rw [h1, h2] at h4
    exact h4
/-- classes -/
def okC (q : (vw_C × (Nat → FieldType)) × (List Value × (String × (List Nat × (Nat × Nat))))) : Bool :=
  let r := q.1.1
  decide (q.2.2.1 = r.1) && decide (q.2.1.length = r.2.2) && decide (q.2.2.2.1.length = r.2.2) &&
  (List.range r.2.2).all (fun k => inT (q.2.2.2.1.getD k 0) (u_lay r.1 r.2.1 k) && decide (parseFieldDescriptor (r.2.1 k).2.2.1 = some (q.1.2 k)) && decide (defaultValue (q.1.2 k) = q.2.1.getD k .null) && decide ((r.2.1 k).1 = r.1) && (List.range r.2.2).all (fun j => decide (k = j) || decide ((r.2.1 k).2.1 ≠ (r.2.1 j).2.1))) &&
  inT q.2.2.2.2.1 (.instantiable r.1 r.2.2) && inT q.2.2.2.2.2 (.initialized r.1)
def okCs : List ((vw_C × (Nat → FieldType)) × (List Value × (String × (List Nat × (Nat × Nat))))) := (cls.zip tyL).zip (dfL.zip (cnm.zip (clP.zip cnP)))
theorem okCs_ok : okCs.all okC = true := by decide +kernel
theorem okCs_len : okCs.length = cls.length ∧ tyL.length = cls.length ∧ dfL.length = cls.length := by decide +kernel
theorem cls_at {ci : Nat} {r : vw_C} (h : cls[ci]? = some r) : ∃ q ∈ okCs, q.1.1 = r ∧ tyL[ci]? = some q.1.2 ∧ dfL[ci]? = some q.2.1 ∧ cnm[ci]? = some q.2.2.1 := by
  have hlt : ci < okCs.length := by rw [okCs_len.1]; exact (List.getElem?_eq_some_iff.mp h).1
  have hq : okCs[ci]? = some okCs[ci] := List.getElem?_eq_getElem hlt
  generalize okCs[ci] = q at hq
  refine ⟨q, List.mem_of_getElem? hq, ?_⟩
  unfold okCs at hq
  obtain ⟨⟨a, b⟩, x1, x2, x3, x4, x5⟩ := q
  rw [List.getElem?_zip_eq_some] at hq
  obtain ⟨h1, h2⟩ := hq
  rw [List.getElem?_zip_eq_some] at h1 h2
  obtain ⟨h3, h4⟩ := h2
  rw [List.getElem?_zip_eq_some] at h4
  refine ⟨?_, h1.2, h3, h4.1⟩
  have := h1.1
  rw [h] at this
  exact (Option.some.inj this).symm
theorem cls_ok {ci : Nat} {r : vw_C} (h : cls[ci]? = some r) : cnm[ci]? = some r.1 ∧ (∀ w ∈ u_ws r.1 r.2.1 r.2.2, w ∈ uw) ∧ Cond.instantiable r.1 r.2.2 ∈ uw ∧ Cond.initialized r.1 ∈ uw ∧
    (∀ k, k < r.2.2 → (r.2.1 k).1 = r.1) ∧ (∀ a, a < r.2.2 → ∀ b, b < r.2.2 → a ≠ b → (r.2.1 a).2.1 ≠ (r.2.1 b).2.1) ∧
    ∃ (t : Nat → FieldType) (fs : List Value), tyL[ci]? = some t ∧ dfL[ci]? = some fs ∧ fs.length = r.2.2 ∧ (∀ k, k < r.2.2 → parseFieldDescriptor (r.2.1 k).2.2.1 = some (t k)) ∧ ∀ k, k < r.2.2 → defaultValue (t k) = vp_V fs k := by
  obtain ⟨q, hm, e1, e2, e3, e4⟩ := cls_at h
  have h3 := List.all_eq_true.mp okCs_ok q hm
  unfold okC at h3
  simp only [Bool.and_eq_true, decide_eq_true_eq, List.all_eq_true, List.mem_range, Bool.or_eq_true] at h3
  obtain ⟨⟨⟨⟨⟨a1, a2⟩, a3⟩, a4⟩, a5⟩, a6⟩ := h3
  rw [e1] at a1 a2 a3 a4 a5 a6
  refine ⟨by rw [e4, a1], fun w hw => ?_, inT_ok a5, inT_ok a6, fun k hk => (a4 k hk).1.2, fun a ha b hb hne => ?_, q.1.2, q.2.1, e2, e3, a2, fun k hk => (a4 k hk).1.1.1.2, fun k hk => (a4 k hk).1.1.2⟩
  · obtain ⟨k, hk, rfl⟩ := List.mem_map.mp hw
    exact inT_ok (a4 k (List.mem_range.mp hk)).1.1.1.1
  · rcases (a4 a ha).2 b hb with h | h
    · exact absurd h hne
    · exact h
/-- classes that are made, constants, the object's own init, arraycopy, the static array -/
theorem clT_ok : clT.all (fun q => decide (q.2.2.1 < cls.length) && inT q.2.2.2 (.classLink (cnN q.1) q.2.1 (cnN q.2.2.1))) = true := by decide +kernel
theorem clF_ok {c ix ci : Nat} (h : clF c ix = some ci) : Cond.classLink (cnN c) ix (cnN ci) ∈ uw := by
  unfold clF at h
  obtain ⟨q, hq, he⟩ := Option.map_eq_some_iff.mp h
  obtain ⟨hm, h1, h2⟩ := find_two (f := fun q : Nat × Nat × Nat × Nat => (q.1, q.2.1)) hq
  have h3 := List.all_eq_true.mp clT_ok q hm
  simp only [Bool.and_eq_true, decide_eq_true_eq] at h3
  cases he
  have h4 := inT_ok h3.2
  dsimp only at h1 h2
  rw [h1, h2] at h4
  exact h4
theorem klT_ok : klT.all (fun q => inT q.2.2.2 (.constantLong (cnN q.1) q.2.1 q.2.2.1)) = true := by decide +kernel
theorem klF_ok {c ix : Nat} {v : Int64} (h : klF c ix = some v) : Cond.constantLong (cnN c) ix v ∈ uw := by
  unfold klF at h
  obtain ⟨q, hq, he⟩ := Option.map_eq_some_iff.mp h
  obtain ⟨hm, h1, h2⟩ := find_two (f := fun q : Nat × Nat × Int64 × Nat => (q.1, q.2.1)) hq
  have h3 := List.all_eq_true.mp klT_ok q hm
  cases he
  have h4 := inT_ok h3
  dsimp only at h1 h2
  rw [h1, h2] at h4
  exact h4
theorem any_two {α : Type} {f : α → Nat × Nat} {l : List α} {c ix : Nat} (h : l.any (fun q => (f q).1 == c && (f q).2 == ix) = true) : ∃ q ∈ l, (f q).1 = c ∧ (f q).2 = ix := by
  obtain ⟨q, hm, hq⟩ := List.any_eq_true.mp h
  simp only [Bool.and_eq_true, beq_iff_eq] at hq
  exact ⟨q, hm, hq.1, hq.2⟩
theorem oiT_ok : oiT.all (fun q => inT q.2.2 (.methodLink (cnN q.1) q.2.1 objectInit)) = true := by decide +kernel
theorem oiF_ok {c ix : Nat} (h : oiF c ix = true) : Cond.methodLink (cnN c) ix objectInit ∈ uw := by
  obtain ⟨q, hm, h1, h2⟩ := any_two (f := fun q : Nat × Nat × Nat => (q.1, q.2.1)) h
  have h4 := inT_ok (List.all_eq_true.mp oiT_ok q hm)
  dsimp only at h1 h2
  rw [h1, h2] at h4
  exact h4
theorem acT_ok : acT.all (fun q => inT q.2.2 (.methodLink (cnN q.1) q.2.1 arraycopyName)) = true := by decide +kernel
theorem acF_ok {c ix : Nat} (h : acF c ix = true) : Cond.methodLink (cnN c) ix arraycopyName ∈ uw := by
  obtain ⟨q, hm, h1, h2⟩ := any_two (f := fun q : Nat × Nat × Nat => (q.1, q.2.1)) h
  have h4 := inT_ok (List.all_eq_true.mp acT_ok q hm)
  dsimp only at h1 h2
  rw [h1, h2] at h4
  exact h4
theorem gsT_ok : gsT.all (fun q => inT q.2.2 (.fieldLink (cnN q.1) q.2.1 "ConnectionFamily" "TRIAL_BUDGETS" "[I")) = true := by decide +kernel
theorem gsF_ok {c ix : Nat} (h : gsF c ix = true) : Cond.fieldLink (cnN c) ix "ConnectionFamily" "TRIAL_BUDGETS" "[I" ∈ uw := by
  obtain ⟨q, hm, h1, h2⟩ := any_two (f := fun q : Nat × Nat × Nat => (q.1, q.2.1)) h
  have h4 := inT_ok (List.all_eq_true.mp gsT_ok q hm)
  dsimp only at h1 h2
  rw [h1, h2] at h4
  exact h4
theorem obj_ok : inT (w_obj.getD 0 0) (.instanceMethod objectInit) = true ∧ inT (w_obj.getD 1 0) (.code objectInit ⟨#[0xb1]⟩ 1 none) = true := by decide +kernel
theorem acp_ok : inT (w_acp.getD 0 0) (.native arraycopyName) = true ∧ inT (w_acp.getD 1 0) (.static arraycopyName) = true ∧ inT (w_acp.getD 2 0) (.initialized "java/lang/System") = true := by decide +kernel
theorem arr_ok : inT w_arr (.arrayClass .int) = true := by decide +kernel
/-- methods; their bytes are compared by name (mC_ below), not byte by byte -/
def codeAt (i : Nat) : ByteArray := match lw_tbl[i]? with
  | some (.code _ b _ _) => b
  | _ => ⟨#[]⟩
def codeIs (i : Nat) (y : MethodName) (L : Nat) (r : Option FieldType) : Bool := match lw_tbl[i]? with
  | some (.code y' _ L' r') => decide (y' = y) && decide (L' = L) && decide (r' = r)
  | _ => false
theorem codeIs_ok {i : Nat} {y : MethodName} {L : Nat} {r : Option FieldType} (h : codeIs i y L r = true) : Cond.code y (codeAt i) L r ∈ uw := by
  unfold codeIs at h
  unfold codeAt
  cases hx : lw_tbl[i]? with
  | none => rw [hx] at h; cases h
  | some w =>
    rw [hx] at h
    cases w with
    | code y' b' L' r' =>
      simp only [Bool.and_eq_true, decide_eq_true_eq] at h
      obtain ⟨⟨rfl, rfl⟩, rfl⟩ := h
      exact List.mem_filter.mpr ⟨List.mem_of_getElem? hx, rfl⟩
    | _ => cases h
def okM (q : MR × List Nat) : Bool :=
  let M := q.1
  let y := M.1
  match q.2 with
  | i0 :: i1 :: i2 :: t => codeIs i0 y M.2.2.1 M.2.2.2.1 && inT i1 (.initialized y.cls) && decide (cnN M.2.2.2.2.1 = y.cls) && (plainName y.cls || plainFor y) && decide (M.2.2.1 ≤ 20) &&
    decide (y.cls ≠ "java/lang/invoke/MethodHandle" ∧ y.cls ≠ "java/lang/invoke/VarHandle" ∧ (parseMethodDescriptor y.desc).map (fun d => d.parameters.length) = some M.2.2.2.2.2.1) &&
    (match M.2.2.2.2.2.2 with
     | 0 => inT i2 (.instanceMethod y) && (match t with | i3 :: _ => inT i3 (.selects y.cls y y) | [] => false)
     | 1 => inT i2 (.static y)
     | _ => inT i2 (.instanceMethod y) && decide (y.name = "<init>") && decide (M.2.2.2.1 = none))
  | _ => false
theorem zip_all {f : MR × List Nat → Bool} : ∀ {l : List MR} {p : List (List Nat)}, (l.zip p).all f = true → l.length ≤ p.length → p.map (fun ps => codeAt (ps.headD 0)) = l.map (fun M => M.2.1) → ∀ a ∈ l, ∃ b, f (a, b) = true ∧ codeAt (b.headD 0) = a.2.1
  | [], _, _, _, _, a, ha => by cases ha
  | x :: l, [], _, h, _, _, _ => by simp at h
  | x :: l, y :: p, h, hl, hc, a, ha => by
    simp only [List.zip_cons_cons, List.all_cons, Bool.and_eq_true] at h
    rw [List.map_cons, List.map_cons, List.cons.injEq] at hc
    rcases List.mem_cons.mp ha with rfl | ha
    · exact ⟨y, h.1, hc.1⟩
    · exact zip_all h.2 (by simpa using hl) hc.2 a ha

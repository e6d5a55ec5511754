/-! ===== calls of the pure machine are calls of the real one ===== -/
def wsM (M : MR) : List Cond := .code (mY M) (mC M) (mL M) (mR M) :: uw
theorem uw_good {w : Cond} (h : w ∈ uw) : (w.onTables && w.keeps) = true ∨ ∃ ty, w = .arrayClass ty := good_of_word (List.mem_filter.mp h).2
/-- what the tables say of a method -/
def mFacts (M : MR) : Prop :=
  Cond.code (mY M) (mC M) (mL M) (mR M) ∈ uw ∧ Cond.initialized (mY M).cls ∈ uw ∧ cnN (mO M) = (mY M).cls ∧ plainFor (mY M) = true ∧ mL M ≤ 20 ∧
  ((mY M).cls ≠ "java/lang/invoke/MethodHandle" ∧ (mY M).cls ≠ "java/lang/invoke/VarHandle" ∧ (parseMethodDescriptor (mY M).desc).map (fun d => d.parameters.length) = some (mN M)) ∧
  (mK M = 0 → Cond.instanceMethod (mY M) ∈ uw ∧ Cond.selects (mY M).cls (mY M) (mY M) ∈ uw) ∧ (mK M = 1 → Cond.static (mY M) ∈ uw) ∧ (mK M = 2 → Cond.instanceMethod (mY M) ∈ uw ∧ (mY M).name = "<init>" ∧ mR M = none)
theorem okM_facts {M : MR} {ps : List Nat} (h : okM (M, ps) = true) (hc : codeAt (ps.headD 0) = mC M) : mFacts M := by
  unfold okM at h
  match ps, h, hc with
  | i0 :: i1 :: i2 :: t, h, hc =>
    simp only [Bool.and_eq_true, decide_eq_true_eq, Bool.or_eq_true] at h
    obtain ⟨⟨⟨⟨⟨⟨a1, a2⟩, a3⟩, a4⟩, a5⟩, a6⟩, a7⟩ := h
    have hc' : codeAt i0 = mC M := hc
    have w1 := codeIs_ok a1
    rw [hc'] at w1
    refine ⟨w1, inT_ok a2, a3, ?_, a5, a6, fun hk => ?_, fun hk => ?_, fun hk => ?_⟩
    · rcases a4 with z | z
      · exact plainFor_of_name z
      · exact z
    · rw [show M.2.2.2.2.2.2 = 0 from hk] at a7
      simp only [Bool.and_eq_true] at a7
      match t, a7 with
      | i3 :: _, a7 => exact ⟨inT_ok a7.1, inT_ok a7.2⟩
      | [], a7 => simp at a7
    · rw [show M.2.2.2.2.2.2 = 1 from hk] at a7
      exact inT_ok a7
    · rw [show M.2.2.2.2.2.2 = 2 from hk] at a7
      simp only [Bool.and_eq_true, decide_eq_true_eq] at a7
      exact ⟨inT_ok a7.1.1, a7.1.2, a7.2⟩
theorem mT_facts {k : Nat} {M : MR} (h : mT[k]? = some M) (h0 : k ≠ 0) : mFacts M := by
  cases k with
  | zero => exact absurd rfl h0
  | succ k =>
    have h1 : mTr[k]? = some M := by
      unfold mT at h
      rwa [List.getElem?_cons_succ] at h
    obtain ⟨ps, h2, h3⟩ := mTr_ok M (List.mem_of_getElem? h1)
    exact okM_facts h2 h3
theorem mlT_ok : mlT.all (fun q => match mT[q.2.2.1]? with | some M => inT q.2.2.2 (.methodLink (cnN q.1) q.2.1 M.1) | none => false) = true := by decide +kernel
theorem mlF_ok {c ix k : Nat} {M : MR} (h : mlF c ix = some k) (hM : mT[k]? = some M) : Cond.methodLink (cnN c) ix (mY M) ∈ uw := by
  unfold mlF at h
  obtain ⟨q, hq, he⟩ := Option.map_eq_some_iff.mp h
  obtain ⟨hm, h1, h2⟩ := find_two (f := fun q : Nat × Nat × Nat × Nat => (q.1, q.2.1)) hq
  have h3 := List.all_eq_true.mp mlT_ok q hm
  dsimp only at h1 h2 h3
  rw [he, hM] at h3
  have h4 := inT_ok h3
  rw [h1, h2] at h4
  exact h4
theorem nlF_ok {c ix k : Nat} (h : nlF c ix = some k) : ∃ q ∈ nlT, q.1 = c ∧ q.2.1 = ix ∧ q.2.2.1 = k := by
  unfold nlF at h
  obtain ⟨q, hq, he⟩ := Option.map_eq_some_iff.mp h
  obtain ⟨hm, h1, h2⟩ := find_two (f := fun q : Nat × Nat × Nat × Nat => (q.1, q.2.1)) hq
  exact ⟨q, hm, h1, h2, he⟩
theorem mYk_of {k : Nat} {M : MR} (h : mT[k]? = some M) : mYk k = mY M := by
  unfold mYk
  rw [h]
  rfl
/-- a method's start and end, in the pure machine's words -/
def Pcx (D : va_G) (cI : ClassId) (cR : Nat → ClassId) (b sa B L : Nat) (xs : Nat → Int32) (as : List Value) (h : PH) : Array Value → State → Prop := fun v U =>
  v = (as.map (shV (gz b sa B))).toArray ∧ Wk D cI cR U ∧ We b sa B L xs U U.heap ∧ Wh D cI cR b sa B L xs h U.heap
def Qcx (D : va_G) (cI : ClassId) (cR : Nat → ClassId) (b sa B L : Nat) (xs : Nat → Int32) (r : Option Value) (h' : PH) : Array Value → State → Outcome → State → Prop := fun _ st o t =>
  o = .returned (r.map (shV (gz b sa B))) ∧ Wh D cI cR b sa B L xs h' t.heap ∧ va_F (fun q => B ≤ q) st t
theorem Pcx_blind {D : va_G} {cI : ClassId} {cR : Nat → ClassId} {b sa B L : Nat} {xs : Nat → Int32} {as : List Value} {h : PH} : FrameBlind (Pcx D cI cR b sa B L xs as h) := by
  intro a U g mk hq
  obtain ⟨h1, h2, h3, h4⟩ := hq
  exact ⟨h1, ⟨va_K.moved (u := U) (U := U.calling g mk a) (Vm.Alike.refl U.vm) h2.1, fun q hq => va_Nw.same (u := U) (U := U.calling g mk a) rfl rfl (h2.2.1 q hq), fun q hq => va_AO.moved (u := U) (U := U.calling g mk a) (Vm.Alike.refl U.vm) (h2.2.2 q hq)⟩,
    We.moved (s := U) (U := U.calling g mk a) (locs := []) (Vm.Alike.refl U.vm) va_S.rf h3, h4⟩
section CA
variable {p : Program} {l : Launch} {e : Env} {R : Room} {s : State} {m : MethodId} {args : Array Value} {below : List Frame} {meth : Method} {c : Code} {H : Heap} {locs : List Loc} {Q : State → Prop}
variable {pc len cells slots mc ms k : Nat} {ls : Array Slot} {st as r0 : List Value} {v : Option Value} {h h1 : PH} {i : Instr} {M K : MR} {rm : Room}
variable {D : va_G} {cI : ClassId} {cR : Nat → ClassId} {b sa B L : Nat} {xs : Nat → Int32}
theorem W_call {a : Array Value} {st0 rest : List Value} (hr : va_Run p l e R s m args below meth c H locs cells slots mc ms (F0 m pc ls st0) rest (Qcx D cI cR b sa B L xs v h1 a) (fun q => B ≤ q)) (hS : va_S (fun q => B ≤ q) s.heap H locs)
    (kk : ∀ (H1 : Heap) (locs1 : List Loc), Wh D cI cR b sa B L xs h1 H1 → va_S (fun q => B ≤ q) s.heap H1 locs1 → W p l e R s m args below meth c H1 locs1 (cells + mc) (slots + ms) Q (F0 m (pc + 3) ls ((v.map (shV (gz b sa B))).toList ++ rest))) :
    W p l e R s m args below meth c H locs cells slots Q (F0 m pc ls st0) := by
  intro T hT X
  obtain ⟨w, st₀, t, T', L', h0, X', hL, e1, e2, ⟨hv, hw, hz, hk⟩, stp'⟩ := hr T hT X
  cases hv
  rw [h0] at hz hk
  rw [← e1] at hw
  obtain ⟨t2, a1, b1⟩ := kk T'.heap (locs ++ L') hw ⟨Nat.le_trans hS.1 (by rw [e1]; exact hz), fun q g1 g2 => by rw [e1, hk q (Nat.lt_of_lt_of_le g1 hS.1) g2]; exact hS.2.1 q g1 g2, fun q hq => by
      rcases List.mem_append.mp hq with z | z
      · exact hS.2.2 q z
      · exact hL q z⟩ T' rfl X'
  exact ⟨t2, stp' t2 a1, b1⟩
theorem wsM_good (hF : mFacts K) : GoodIn uw (wsM K) := by
  intro w hw
  rcases List.mem_cons.mp hw with rfl | hw
  · exact ⟨hF.1, uw_good hF.1⟩
  · exact ⟨hw, uw_good hw⟩
theorem Pcx_at (hK : Wk D cI cR s) (hE : We b sa B L xs s s.heap) (hW : Wh D cI cR b sa B L xs h H) (hS : va_S (fun q => B ≤ q) s.heap H locs) (U : State) (hU : U.heap = H) (hWm : s.WarmedH U.vm) : Pcx D cI cR b sa B L xs as h (as.map (shV (gz b sa B))).toArray U :=
  ⟨rfl, hK.moved hWm, by rw [hU]; exact We.moved hWm.alike hS hE, by rw [hU]; exact hW⟩
set_option maxHeartbeats 1000000 in
theorem call_ok (hx : p.tables.exec = Jvm.exec) (hb : c.code = mC M) (hml : c.maxLocals = ls.size) (hown : s.vm.findClass (cnN (mO M)) = some m.cls) (hts : ∀ w ∈ uw, w.before args s = true) (hK : Wk D cI cR s) (hE : We b sa B L xs s s.heap)
    (hW : Wh D cI cR b sa B L xs h H) (hS : va_S (fun q => B ≤ q) s.heap H locs) (hKk : mT[k]? = some K) (hM : Met l (mY K) (wsM K) rm (Pcx D cI cR b sa B L xs as h) (Qcx D cI cR b sa B L xs v h1) mc ms (fun q => B ≤ q))
    (hrc : rm.cells = mc) (hrs : rm.slots = ms) (hR : rm.frames + 1 ≤ R.frames ∧ 8 + (mL K + 11) + rm.locals ≤ R.locals) (hf : cells + mc ≤ R.cells ∧ slots + ms ≤ R.slots) (hdg : decode (mC M) pc = .ok (i, len)) (hca : x_ca (mO M) i len st h = some (k, as, r0)) :
    va_Run p l e R s m args below meth c H locs cells slots mc ms (F0 m pc ls (st.map (shV (gz b sa B)))) (r0.map (shV (gz b sa B))) (Qcx D cI cR b sa B L xs v h1 (as.map (shV (gz b sa B))).toArray) (fun q => B ≤ q) := by
  have hrm : ∀ r : List Value, catS r ≤ 8 → 2 * (F0 m pc ls (st.map (shV (gz b sa B)))).monitorRoom + ((r.map (shV (gz b sa B))).map fun v => v.category).sum ≤ 8 := fun r hr => by
    rw [catS_sh]
    show 2 * 0 + _ ≤ 8
    omega
  have hst : ∀ (n : Nat) (a : Value) (r : List Value), st.drop n = a :: r → st.map (shV (gz b sa B)) = (((st.take n).reverse).map (shV (gz b sa B))).reverse ++ shV (gz b sa B) a :: r.map (shV (gz b sa B)) ∧ (((st.take n).reverse).map (shV (gz b sa B))).length = n := by
    intro n a r hd
    have hl : n < st.length := by
      rcases Nat.lt_or_ge n st.length with z | z
      · exact z
      · rw [List.drop_eq_nil_of_le z] at hd; cases hd
    refine ⟨?_, by simp; omega⟩
    rw [List.map_reverse, List.reverse_reverse, ← List.map_cons, ← hd, ← List.map_append, List.take_append_drop]
  unfold x_ca at hca
  split at hca
  case isFalse => cases hca
  rename_i h3
  subst h3
  cases i <;> simp only [reduceCtorEq] at hca
  case invokevirtual ix =>
    repeat' (first | (cases hca; done) | split at hca)
    rename_i _ k' e1 _ K' e2 _ v0 r e3 _ ci fs e4 h2
    obtain ⟨g1, g2, g3, g4, g5⟩ := h2
    cases hca
    cases hKk.symm.trans e2
    have hF := mT_facts hKk g1
    obtain ⟨f1, f2, f3, f4, f5, f6, f7, f8, f9⟩ := id hF
    obtain ⟨t1, t2⟩ := hst _ _ _ e3
    obtain ⟨q, hq, -⟩ := hW.2.2.2.2 (v0 - 2) _ (hW.ob e4 g4)
    have hC : (mY K).cls = q.1 := by rw [← f3, g3]; exact cnN_of hq
    exact va_runV (As := ((st.take (mN K)).reverse).map (shV (gz b sa B))) (b := gz b sa B v0) (C := q.1) (n := mN K) (Ts := uw) ⟨hx, hb, hml, hown, hts⟩ hM
      ⟨callB_of (mN K) hts (wsM_good hF) rfl hrc hrs (hts _ f2) (hts _ (mlF_ok e1 hKk)) f6 hR, hts _ (f7 g2).1, by rw [← hC]; exact hts _ (f7 g2).2⟩
      ⟨Pcx_blind, va_recv hK.1 hW.2.2.2.2 hq (hW.ob e4 g4), fun U hU hWm => Pcx_at (as := .ref v0 :: (st.take (mN K)).reverse) hK hE hW hS U hU hWm⟩ rfl t2 rfl t1 (hrm _ g5) hdg hf
  case invokestatic ix =>
    repeat' (first | (cases hca; done) | split at hca)
    rename_i _ k' e1 _ K' e2 h2
    obtain ⟨g1, g2, g3, g4⟩ := h2
    cases hca
    cases hKk.symm.trans e2
    have hF := mT_facts hKk g1
    obtain ⟨f1, f2, f3, f4, f5, f6, f7, f8, f9⟩ := id hF
    have t1 : st.map (shV (gz b sa B)) = (((st.take (mN K)).reverse).map (shV (gz b sa B))).reverse ++ (st.drop (mN K)).map (shV (gz b sa B)) := by
      rw [List.map_reverse, List.reverse_reverse, ← List.map_append, List.take_append_drop]
    exact va_runS (As := ((st.take (mN K)).reverse).map (shV (gz b sa B))) (n := mN K) (Ts := uw) ⟨hx, hb, hml, hown, hts⟩ hM
      ⟨callB_of (mN K) hts (wsM_good hF) rfl hrc hrs (hts _ f2) (hts _ (mlF_ok e1 hKk)) f6 hR, hts _ (f8 g2)⟩
      ⟨Pcx_blind, fun U hU hWm => Pcx_at (as := (st.take (mN K)).reverse) hK hE hW hS U hU hWm⟩ rfl (by simp; omega) rfl t1 (hrm _ g4) hdg hf
  case invokespecial ix =>
    repeat' (first | (cases hca; done) | split at hca)
    · rename_i _ _ k' e1 _ K' e2 _ v0 r e3 h2
      obtain ⟨g1, g2, g3⟩ := h2
      cases hca
      cases hKk.symm.trans e2
      have hF := mT_facts hKk g1
      obtain ⟨f1, f2, f3, f4, f5, f6, f7, f8, f9⟩ := id hF
      obtain ⟨t1, t2⟩ := hst _ _ _ e3
      have hret := (f9 g2).2.2
      exact va_runI (As := ((st.take (mN K)).reverse).map (shV (gz b sa B))) (b := gz b sa B v0) (n := mN K) (Ts := uw) ⟨hx, hb, hml, hown, hts⟩ hM
        ⟨by have := callB_of (R := R) (mN K) hts (wsM_good hF) rfl hrc hrs (hts _ f2) (hts _ (mlF_ok e1 hKk)) f6 hR
            rw [hret] at this
            exact this, (f9 g2).2.1, hts _ (f9 g2).1⟩
        ⟨Pcx_blind, fun U hU hWm => Pcx_at (as := .ref v0 :: (st.take (mN K)).reverse) hK hE hW hS U hU hWm⟩ rfl t2 rfl t1 (hrm _ g3) hdg hf
    · rename_i _ _ k' _ e1 _ K' e2 _ v0 r e3 h2
      obtain ⟨g1, g2, g3⟩ := h2
      cases hca
      cases hKk.symm.trans e2
      have hF := mT_facts hKk g1
      obtain ⟨f1, f2, f3, f4, f5, f6, f7, f8, f9⟩ := id hF
      obtain ⟨t1, t2⟩ := hst _ _ _ e3
      have hret := (f9 g2).2.2
      obtain ⟨q, hq, q1, q2, q3⟩ := nlF_ok e1
      have hN := hK.2.1 q hq
      rw [q1, q2, q3, mYk_of hKk] at hN
      exact va_runIN (As := ((st.take (mN K)).reverse).map (shV (gz b sa B))) (b := gz b sa B v0) (n := mN K) (Ts := uw) ⟨hx, hb, hml, hown, hts⟩ hM
        ⟨by have := va_cnB (R := R) (mN K) hts (wsM_good hF) rfl hrc hrs hN (hts _ f2) f6 hR
            rw [hret] at this
            exact this, (f9 g2).2.1, hts _ (f9 g2).1⟩
        ⟨Pcx_blind, fun U hU hWm => Pcx_at (as := .ref v0 :: (st.take (mN K)).reverse) hK hE hW hS U hU hWm⟩ rfl t2 rfl t1 (hrm _ g3) hdg hf
end CA

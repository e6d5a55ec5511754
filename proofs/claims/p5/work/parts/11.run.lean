/-! ===== a run of the pure machine is a walk of the real one ===== -/
theorem x_hp_mono {c d len pc nc ns pc' nc' ns' : Nat} {ini : Bool} {i : Instr} {st st' : List Value} {h h' : PH} (hs : x_hp c d ini i len pc st h nc ns = some (pc', st', h', nc', ns')) : nc ≤ nc' ∧ ns ≤ ns' := by
  unfold x_hp at hs
  repeat' (first | (cases hs; done) | split at hs)
  all_goals (cases hs; omega)
theorem stp_mono {M : MR} {d len : Nat} {i : Instr} {q q' : Sg} (hs : stp M d i len q = some q') : q.2.2.2.2.1 ≤ q'.2.2.2.2.1 ∧ q.2.2.2.2.2 ≤ q'.2.2.2.2.2 := by
  unfold stp at hs
  repeat' (first | (cases hs; done) | split at hs)
  all_goals (cases hs)
  · exact ⟨Nat.le_refl _, Nat.le_refl _⟩
  · exact ⟨Nat.le_refl _, Nat.le_refl _⟩
  · exact ⟨Nat.le_refl _, Nat.le_refl _⟩
  · exact ⟨Nat.le_refl _, Nat.le_refl _⟩
  · rename_i a ha
    obtain ⟨a1, a2, a3, a4, a5⟩ := a
    exact x_hp_mono ha
theorem run_mono : ∀ (n d mi : Nat) (q : Sg) (r : Option Value) (h' : PH) (nc' ns' : Nat), run n d mi q = some (r, h', nc', ns') → q.2.2.2.2.1 ≤ nc' ∧ q.2.2.2.2.2 ≤ ns'
  | 0, _, _, _, _, _, _, _, h => by simp [run] at h
  | n + 1, d, mi, q, r, h', nc', ns', h => by
    unfold run at h
    repeat' (first | (cases h; done) | split at h)
    · have := run_mono _ _ _ _ _ _ _ _ h
      dsimp only at this
      omega
    · obtain ⟨q1, q2, q3, q4, q5, q6⟩ := q
      cases h
      exact ⟨Nat.le_refl _, Nat.le_refl _⟩
    · rename_i hs
      have h1 := stp_mono hs
      have h2 := run_mono _ _ _ _ _ _ _ _ h
      omega
section PF
variable {l : Launch}
theorem Met_ofWF {y : MethodName} {ws ws' : List Cond} {rm : Room} {Pc : Array Value → State → Prop} {Qc : Array Value → State → Outcome → State → Prop} {mc ms : Nat} {free : Addr → Prop} {cc : ByteArray} {maxL : Nat} {ret : Option FieldType}
    (hy : plainFor y = true) (hw : ws = Cond.code y cc maxL ret :: ws')
    (body : ∀ p e s m args below meth c s₁, BodyLoose p l y (headSpec ws rm) cc maxL ret e s m args below meth c s₁ → c.maxLocals = maxL → Pc args s →
      W p l e (headSpec ws rm).room s m args below meth c s.heap [] 0 0 (MQ below Qc args s mc ms free) (entryFrame m args maxL)) : Met l y ws rm Pc Qc mc ms free := by
  refine MetFree.of_bodySF (code := cc) (maxLocals := maxL) (ret := ret) hy ?_ ?_
  · intro args s m h hn
    obtain ⟨meth, c, h1, h2, h3, h4, h5, h6, -, -⟩ := Cond.code_spec hn (atoms_spec (ws := ws) h _ (by rw [hw]; exact List.mem_cons_self))
    exact ⟨meth, c, h1, h2, h3, h4, h5, h6⟩
  · intro p e s m args below meth c s₁ B hml hP _
    have hh0 : s₁.heap = s.heap := by rw [B.state]; rfl
    obtain ⟨t, a1, o, b1, b2, b3⟩ := body p e s m args below meth c s₁ B hml hP s₁ hh0 (Stand.of_body B)
    exact ⟨t, o, a1, b1, b2, ⟨b3.1, b3.2⟩⟩
/-- what a run of n steps gives, at any frame -/
def RunOK (l : Launch) (n : Nat) : Prop := ∀ (d mi : Nat) (M : MR) (pc : Nat) (lv : PV) (st : List Value) (h : PH) (nc ns : Nat) (r : Option Value) (h' : PH) (nc' ns' : Nat), mT[mi]? = some M → run n d mi (pc, lv, st, h, nc, ns) = some (r, h', nc', ns') →
  ∀ (p : Program) (e : Env) (R : Room) (s : State) (m : MethodId) (args : Array Value) (below : List Frame) (meth : Method) (c : Code) (H : Heap) (locs : List Loc) (Q : State → Prop) (ls : Array Slot) (D : va_G) (cI : ClassId) (cR : Nat → ClassId) (b sa B L : Nat) (xs : Nat → Int32),
  p.tables.exec = Jvm.exec → c.code = mC M → c.maxLocals = mL M → s.vm.findClass (cnN (mO M)) = some m.cls → (∀ w ∈ uw, w.before args s = true) → ((mK M == 2) = true → meth.name = "<init>") → Wk D cI cR s → We b sa B L xs s s.heap → d ≤ R.frames → 40 * d ≤ R.locals → nc' ≤ R.cells → ns' ≤ R.slots →
  Wh D cI cR b sa B L xs h H → va_S (fun q => B ≤ q) s.heap H locs → lv_has ls (mL M) (shL (gz b sa B) lv) →
  (∀ (pc : Nat) (ls : Array Slot) (H : Heap) (locs : List Loc) (i : Instr) (len : Nat) (st : List Value), decode (mC M) pc = .ok (i, len) → x_re M i len st = some r → Wh D cI cR b sa B L xs h' H → va_S (fun q => B ≤ q) s.heap H locs → W p l e R s m args below meth c H locs nc' ns' Q (F0 m pc ls (st.map (shV (gz b sa B))))) →
  W p l e R s m args below meth c H locs nc ns Q (F0 m pc ls (st.map (shV (gz b sa B))))
set_option maxHeartbeats 1000000 in
/-- a method's contract out of a run from its entry -/
theorem met_of {n : Nat} (ih : RunOK l n) {d k : Nat} {K : MR} {as : List Value} {h h1 : PH} {v : Option Value} {nc ns : Nat} (hK : mT[k]? = some K) (h0 : k ≠ 0) (hl : (lg_sl as).length ≤ mL K) (hr : run n d k (0, lv_args 0 as, [], h, 0, 0) = some (v, h1, nc, ns)) (D : va_G) (cI : ClassId) (cR : Nat → ClassId) (b sa B L : Nat) (xs : Nat → Int32) :
    Met l (mY K) (wsM K) { frames := d, cells := nc, slots := ns, locals := 40 * d } (Pcx D cI cR b sa B L xs as h) (Qcx D cI cR b sa B L xs v h1) nc ns (fun q => B ≤ q) := by
  obtain ⟨f1, f2, f3, f4, f5, f6, f7, f8, f9⟩ := mT_facts hK h0
  refine Met_ofWF (cc := mC K) (maxL := mL K) (ret := mR K) f4 rfl ?_
  intro p e s m args below meth c s₁ Bd hml hP
  obtain ⟨rfl, hKs, hE, hW⟩ := hP
  have hts : ∀ w ∈ uw, w.before (as.map (shV (gz b sa B))).toArray s = true := fun w hw => atoms_spec (ws := wsM K) Bd.pre w (List.mem_cons_of_mem _ hw)
  have hown : s.vm.findClass (cnN (mO K)) = some m.cls := by rw [f3]; exact findClass_of_methodNamed Bd.named
  have hnm : meth.name = (mY K).name := (name_of_methodNamed Bd.named Bd.method).1
  have hent := lv_entry (as.map (shV (gz b sa B))) (n := mL K) (by rw [lg_sl_sh]; exact hl)
  rw [shL_args] at hent
  rw [lg_entry_eq]
  refine ih d k K 0 (lv_args 0 as) [] h 0 0 v h1 nc ns hK hr p e _ s m _ below meth c s.heap [] _ _ D cI cR b sa B L xs Bd.exec Bd.bytes hml hown hts (fun hk => by rw [hnm]; exact (f9 (by simpa using hk)).2.1) hKs hE (Nat.le_refl _) (Nat.le_refl _) (Nat.le_refl _) (Nat.le_refl _) hW va_S.rf hent ?_
  intro pc ls H locs i len st hdg hre hW1 hS
  have hlocks := Bd.notSynchronized
  have hret := Bd.returns
  unfold x_re at hre
  split at hre
  case isFalse => cases hre
  rename_i h3
  subst h3
  cases i <;> simp only [reduceCtorEq] at hre
  case return_ =>
    repeat' (first | (cases hre; done) | split at hre)
    rename_i h4
    cases hre
    exact W.vret Bd.exec Bd.bytes (by rw [hret]; exact h4) (fun t ht hWt => ⟨rfl, by rw [ht]; exact hW1, hS.F ht⟩) hS.2.2 hdg
  case ireturn =>
    repeat' (first | (cases hre; done) | split at hre)
    rename_i x h4
    cases hre
    rcases h4 with h4 | ⟨h4, h5⟩
    · exact W.iret Bd.exec Bd.bytes (by rw [hret]; exact h4) (fun t ht hWt => ⟨rfl, by rw [ht]; exact hW1, hS.F ht⟩) hS.2.2 hdg
    · exact W.zret (ty := .boolean) Bd.exec Bd.bytes (by rw [hret]; exact h4) (by rcases h5 with rfl | rfl <;> decide) (fun t ht hWt => ⟨rfl, by rw [ht]; exact hW1, hS.F ht⟩) hS.2.2 hdg
  case lreturn =>
    repeat' (first | (cases hre; done) | split at hre)
    rename_i x h4
    cases hre
    exact W.lret Bd.exec Bd.bytes (by rw [hret]; exact h4) (fun t ht hWt => ⟨rfl, by rw [ht]; exact hW1, hS.F ht⟩) hS.2.2 hdg
  case areturn =>
    repeat' (first | (cases hre; done) | split at hre)
    rename_i x _ nm h4
    cases hre
    exact W.aret (rt := .object nm) Bd.exec Bd.bytes (by rw [hret]; exact h4) (Or.inl ⟨nm, rfl⟩) (Or.inr ⟨_, rfl⟩) (fun t ht hWt => ⟨rfl, by rw [ht]; exact hW1, hS.F ht⟩) hS.2.2 hdg
set_option maxHeartbeats 1000000 in
theorem run_ok (l : Launch) : ∀ n, RunOK l n
  | 0 => by
    intro d mi M pc lv st h nc ns r h' nc' ns' hM hr
    simp [run] at hr
  | n + 1 => by
    have ih := run_ok l n
    intro d mi M pc lv st h nc ns r h' nc' ns' hM hr p e R s m args below meth c H locs Q ls D cI cR b sa B L xs hx hb hml hown hts hini hK hE hRf hRl hRc hRs hW hS hl kend
    have hml' : c.maxLocals = ls.size := by rw [hml, hl.1]
    unfold run at hr
    rw [hM] at hr
    dsimp only at hr
    split at hr
    · cases hr
    · rename_i i len hdg
      split at hr
      · rename_i k as r0 hca
        split at hr
        · cases hr
        · rename_i d'
          split at hr
          · cases hr
          · rename_i K hKk
            split at hr
            · rename_i hlen
              split at hr
              · rename_i v h1 nc1 ns1 hr1
                have hk0 : k ≠ 0 := by
                  unfold x_ca at hca
                  repeat' (first | (cases hca; done) | split at hca)
                  all_goals (rename_i hz; cases hca; exact hz.1)
                have hmo := run_mono _ _ _ _ _ _ _ _ hr
                dsimp only at hmo
                have hf := mT_facts hKk hk0
                have hl20 := hf.2.2.2.2.1
                refine W_call (call_ok hx hb hml' hown hts hK hE hW hS hKk (met_of ih hKk hk0 hlen hr1 D cI cR b sa B L xs) rfl rfl ⟨by show d' + 1 ≤ _; omega, by show 8 + (mL K + 11) + 40 * d' ≤ _; omega⟩ ⟨by omega, by omega⟩ hdg hca) hS (fun H1 locs1 w1 w2 => ?_)
                have hgo := ih (d' + 1) mi M (pc + 3) lv (v.toList ++ r0) h1 (nc + nc1) (ns + ns1) r h' nc' ns' hM hr p e R s m args below meth c H1 locs1 Q ls D cI cR b sa B L xs hx hb hml hown hts hini hK hE hRf hRl hRc hRs w1 w2 hl kend
                rw [List.map_append] at hgo
                cases v <;> exact hgo
              · cases hr
            · cases hr
      · split at hr
        · rename_i v hre
          cases hr
          exact kend pc ls H locs i len st hdg hre hW hS
        · split at hr
          · rename_i q' hs
            have hmo := run_mono _ _ _ _ _ _ _ _ hr
            obtain ⟨pc1, lv1, st1, h1, nc1, ns1⟩ := q'
            dsimp only at hmo
            have hgo : ∀ (H1 : Heap) (locs1 : List Loc) (ls1 : Array Slot), Wh D cI cR b sa B L xs h1 H1 → va_S (fun q => B ≤ q) s.heap H1 locs1 → lv_has ls1 (mL M) (shL (gz b sa B) lv1) → W p l e R s m args below meth c H1 locs1 nc1 ns1 Q (F0 m pc1 ls1 (st1.map (shV (gz b sa B)))) :=
              fun H1 locs1 ls1 w1 w2 w3 => ih d mi M pc1 lv1 st1 h1 nc1 ns1 r h' nc' ns' hM hr p e R s m args below meth c H1 locs1 Q ls1 D cI cR b sa B L xs hx hb hml hown hts hini hK hE hRf hRl hRc hRs w1 w2 w3 kend
            unfold stp at hs
            dsimp only at hs
            split at hs
            · rename_i a ha
              cases hs
              exact x_ld_ok hx hb hdg hl ha (fun ls' hl' => hgo H locs ls' hW hS hl')
            · split at hs
              · rename_i a ha
                cases hs
                exact x_st_ok hx hb hdg hl ha (fun ls' hl' => hgo H locs ls' hW hS hl')
              · split at hs
                · rename_i a ha
                  cases hs
                  exact x_ar_ok hx hb hdg hl ha (fun ls' hl' => hgo H locs ls' hW hS hl')
                · split at hs
                  · rename_i a ha
                    cases hs
                    exact x_br_ok hx hb hdg hl ha (fun ls' hl' => hgo H locs ls' hW hS hl')
                  · split at hs
                    · rename_i a ha
                      obtain ⟨a1, a2, a3, a4, a5⟩ := a
                      cases hs
                      exact x_hp_ok hx hb hml' hown hts hini hK hE hRf hRl (by omega) (by omega) hW hS hdg ha (fun H' locs' w1 w2 => hgo H' locs' ls w1 w2 hl)
                    · cases hs
          · cases hr
end PF

/-! ===== arrays, what is new, the machine's own calls ===== -/
theorem aoK_ok {cI : ClassId} {cR : Nat → ClassId} {ci : Nat} (h : aoK ci = true) : (∃ t0 : Nat, (tysW cI cR)[t0]? = some (cR ci, .object (cnN ci))) ∧ ∃ q ∈ aoP, q.1 = ci := by
  obtain ⟨q, hm, hq⟩ := List.any_eq_true.mp h
  have e : q.1 = ci := by simpa using hq
  refine ⟨?_, q, hm, e⟩
  obtain ⟨k, hk⟩ := List.getElem?_of_mem hm
  refine ⟨k + 1, ?_⟩
  unfold tysW
  rw [List.getElem?_cons_succ, List.getElem?_map, hk, ← e]
  rfl
theorem in_of {j : Int32} {n : Nat} (h0 : 0 ≤ j) (h1 : j.toNatClampNeg < n) : vp_in j n := by
  rintro (h | h)
  · exact absurd h (Int32.not_lt.mpr h0)
  · omega
theorem cnN_of {ci : Nat} {q : vw_C} (h : cls[ci]? = some q) : cnN ci = q.1 := by
  unfold cnN
  rw [List.getD_eq_getElem?_getD, (cls_ok h).1]
  rfl
section HQ
variable {p : Program} {l : Launch} {e : Env} {R : Room} {s : State} {m : MethodId} {args : Array Value} {below : List Frame} {meth : Method} {c : Code} {H : Heap} {locs : List Loc} {Q : State → Prop}
variable {cc : ByteArray} {pc cn cells slots : Nat} {ls : Array Slot} {r : List Value} {h : PH}
variable {D : va_G} {cI : ClassId} {cR : Nat → ClassId} {b sa B L : Nat} {xs : Nat → Int32}
theorem h_iald (hx : p.tables.exec = Jvm.exec) (hb : c.code = cc) (hK : Wk D cI cR s) (hE : We b sa B L xs s s.heap) (hW : Wh D cI cR b sa B L xs h H) (hS : va_S (fun q => B ≤ q) s.heap H locs) {v n : Nat} {f : Nat → Int32} {j : Int32}
    (hv : h[v]? = some (.inl (n, f))) (h0 : 0 ≤ j) (h1 : j.toNatClampNeg < n) (hdg : decode cc pc = .ok (.iaload, 1))
    (kk : W p l e R s m args below meth c H locs cells slots Q (F0 m (pc + 1) ls (.int (f j.toNatClampNeg) :: r))) : W p l e R s m args below meth c H locs cells slots Q (F0 m pc ls (.int j :: .ref (gz b sa B v) :: r)) := by
  obtain ⟨e1, e2, e3, e4, e5, e6⟩ := hE
  obtain ⟨w1, w2, w3, w4, w5⟩ := id hW
  by_cases hv0 : v = 0
  · subst hv0
    cases w2.symm.trans hv
    have hbs : b < s.heap.size := by omega
    have hbA : ¬ B ≤ b := by omega
    exact va_sld hx hb e4 hbs hbA hS (in_of h0 h1) hdg kk
  · by_cases hv1 : v = 1
    · subst hv1
      cases w3.symm.trans hv
      obtain ⟨cell, a1, a2, a3, a4, a5, a6, a7⟩ := e6
      have hin : ¬ (j < 0 ∨ cell.slots.size ≤ j.toNatClampNeg) := by
        rintro (z | z)
        · exact absurd z (Int32.not_lt.mpr h0)
        · omega
      have hcell : H[sa]? = some cell := by rw [hS.2.1 sa (Array.getElem?_eq_some_iff.mp a1).1 a7]; exact a1
      exact W.iald (v := .int (tbV j.toNatClampNeg)) hx hb hcell a2 a3 hin (a6 _ h1) rfl rfl hdg kk
    · exact va_iald hx hb hK.1 w5 (v - 2) 0 (hW.ob hv (by omega)) rfl (in_of h0 h1) hdg kk
theorem h_alen (hx : p.tables.exec = Jvm.exec) (hb : c.code = cc) (hK : Wk D cI cR s) (hE : We b sa B L xs s s.heap) (hW : Wh D cI cR b sa B L xs h H) (hS : va_S (fun q => B ≤ q) s.heap H locs) {v n : Nat} {f : Nat → Int32}
    (hv : h[v]? = some (.inl (n, f))) (hdg : decode cc pc = .ok (.arraylength, 1))
    (kk : W p l e R s m args below meth c H locs cells slots Q (F0 m (pc + 1) ls (.int (Int32.ofNat n) :: r))) : W p l e R s m args below meth c H locs cells slots Q (F0 m pc ls (.ref (gz b sa B v) :: r)) := by
  obtain ⟨e1, e2, e3, e4, e5, e6⟩ := hE
  obtain ⟨w1, w2, w3, w4, w5⟩ := id hW
  by_cases hv0 : v = 0
  · subst hv0
    cases w2.symm.trans hv
    have hbs : b < s.heap.size := by omega
    have hbA : ¬ B ≤ b := by omega
    exact va_slen hx hb e4 hbs hbA hS hdg kk
  · by_cases hv1 : v = 1
    · subst hv1
      cases w3.symm.trans hv
      exact va_tlen hx hb e6 hS rfl hdg kk
    · exact va_alen hx hb hK.1 w5 (v - 2) 0 (hW.ob hv (by omega)) rfl rfl hdg kk
theorem h_alenR (hx : p.tables.exec = Jvm.exec) (hb : c.code = cc) (hK : Wk D cI cR s) (hW : Wh D cI cR b sa B L xs h H) {v n ci : Nat} {f : Nat → Option Nat}
    (hv : h[v]? = some (.inr (.inl (ci, n, f)))) (h2 : 2 ≤ v) (ha : aoK ci = true) (hdg : decode cc pc = .ok (.arraylength, 1))
    (kk : W p l e R s m args below meth c H locs cells slots Q (F0 m (pc + 1) ls (.int (Int32.ofNat n) :: r))) : W p l e R s m args below meth c H locs cells slots Q (F0 m pc ls (.ref (gz b sa B v) :: r)) := by
  obtain ⟨⟨t0, ht⟩, -⟩ := aoK_ok (cI := cI) (cR := cR) ha
  exact va_alen hx hb hK.1 hW.2.2.2.2 (v - 2) t0 (hW.ob hv h2) ht rfl hdg kk
theorem h_iast (hx : p.tables.exec = Jvm.exec) (hb : c.code = cc) (hK : Wk D cI cR s) (hW : Wh D cI cR b sa B L xs h H) (hS : va_S (fun q => B ≤ q) s.heap H locs) {v n : Nat} {f : Nat → Int32} {j x : Int32}
    (hv : h[v]? = some (.inl (n, f))) (h0 : 0 ≤ j) (h1 : j.toNatClampNeg < n) (h2 : 2 ≤ v) (hdg : decode cc pc = .ok (.iastore, 1))
    (kk : ∀ (H' : Heap) (locs' : List Loc), Wh D cI cR b sa B L xs (h.set v (.inl (n, upd f j.toNatClampNeg x))) H' → va_S (fun q => B ≤ q) s.heap H' locs' → W p l e R s m args below meth c H' locs' cells slots Q (F0 m (pc + 1) ls r)) :
    W p l e R s m args below meth c H locs cells slots Q (F0 m pc ls (.int x :: .int j :: .ref (gz b sa B v) :: r)) := by
  have hin := in_of h0 h1
  refine W.iast hx hb (hW.2.2.2.2 (v - 2) _ (hW.ob hv h2)) ((hK.1.2 0 (cI, .int) rfl).1 n (fun j => .int (f j))) (fun q => by cases q) (by show ¬ (j < 0 ∨ (arrV _ _ _).slots.size ≤ _); rw [arrV_size]; exact hin) rfl rfl hdg fun H1 e z oq => ?_
  have hat : va_at D cls (gz b sa B v, shE (gz b sa B) cI cR (.inl (n, upd f j.toNatClampNeg x))) H1 := by
    show H1[gz b sa B v]? = some (vp_cell _ _)
    rw [e]
    show some ((vp_cell cI (n, .inl f)).setSlot _ _) = some (vp_cell cI (n, .inl (upd f j.toNatClampNeg x)))
    rw [vp_cell_i, vp_cell_i, arrV_store]
    congr 2
    funext q
    by_cases hq : q = j.toNatClampNeg
    · subst hq
      simp [updV, upd]
    · simp [updV, upd, hq]
  obtain ⟨k1, k2⟩ := hW.put hS (k := j.toNatClampNeg) hv h2 hat z oq
  exact kk H1 _ k1 k2
theorem rf_map (g : Nat → Nat) (o : Option Nat) : va_rf (o.map g) = shV g (va_rf o) := by cases o <;> rfl
theorem h_aald (hx : p.tables.exec = Jvm.exec) (hb : c.code = cc) (hK : Wk D cI cR s) (hW : Wh D cI cR b sa B L xs h H) {v n ci : Nat} {f : Nat → Option Nat} {j : Int32}
    (hv : h[v]? = some (.inr (.inl (ci, n, f)))) (h0 : 0 ≤ j) (h1 : j.toNatClampNeg < n) (h2 : 2 ≤ v) (ha : aoK ci = true) (hdg : decode cc pc = .ok (.aaload, 1))
    (kk : W p l e R s m args below meth c H locs cells slots Q (F0 m (pc + 1) ls (shV (gz b sa B) (va_rf (f j.toNatClampNeg)) :: r))) : W p l e R s m args below meth c H locs cells slots Q (F0 m pc ls (.int j :: .ref (gz b sa B v) :: r)) := by
  obtain ⟨⟨t0, ht⟩, -⟩ := aoK_ok (cI := cI) (cR := cR) ha
  refine va_aldq hx hb hK.1 hW.2.2.2.2 (v - 2) t0 (hW.ob hv h2) ht (in_of h0 h1) hdg ?_
  rw [rf_map]
  exact kk
theorem h_aast (hx : p.tables.exec = Jvm.exec) (hb : c.code = cc) (hK : Wk D cI cR s) (hW : Wh D cI cR b sa B L xs h H) (hS : va_S (fun q => B ≤ q) s.heap H locs) {v w n ci : Nat} {f : Nat → Option Nat} {fs : List Value} {j : Int32}
    (hv : h[v]? = some (.inr (.inl (ci, n, f)))) (hw : h[w]? = some (.inr (.inr (ci, fs)))) (h0 : 0 ≤ j) (h1 : j.toNatClampNeg < n) (h2 : 2 ≤ v) (h3 : 2 ≤ w) (ha : aoK ci = true) (hdg : decode cc pc = .ok (.aastore, 1))
    (kk : ∀ (H' : Heap) (locs' : List Loc), Wh D cI cR b sa B L xs (h.set v (.inr (.inl (ci, n, va_up f j.toNatClampNeg (some w))))) H' → va_S (fun q => B ≤ q) s.heap H' locs' → W p l e R s m args below meth c H' locs' cells slots Q (F0 m (pc + 1) ls r)) :
    W p l e R s m args below meth c H locs cells slots Q (F0 m pc ls (.ref (gz b sa B w) :: .int j :: .ref (gz b sa B v) :: r)) := by
  obtain ⟨⟨t0, ht⟩, -⟩ := aoK_ok (cI := cI) (cR := cR) ha
  obtain ⟨q, hq, cellV, g1, g2, g3, -⟩ := hW.2.2.2.2 (w - 2) _ (hW.ob hw h3)
  have hcls := (hK.1.1 ci q hq).2
  rw [cnN_of hq] at ht
  obtain ⟨kA, comp, k1, k2, k3, -⟩ := (hK.1.2 t0 _ ht).2
  have hcomp : comp = D.1 ci := Option.some.inj (k3.symm.trans hcls.1)
  subst hcomp
  obtain ⟨kC, hkC, -⟩ := hcls.2
  refine W.aast hx hb (hW.2.2.2.2 (v - 2) _ (hW.ob hv h2)) (fun q h => by cases h) (fun h => by cases h) k1 k2 rfl hkC ⟨Int32.not_lt.mpr h0, by show _ < (arrV _ _ _).slots.size; rw [arrV_size]; exact h1⟩ g1 (fun q h => by rw [g3] at h; cases h) (by rw [g2]; exact hkC) (by rw [g2]; exact va_assign hcls) rfl rfl hdg fun H1 e z oq => ?_
  have hat : va_at D cls (gz b sa B v, shE (gz b sa B) cI cR (.inr (.inl (ci, n, va_up f j.toNatClampNeg (some w))))) H1 := by
    show H1[gz b sa B v]? = some (vp_cell _ _)
    rw [e]
    show some ((vp_cell (cR ci) (n, .inr (.inr (.inr (.inr (fun j => (f j).map (gz b sa B))))))).setSlot _ _) = some (vp_cell (cR ci) (n, .inr (.inr (.inr (.inr (fun i => (va_up f j.toNatClampNeg (some w) i).map (gz b sa B)))))))
    rw [vp_cell_q, vp_cell_q, arrV_store]
    congr 2
    funext q
    by_cases hq : q = j.toNatClampNeg
    · subst hq
      simp [updV, va_up, va_rf]
    · simp [updV, va_up, hq]
  obtain ⟨x1, x2⟩ := hW.put hS (k := j.toNatClampNeg) hv h2 hat z oq
  exact kk H1 _ x1 x2
theorem h_newa (hx : p.tables.exec = Jvm.exec) (hb : c.code = cc) (hts : ∀ w ∈ uw, w.before args s = true) (hK : Wk D cI cR s) (hW : Wh D cI cR b sa B L xs h H) (hS : va_S (fun q => B ≤ q) s.heap H locs) {n : Int32}
    (h0 : 0 ≤ n) (h1 : n.toNatClampNeg ≤ 100000) (hc : cells + 1 ≤ R.cells) (hs : slots + n.toNatClampNeg ≤ R.slots) (hdg : decode cc pc = .ok (.newarray .int, 2))
    (kk : ∀ H' : Heap, Wh D cI cR b sa B L xs (h ++ [.inl (n.toNatClampNeg, fun _ => 0)]) H' → va_S (fun q => B ≤ q) s.heap H' locs → W p l e R s m args below meth c H' locs (cells + 1) (slots + n.toNatClampNeg) Q (F0 m (pc + 2) ls (.ref (gz b sa B h.length) :: r))) :
    W p l e R s m args below meth c H locs cells slots Q (F0 m pc ls (.int n :: r)) := by
  refine va_newaK (atype := .int) hx hb (hts _ (inT_ok arr_ok)) rfl hdg rfl (Int32.not_lt.mpr h0) rfl (by show n.toNatClampNeg * 4 ≤ _; omega) hc hs rfl fun H1 cA e1 z1 o1 hAr hNm => ?_
  have hcA : cA = cI := Option.some.inj (hNm.symm.trans (hK.1.2 0 (cI, .int) rfl).2)
  subst hcA
  obtain ⟨x1, x2, x3⟩ := hW.push hS (x := .inl (n.toNatClampNeg, fun _ => 0)) (H' := H1) e1 z1 o1
  have := kk H1 x1 x2
  rw [x3] at this
  exact this
theorem h_anew (hx : p.tables.exec = Jvm.exec) (hb : c.code = cc) (hown : s.vm.findClass (cnN cn) = some m.cls) (hts : ∀ w ∈ uw, w.before args s = true) (hK : Wk D cI cR s) (hW : Wh D cI cR b sa B L xs h H) (hS : va_S (fun q => B ≤ q) s.heap H locs) {n : Int32} {ix ci : Nat}
    (hf : clF cn ix = some ci) (ha : aoK ci = true) (h0 : 0 ≤ n) (h1 : n.toNatClampNeg ≤ 100000) (hc : cells + 1 ≤ R.cells) (hs : slots + n.toNatClampNeg ≤ R.slots) (hdg : decode cc pc = .ok (.anewarray ix, 3))
    (kk : ∀ H' : Heap, Wh D cI cR b sa B L xs (h ++ [.inr (.inl (ci, n.toNatClampNeg, fun _ => none))]) H' → va_S (fun q => B ≤ q) s.heap H' locs → W p l e R s m args below meth c H' locs (cells + 1) (slots + n.toNatClampNeg) Q (F0 m (pc + 3) ls (.ref (gz b sa B h.length) :: r))) :
    W p l e R s m args below meth c H locs cells slots Q (F0 m pc ls (.int n :: r)) := by
  obtain ⟨⟨t0, ht⟩, q, hq, hqc⟩ := aoK_ok (cI := cI) (cR := cR) ha
  have hover := hK.2.2 q hq
  rw [hqc] at hover
  obtain ⟨kA', comp', a1, a2, a3, a4⟩ := (hK.1.2 t0 _ ht).2
  refine W.anew hx hb hown (hts _ (clF_ok hf)) hover.use rfl hdg rfl (Int32.not_lt.mpr h0) (by omega) hc hs fun cA kA comp g1 g2 g3 g4 => ?_
  have hcA : cA = cR ci := Option.some.inj (g1.symm.trans a4)
  subst hcA
  have hat : va_at D cls (H.size, shE (gz b sa B) cI cR (.inr (.inl (ci, n.toNatClampNeg, fun _ => none)))) (H.push { cls := cR ci, slots := Array.replicate n.toNatClampNeg .null, vm := .none }) := by
    show (H.push _)[H.size]? = some (vp_cell (cR ci) (n.toNatClampNeg, .inr (.inr (.inr (.inr (fun _ => none))))))
    rw [vp_cell_q, arrV_new]
    simp
    rfl
  obtain ⟨x1, x2, x3⟩ := hW.push hS hat (by simp) (fun q hq => by rw [Array.getElem?_push, if_neg (Nat.ne_of_lt hq)])
  have := kk _ x1 x2
  rw [x3] at this
  exact this
theorem h_new (hx : p.tables.exec = Jvm.exec) (hb : c.code = cc) (hown : s.vm.findClass (cnN cn) = some m.cls) (hts : ∀ w ∈ uw, w.before args s = true) (hK : Wk D cI cR s) (hW : Wh D cI cR b sa B L xs h H) (hS : va_S (fun q => B ≤ q) s.heap H locs) {ix ci : Nat} {q : vw_C} {fs : List Value}
    (hf : clF cn ix = some ci) (hq : cls[ci]? = some q) (hfs : dfL[ci]? = some fs) (hfr : ∀ v ∈ fs, shV (gz b sa B) v = v) (hc : cells + 1 ≤ R.cells) (hs : slots + q.2.2 ≤ R.slots) (hdg : decode cc pc = .ok (.new ix, 3))
    (kk : ∀ H' : Heap, Wh D cI cR b sa B L xs (h ++ [.inr (.inr (ci, fs))]) H' → va_S (fun q => B ≤ q) s.heap H' locs → W p l e R s m args below meth c H' locs (cells + 1) (slots + q.2.2) Q (F0 m (pc + 3) ls (.ref (gz b sa B h.length) :: r))) :
    W p l e R s m args below meth c H locs cells slots Q (F0 m pc ls r) := by
  obtain ⟨-, hin, hinst, hini, -, -, t, fs', ht, hfs', -, hty, hdv⟩ := cls_ok hq
  cases hfs.symm.trans hfs'
  have hKn := hK.1.1 ci _ hq
  have hcl := clF_ok hf
  rw [cnN_of hq] at hcl
  refine W.newcK hx hb hown (hts _ hcl) (hts _ hinst) (hts _ hini) rfl hdg hc hs hKn.2.1 rfl fun H1 kC hkC e1 z1 o1 => ?_
  have hmap : fs.map (shV (gz b sa B)) = fs := by
    conv => rhs; rw [← List.map_id fs]
    exact List.map_congr_left hfr
  have hat : va_at D cls (H.size, shE (gz b sa B) cI cR (.inr (.inr (ci, fs)))) H1 := by
    refine ⟨_, hq, ?_⟩
    show t_OB H.size (D.1 ci) q.2.2 (D.2 ci) H1 (vp_V (fs.map (shV (gz b sa B))))
    rw [hmap]
    exact (u_born t hts hin hKn hkC e1 hty).to hdv
  obtain ⟨x1, x2, x3⟩ := hW.push hS hat z1 o1
  have := kk _ x1 x2
  rw [x3] at this
  exact this
theorem h_cpy (hx : p.tables.exec = Jvm.exec) (hb : c.code = cc) (hml : c.maxLocals = ls.size) (hown : s.vm.findClass (cnN cn) = some m.cls) (hts : ∀ w ∈ uw, w.before args s = true) (hK : Wk D cI cR s) (hW : Wh D cI cR b sa B L xs h H) (hS : va_S (fun q => B ≤ q) s.heap H locs) {ix v w n0 n1 : Nat} {f g : Nat → Int32} {sp dp n : Int32}
    (hf : acF cn ix = true) (hv : h[v]? = some (.inl (n0, f))) (hw : h[w]? = some (.inl (n1, g))) (h2 : 2 ≤ v) (h3 : 2 ≤ w) (h4 : 0 ≤ sp) (h5 : 0 ≤ dp) (h6 : 0 ≤ n) (h7 : sp.toNatClampNeg + n.toNatClampNeg ≤ n0) (h8 : dp.toNatClampNeg + n.toNatClampNeg ≤ n1)
    (hfr : 1 ≤ R.frames) (hlo : 40 ≤ R.locals) (hr8 : (r.map fun v => v.category).sum ≤ 8) (hdg : decode cc pc = .ok (.invokestatic ix, 3))
    (kk : ∀ (H' : Heap) (locs' : List Loc), Wh D cI cR b sa B L xs (h.set w (.inl (n1, va_cpy f g sp.toNatClampNeg dp.toNatClampNeg n.toNatClampNeg))) H' → va_S (fun q => B ≤ q) s.heap H' locs' → W p l e R s m args below meth c H' locs' cells slots Q (F0 m (pc + 3) ls r)) :
    W p l e R s m args below meth c H locs cells slots Q (F0 m pc ls (.int n :: .int dp :: .ref (gz b sa B w) :: .int sp :: .ref (gz b sa B v) :: r)) := by
  have nn : ∀ z : Int32, 0 ≤ z → z.toInt = (z.toNatClampNeg : Int) := by
    intro z hz
    have hz0 : (0 : Int) ≤ z.toInt := by simpa using Int32.le_iff_toInt_le.mp hz
    show z.toInt = ((z.toInt.toNat : Nat) : Int)
    omega
  have hnw : nativeFrameWords "java/lang/System" "arraycopy" 5 + 11 ≤ 32 := by decide +kernel
  intro T hT X
  have hc0 : H[gz b sa B v]? = some (vp_cell cI (n0, .inl f)) := hW.2.2.2.2 (v - 2) _ (hW.ob hv h2)
  have hc1 : H[gz b sa B w]? = some (vp_cell cI (n1, .inl g)) := hW.2.2.2.2 (w - 2) _ (hW.ob hw h3)
  obtain ⟨-, k0, hk0, cm0, hkk0⟩ := (hK.1.2 0 (cI, .int) rfl).1 n0 (fun j => .int (f j))
  obtain ⟨-, k1, hk1, cm1, hkk1⟩ := (hK.1.2 0 (cI, .int) rfl).1 n1 (fun j => .int (g j))
  obtain ⟨vm', X', step⟩ := X.arraycopy hx hown (hts _ (acF_ok hf)) (hts _ (inT_ok acp_ok.1)) (hts _ (inT_ok acp_ok.2.1)) (hts _ (inT_ok acp_ok.2.2)) (src := gz b sa B v) (dst := gz b sa B w) (cs := vp_cell cI (n0, .inl f)) (cd := vp_cell cI (n1, .inl g)) (srcPos := sp) (destPos := dp) (n := n) (by rw [hT]; exact hc0) (by rw [hT]; exact hc1)
    (fun _ h => by cases h) (fun _ h => by cases h) (fun h => by cases h) (fun h => by cases h) hk0 hk1 hkk0 hkk1 (by simp [refKind]) (Int32.not_lt.mpr h4) (Int32.not_lt.mpr h5) (Int32.not_lt.mpr h6)
    (by rw [nn sp h4, nn n h6]; show ¬ _ > ((arrV cI n0 (fun j => .int (f j))).slots.size : Int); rw [arrV_size]; omega)
    (by rw [nn dp h5, nn n h6]; show ¬ _ > ((arrV cI n1 (fun j => .int (g j))).slots.size : Int); rw [arrV_size]; omega)
    (fun vm₁ _ i hi => by
      have e : (vp_cell cI (n0, .inl f)).slots.getD (sp.toNatClampNeg + i) .null = .int (f (sp.toNatClampNeg + i)) := by
        show (arrV cI n0 (fun j => .int (f j))).slots.getD _ _ = _
        rw [Array.getD_eq_getD_getElem?, arrV_read _ _ (by omega)]
        rfl
      refine ⟨?_, ?_⟩
      · rw [e]
        rfl
      · rw [e]
        exact trivial)
    (g := F0 m pc ls (.int n :: .int dp :: .ref (gz b sa B w) :: .int sp :: .ref (gz b sa B v) :: r)) rfl (by rw [hml]) (rest := r) rfl (by rw [hb]; exact hdg) hfr (by show 2 * 0 + _ + _ ≤ _; omega)
  have e1 : copied (vp_cell cI (n0, .inl f)) (vp_cell cI (n1, .inl g)) sp dp n = vp_cell cI (n1, .inl (va_cpy f g sp.toNatClampNeg dp.toNatClampNeg n.toNatClampNeg)) := va_copied (fun z => .int z) cI cI f g h7
  rw [e1] at X' step
  have hl : gz b sa B w < H.size := (Array.getElem?_eq_some_iff.mp hc1).1
  have hheap : ((T.setVm vm').setCell (gz b sa B w) (vp_cell cI (n1, .inl (va_cpy f g sp.toNatClampNeg dp.toNatClampNeg n.toNatClampNeg)))).heap = H.setIfInBounds (gz b sa B w) (vp_cell cI (n1, .inl (va_cpy f g sp.toNatClampNeg dp.toNatClampNeg n.toNatClampNeg))) := by rw [← hT]; rfl
  have oq : ∀ q : Nat, q ≠ gz b sa B w → (H.setIfInBounds (gz b sa B w) (vp_cell cI (n1, .inl (va_cpy f g sp.toNatClampNeg dp.toNatClampNeg n.toNatClampNeg))))[q]? = H[q]? := fun q hq => by simp [Array.getElem?_setIfInBounds, Ne.symm hq]
  have hat : va_at D cls (gz b sa B w, shE (gz b sa B) cI cR (.inl (n1, va_cpy f g sp.toNatClampNeg dp.toNatClampNeg n.toNatClampNeg))) (H.setIfInBounds (gz b sa B w) (vp_cell cI (n1, .inl (va_cpy f g sp.toNatClampNeg dp.toNatClampNeg n.toNatClampNeg)))) := by
    show (H.setIfInBounds (gz b sa B w) _)[gz b sa B w]? = some _
    simp [Array.getElem?_setIfInBounds, hl]
  obtain ⟨x1, x2⟩ := hW.put hS (k := 0) hw h3 hat (by simp) oq
  obtain ⟨t, a1, b1⟩ := kk _ _ x1 ⟨x2.1, x2.2.1, fun q hq => by
      rcases List.mem_append.mp hq with h | h
      · exact hS.2.2 q h
      · obtain ⟨z, -, hz⟩ := List.mem_map.mp h
        rw [← hz]
        show B ≤ gz b sa B w
        rw [gz_ge h3]; omega⟩ _ hheap X'
  exact ⟨t, step t a1, b1⟩
end HQ

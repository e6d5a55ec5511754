/-! ===== the pure machine's cells in the real heap ===== -/
def gz (b sa B : Nat) (v : Nat) : Nat := if v = 0 then b else if v = 1 then sa else B + (v - 2)
theorem gz_ge {b sa B v : Nat} (h : 2 ≤ v) : gz b sa B v = B + (v - 2) := by
  unfold gz
  rw [if_neg (by omega), if_neg (by omega)]
def shE (g : Nat → Nat) (cI : ClassId) (cR : Nat → ClassId) : PE → va_E
  | .inl q => .inl (cI, q.1, .inl q.2)
  | .inr (.inl q) => .inl (cR q.1, q.2.1, .inr (.inr (.inr (.inr (fun j => (q.2.2 j).map g)))))
  | .inr (.inr q) => .inr (q.1, q.2.map (shV g))
def wz (g : Nat → Nat) (cI : ClassId) (cR : Nat → ClassId) (B : Nat) : Nat → PH → va_W
  | _, [] => []
  | k, e :: t => (B + k, shE g cI cR e) :: wz g cI cR B (k + 1) t
theorem wz_get (g : Nat → Nat) (cI : ClassId) (cR : Nat → ClassId) (B : Nat) : ∀ (h : PH) (k j : Nat), (wz g cI cR B k h)[j]? = (h[j]?).map (fun e => (B + (k + j), shE g cI cR e))
  | [], _, _ => by simp [wz]
  | e :: t, k, 0 => by simp [wz]
  | e :: t, k, j + 1 => by
    rw [wz, List.getElem?_cons_succ, List.getElem?_cons_succ, wz_get g cI cR B t (k + 1) j]
    congr 1
    funext e
    rw [show k + 1 + j = k + (j + 1) by omega]
theorem wz_set (g : Nat → Nat) (cI : ClassId) (cR : Nat → ClassId) (B : Nat) : ∀ (h : PH) (k j : Nat) (e : PE), (wz g cI cR B k h).set j (B + (k + j), shE g cI cR e) = wz g cI cR B k (h.set j e)
  | [], _, _, _ => by simp [wz]
  | x :: t, k, 0, e => by simp [wz]
  | x :: t, k, j + 1, e => by
    rw [List.set_cons_succ, wz, wz, List.set_cons_succ, show k + (j + 1) = k + 1 + j by omega, wz_set g cI cR B t (k + 1) j e]
theorem wz_app (g : Nat → Nat) (cI : ClassId) (cR : Nat → ClassId) (B : Nat) : ∀ (h : PH) (k : Nat) (e : PE), wz g cI cR B k (h ++ [e]) = wz g cI cR B k h ++ [(B + (k + h.length), shE g cI cR e)]
  | [], _, _ => by simp [wz]
  | x :: t, k, e => by
    rw [List.cons_append, wz, wz, List.cons_append, wz_app g cI cR B t (k + 1) e, List.length_cons, show k + 1 + t.length = k + (t.length + 1) by omega]
theorem wz_D (g : Nat → Nat) (cI : ClassId) (cR : Nat → ClassId) (B : Nat) (h : PH) : va_D (fun q => B ≤ q) (wz g cI cR B 0 h) := by
  refine ⟨fun i j p q hi hj e => ?_, fun k q hk => ?_⟩
  · rw [wz_get] at hi hj
    obtain ⟨a, -, rfl⟩ := Option.map_eq_some_iff.mp hi
    obtain ⟨b, -, rfl⟩ := Option.map_eq_some_iff.mp hj
    dsimp only at e
    omega
  · rw [wz_get] at hk
    obtain ⟨a, -, rfl⟩ := Option.map_eq_some_iff.mp hk
    exact Nat.le_add_right _ _
def tbV : Nat → Int32 := fun j => ([20, 40, 60, 80, 100] : List Int32).getD j 0
/-- the heap: two arrays that nobody writes (the script, the static one), then what was made, from B on -/
def Wh (D : va_G) (cI : ClassId) (cR : Nat → ClassId) (b sa B L : Nat) (xs : Nat → Int32) (h : PH) (H : Heap) : Prop :=
  2 ≤ h.length ∧ h[0]? = some (.inl (L, xs)) ∧ h[1]? = some (.inl (5, tbV)) ∧ H.size = B + (h.length - 2) ∧ va_P D cls (wz (gz b sa B) cI cR B 0 (h.drop 2)) H
def tysW (cI : ClassId) (cR : Nat → ClassId) : List (ClassId × FieldType) := (cI, .int) :: aoP.map (fun q => (cR q.1, .object (cnN q.1)))
def mYk (k : Nat) : MethodName := match mT[k]? with
  | some M => M.1
  | none => ⟨"", "", ""⟩
/-- the tables' words that a method needs beside uw -/
def Wk (D : va_G) (cI : ClassId) (cR : Nat → ClassId) (U : State) : Prop :=
  va_K D cls (tysW cI cR) U ∧ (∀ q ∈ nlT, va_Nw (.methodLinkNest (cnN q.1) q.2.1 (mYk q.2.2.1) "ConnectionFamily") U) ∧ ∀ q ∈ aoP, va_AO (cnN q.1) U
/-- the two arrays -/
def We (b sa B L : Nat) (xs : Nat → Int32) (U : State) (H : Heap) : Prop :=
  b < B ∧ sa < B ∧ B ≤ H.size ∧ va_X b L xs U H ∧ va_Z "ConnectionFamily" "TRIAL_BUDGETS" "[I" (.ref sa) (fun q => B ≤ q) U H ∧ va_T .int sa 5 (fun j => .int (tbV j)) (fun q => B ≤ q) U H
theorem Wk.moved {D : va_G} {cI : ClassId} {cR : Nat → ClassId} {s U : State} (hW : s.WarmedH U.vm) (h : Wk D cI cR s) : Wk D cI cR U :=
  ⟨va_K.moved hW.alike h.1, fun q hq => (h.2.1 q hq).warmM hW, fun q hq => (h.2.2 q hq).moved hW.alike⟩
theorem We.moved {b sa B L : Nat} {xs : Nat → Int32} {s U : State} {H : Heap} {locs : List Loc} (hvm : s.vm.Alike U.vm) (hS : va_S (fun q => B ≤ q) s.heap H locs) (h : We b sa B L xs s s.heap) : We b sa B L xs U H := by
  obtain ⟨h1, h2, h3, h4, h5, h6⟩ := h
  have hk : ∀ a : Nat, a < s.heap.size → ¬ B ≤ a → H[a]? = s.heap[a]? := fun a ha hb => hS.2.1 a ha hb
  exact ⟨h1, h2, Nat.le_trans h3 hS.1, (h4.moved hvm).kept (hk b (by omega) (by omega)), (h5.moved hvm).kept hk, (h6.moved hvm).kept hk⟩
section HP
variable {p : Program} {l : Launch} {e : Env} {R : Room} {s : State} {m : MethodId} {args : Array Value} {below : List Frame} {meth : Method} {c : Code} {H : Heap} {locs : List Loc} {Q : State → Prop}
variable {cc : ByteArray} {pc pc' len cn d nc ns nc' ns' : Nat} {ini : Bool} {ls : Array Slot} {st st' : List Value} {h h' : PH} {i : Instr}
variable {D : va_G} {cI : ClassId} {cR : Nat → ClassId} {b sa B L : Nat} {xs : Nat → Int32}
theorem Wh.ob (hW : Wh D cI cR b sa B L xs h H) {v : Nat} {e : PE} (hv : h[v]? = some e) (h2 : 2 ≤ v) : (wz (gz b sa B) cI cR B 0 (h.drop 2))[v - 2]? = some (gz b sa B v, shE (gz b sa B) cI cR e) := by
  rw [wz_get, List.getElem?_drop, show 2 + (v - 2) = v by omega, hv, gz_ge h2, Nat.zero_add]
  rfl
theorem Wh.put (hW : Wh D cI cR b sa B L xs h H) (hS : va_S (fun q => B ≤ q) s.heap H locs) {v k : Nat} {e0 x : PE} {H' : Heap} (hv : h[v]? = some e0) (h2 : 2 ≤ v) (hat : va_at D cls (gz b sa B v, shE (gz b sa B) cI cR x) H') (hz : H'.size = H.size) (oq : ∀ q : Nat, q ≠ gz b sa B v → H'[q]? = H[q]?) :
    Wh D cI cR b sa B L xs (h.set v x) H' ∧ va_S (fun q => B ≤ q) s.heap H' (locs ++ [⟨gz b sa B v, k⟩]) := by
  have hP := va_P.set hW.2.2.2.2 (wz_D _ _ _ _ _) (hW.ob hv h2) hat oq
  have hB : B ≤ gz b sa B v := by rw [gz_ge h2]; omega
  refine ⟨?_, hS.put hz oq hB⟩
  obtain ⟨a1, a2, a3, a4, a5⟩ := hW
  refine ⟨by rw [List.length_set]; exact a1, ?_, ?_, by rw [List.length_set, hz]; exact a4, ?_⟩
  · rw [List.getElem?_set_ne (by omega)]; exact a2
  · rw [List.getElem?_set_ne (by omega)]; exact a3
  · have e1 : gz b sa B v = B + (0 + (v - 2)) := by rw [gz_ge h2]; omega
    rw [e1, wz_set] at hP
    rw [List.drop_set, if_neg (by omega)]
    exact hP
theorem Wh.push (hW : Wh D cI cR b sa B L xs h H) (hS : va_S (fun q => B ≤ q) s.heap H locs) {x : PE} {H' : Heap} (hat : va_at D cls (H.size, shE (gz b sa B) cI cR x) H') (hz : H'.size = H.size + 1) (oq : ∀ q : Nat, q < H.size → H'[q]? = H[q]?) :
    Wh D cI cR b sa B L xs (h ++ [x]) H' ∧ va_S (fun q => B ≤ q) s.heap H' locs ∧ gz b sa B h.length = H.size := by
  obtain ⟨a1, a2, a3, a4, a5⟩ := hW
  have hg : gz b sa B h.length = H.size := by rw [gz_ge a1, a4]
  refine ⟨⟨by simp; omega, ?_, ?_, by rw [hz, a4]; simp; omega, ?_⟩, ⟨Nat.le_trans hS.1 (by omega), fun q h1 h2 => (oq q (Nat.lt_of_lt_of_le h1 hS.1)).trans (hS.2.1 q h1 h2), hS.2.2⟩, hg⟩
  · rw [List.getElem?_append_left (by omega)]; exact a2
  · rw [List.getElem?_append_left (by omega)]; exact a3
  · rw [List.drop_append_of_le_length a1, wz_app]
    refine va_P.app (a5.kept fun k q hk => oq q.1 (a5 k q hk).lt) (fun k q hk => ?_)
    have hk0 : k < 1 := (List.getElem?_eq_some_iff.mp hk).1
    rw [show k = 0 by omega] at hk
    cases hk
    rw [List.length_drop, Nat.zero_add, ← a4]
    exact hat
/-- a field is read -/
theorem h_get (hx : p.tables.exec = Jvm.exec) (hb : c.code = cc) (hown : s.vm.findClass (cnN cn) = some m.cls) (hts : ∀ w ∈ uw, w.before args s = true) (hK : Wk D cI cR s) (hW : Wh D cI cR b sa B L xs h H) {ix ci k v : Nat} {fs : List Value} {x : Value} {r : List Value}
    (hf : flF cn ix = some (ci, k)) (hv : h[v]? = some (.inr (.inr (ci, fs)))) (h2 : 2 ≤ v) (hk : fs[k]? = some x) {cells slots : Nat} (hdg : decode cc pc = .ok (.getfield ix, 3))
    (kk : W p l e R s m args below meth c H locs cells slots Q (F0 m (pc + 3) ls (shV (gz b sa B) x :: r))) : W p l e R s m args below meth c H locs cells slots Q (F0 m pc ls (.ref (gz b sa B v) :: r)) := by
  obtain ⟨q, hq, hkq, hw⟩ := flF_ok hf
  obtain ⟨-, hin, -⟩ := cls_ok hq
  exact va_get (D := D) (C := q.1) (T := q.2.1) (N := q.2.2) hx hb hts hin hown hK.1 hW.2.2.2.2 (v - 2) (hW.ob hv h2) hq k hkq (hts _ hw) (fun _ z => z) (v := shV (gz b sa B) x) (by rw [List.getElem?_map, hk]; rfl) hdg kk
theorem fit_sh {g : Nat → Nat} {ty : FieldType} {x : Value} (h : fitV ty x = true) : narrow ty (shV g x) = shV g x ∧ fits ty (shV g x) = true := by
  unfold fitV at h
  rw [Bool.and_eq_true, decide_eq_true_eq] at h
  obtain ⟨h1, h2⟩ := h
  cases x <;> first | exact ⟨h1, h2⟩ | (refine ⟨by cases ty <;> rfl, ?_⟩; cases ty <;> first | exact h2 | (simp [fits] at h2 ⊢; done))
/-- a field is written -/
theorem h_put (hx : p.tables.exec = Jvm.exec) (hb : c.code = cc) (hown : s.vm.findClass (cnN cn) = some m.cls) (hts : ∀ w ∈ uw, w.before args s = true) (hK : Wk D cI cR s) (hW : Wh D cI cR b sa B L xs h H) (hS : va_S (fun q => B ≤ q) s.heap H locs) (hini : ini = true → meth.name = "<init>") {ix ci k v : Nat} {fs : List Value} {x : Value} {r : List Value} {q : vw_C} {t : Nat → FieldType}
    (hf : flF cn ix = some (ci, k)) (hv : h[v]? = some (.inr (.inr (ci, fs)))) (hq : cls[ci]? = some q) (ht : tyL[ci]? = some t) (h2 : 2 ≤ v) (hl : k < fs.length) (hkq : k < q.2.2) (hfit : fitV (t k) x = true) (hfin : (q.2.1 k).2.2.2 = true → ini = true ∧ ci = cn) {cells slots : Nat} (hdg : decode cc pc = .ok (.putfield ix, 3))
    (kk : ∀ (H' : Heap) (locs' : List Loc), Wh D cI cR b sa B L xs (h.set v (.inr (.inr (ci, fs.set k x)))) H' → va_S (fun q => B ≤ q) s.heap H' locs' → W p l e R s m args below meth c H' locs' cells slots Q (F0 m (pc + 3) ls r)) : W p l e R s m args below meth c H locs cells slots Q (F0 m pc ls (shV (gz b sa B) x :: .ref (gz b sa B v) :: r)) := by
  obtain ⟨q', hq', -, hw⟩ := flF_ok hf
  cases hq.symm.trans hq'
  obtain ⟨hcn, hin, -, -, hdecl, hnm, t', fs0, ht', -, -, hty, -⟩ := cls_ok hq
  cases ht.symm.trans ht'
  obtain ⟨hn, hft⟩ := fit_sh (g := gz b sa B) hfit
  have hap := va_apart (own := q.1) hts hin t hty hnm hK.1 hq
  obtain ⟨r0, h1, cell, q1, q2, q3, q4⟩ := hW.2.2.2.2 _ _ (hW.ob hv h2)
  have hr : r0 = q := Option.some.inj (h1.symm.trans hq)
  subst hr
  obtain ⟨hSl, hfc, kC, hkC, hkind⟩ := hK.1.1 ci _ hq
  obtain ⟨cf, kf, fi, f, hi, hsl⟩ := hSl k hkq
  have hlay := hts _ (hin _ (u_in_lay hkq))
  have hst := (u_facts hfc hkC (u_lays hts hin hkq) hi).1
  have hend : ∀ H' : Heap, H'[gz b sa B v]? = some (cell.setSlot f.slot (shV (gz b sa B) x)) → H'.size = H.size → (∀ z, z ≠ gz b sa B v → H'[z]? = H[z]?) → W p l e R s m args below meth c H' (locs ++ [⟨gz b sa B v, f.slot⟩]) cells slots Q (F0 m (pc + 3) ls r) := by
    intro H' e1 e2 e3
    rw [hsl] at e1
    have hat : va_at D cls (gz b sa B v, shE (gz b sa B) cI cR (.inr (.inr (ci, fs.set k x)))) H' := by
      refine ⟨_, hq, t_OB.to (V := updV (vp_V (fs.map (shV (gz b sa B)))) k (shV (gz b sa B) x)) ⟨_, e1, q2, q3, t_set q4 hap hkq _⟩ (fun j _ => ?_)⟩
      rw [vp_updV_set (by rw [List.length_map]; exact hl)]
      show _ = vp_V ((fs.set k x).map _) j
      rw [List.map_set]
    obtain ⟨w1, w2⟩ := hW.put hS (k := f.slot) hv h2 hat e2 e3
    exact kk H' _ w1 w2
  by_cases hfi : (r0.2.1 k).2.2.2 = true
  · obtain ⟨z1, z2⟩ := hfin hfi
    unfold u_lay at hlay
    rw [if_pos hfi] at hlay
    have hcf : m.cls = cf := by
      obtain ⟨_, _, c', _, _, _, -, -, hf', -, -, -, hown2, -⟩ := Cond.laysFinal_spec hlay
      have e1 : c' = cf := by have := hi.symm.trans hf'; simp at this; exact this.1.symm
      have e2 : cnN cn = r0.1 := by rw [← z2]; unfold cnN; rw [List.getD_eq_getElem?_getD, hcn]; rfl
      rw [hdecl k hkq, ← e2] at hown2
      rw [← e1]; exact Option.some.inj (hown.symm.trans hown2)
    have h6 := u_fits hfc hkC hkind (Or.inr hlay) hi (hty k hkq) hn hft
    exact W.putFinK hx hb hown (hts _ hw) hi hst hcf (hini z1) (by rw [q2]; exact h6) q1 q3 (by rw [hsl]; exact k2_hasslot (q4 k hkq)) rfl rfl hdg hend
  · unfold u_lay at hlay
    rw [if_neg hfi] at hlay
    have h6 := u_store hfc hkC hkind hlay hi (hty k hkq) hn hft
    exact W.putK hx hb (f := f) ⟨hown, hts _ hw, ⟨_, _, _, hi⟩, hst⟩ (by rw [q2]; exact h6) q1 q3 (by rw [hsl]; exact k2_hasslot (q4 k hkq)) rfl rfl hdg hend
end HP

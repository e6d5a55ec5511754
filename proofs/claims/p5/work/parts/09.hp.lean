/-! ===== one instruction of the pure machine is one of the real one ===== -/
theorem dfL_ok : dfL.all (fun fs => fs.all (fun v => match v with | .ref _ => false | _ => true)) = true := by decide +kernel
theorem dfL_sh {ci : Nat} {fs : List Value} (h : dfL[ci]? = some fs) (g : Nat → Nat) : ∀ v ∈ fs, shV g v = v := by
  intro v hv
  have h1 := List.all_eq_true.mp (List.all_eq_true.mp dfL_ok fs (List.mem_of_getElem? h)) v hv
  cases v <;> first | rfl | cases h1
section HR
variable {p : Program} {l : Launch} {e : Env} {R : Room} {s : State} {m : MethodId} {args : Array Value} {below : List Frame} {meth : Method} {c : Code} {H : Heap} {locs : List Loc} {Q : State → Prop}
variable {cc : ByteArray} {pc pc' len cn d nc ns nc' ns' : Nat} {ini : Bool} {ls : Array Slot} {st st' : List Value} {h h' : PH} {i : Instr}
variable {D : va_G} {cI : ClassId} {cR : Nat → ClassId} {b sa B L : Nat} {xs : Nat → Int32}
set_option maxHeartbeats 2000000 in
theorem x_hp_ok (hx : p.tables.exec = Jvm.exec) (hb : c.code = cc) (hml : c.maxLocals = ls.size) (hown : s.vm.findClass (cnN cn) = some m.cls) (hts : ∀ w ∈ uw, w.before args s = true) (hini : ini = true → meth.name = "<init>") (hK : Wk D cI cR s) (hE : We b sa B L xs s s.heap)
    (hRf : d ≤ R.frames) (hRl : 40 * d ≤ R.locals) (hRc : nc' ≤ R.cells) (hRs : ns' ≤ R.slots) (hW : Wh D cI cR b sa B L xs h H) (hS : va_S (fun q => B ≤ q) s.heap H locs) (hdg : decode cc pc = .ok (i, len)) (hs : x_hp cn d ini i len pc st h nc ns = some (pc', st', h', nc', ns'))
    (kk : ∀ (H' : Heap) (locs' : List Loc), Wh D cI cR b sa B L xs h' H' → va_S (fun q => B ≤ q) s.heap H' locs' → W p l e R s m args below meth c H' locs' nc' ns' Q (F0 m pc' ls (st'.map (shV (gz b sa B))))) :
    W p l e R s m args below meth c H locs nc ns Q (F0 m pc ls (st.map (shV (gz b sa B)))) := by
  cases i <;> simp only [x_hp, reduceCtorEq] at hs
  case getfield ix =>
    repeat' (first | (cases hs; done) | split at hs)
    rename_i h1 _ v r _ ci k e1 _ cj fs e2 h2 _ x e3
    subst h1
    obtain ⟨rfl, h2⟩ := h2
    cases hs
    exact h_get hx hb hown hts hK hW e1 e2 h2 e3 hdg (kk H locs hW hS)
  case putfield ix =>
    repeat' (first | (cases hs; done) | split at hs)
    rename_i h1 _ x v r _ ci k e1 _ cj fs e2 _ _ q t e3 e4 h2
    subst h1
    obtain ⟨rfl, h2, h3, h4, h5, h6⟩ := h2
    cases hs
    exact h_put hx hb hown hts hK hW hS hini e1 e2 e3 e4 h2 h3 h4 h5 h6 hdg kk
  case iaload =>
    repeat' (first | (cases hs; done) | split at hs)
    rename_i h1 _ j v r _ n f e1 h2
    subst h1
    cases hs
    exact h_iald hx hb hK hE hW hS e1 h2.1 h2.2 hdg (kk H locs hW hS)
  case iastore =>
    repeat' (first | (cases hs; done) | split at hs)
    rename_i h1 _ x j v r _ n f e1 h2
    subst h1
    cases hs
    exact h_iast hx hb hK hW hS e1 h2.1 h2.2.1 h2.2.2 hdg kk
  case aaload =>
    repeat' (first | (cases hs; done) | split at hs)
    rename_i h1 _ j v r _ ci n f e1 h2
    subst h1
    cases hs
    exact h_aald hx hb hK hW e1 h2.1 h2.2.1 h2.2.2.1 h2.2.2.2 hdg (kk H locs hW hS)
  case aastore =>
    repeat' (first | (cases hs; done) | split at hs)
    rename_i h1 _ w j v r _ _ ci n f cj fs e1 e2 h2
    subst h1
    obtain ⟨rfl, h2, h3, h4, h5, h6⟩ := h2
    cases hs
    exact h_aast hx hb hK hW hS e1 e2 h2 h3 h4 h5 h6 hdg kk
  case arraylength =>
    repeat' (first | (cases hs; done) | split at hs)
    · rename_i h1 _ v r _ n f e1
      subst h1
      cases hs
      exact h_alen hx hb hK hE hW hS e1 hdg (kk H locs hW hS)
    · rename_i h1 _ v r _ ci n f e1 h2
      subst h1
      cases hs
      exact h_alenR hx hb hK hW e1 h2.1 h2.2 hdg (kk H locs hW hS)
  case newarray t =>
    repeat' (first | (cases hs; done) | split at hs)
    rename_i h1 _ n r h2
    obtain ⟨rfl, rfl⟩ := h1
    cases hs
    exact h_newa hx hb hts hK hW hS h2.1 h2.2 hRc hRs hdg (fun H' w1 w2 => kk H' locs w1 w2)
  case anewarray ix =>
    repeat' (first | (cases hs; done) | split at hs)
    rename_i h1 _ n r _ ci e1 h2
    subst h1
    cases hs
    exact h_anew hx hb hown hts hK hW hS e1 h2.2.2 h2.1 h2.2.1 hRc hRs hdg (fun H' w1 w2 => kk H' locs w1 w2)
  case new ix =>
    repeat' (first | (cases hs; done) | split at hs)
    rename_i h1 _ ci e1 _ _ q fs e2 e3
    subst h1
    cases hs
    exact h_new hx hb hown hts hK hW hS e1 e2 e3 (dfL_sh e3 _) hRc hRs hdg (fun H' w1 w2 => kk H' locs w1 w2)
  case getstatic ix =>
    repeat' (first | (cases hs; done) | split at hs)
    rename_i h1
    obtain ⟨rfl, h1⟩ := h1
    cases hs
    exact va_gets hx hb hE.2.2.2.2.1 hS hown (hts _ (gsF_ok h1)) (fun _ z => z) hdg (kk H locs hW hS)
  case ldc2_w ix =>
    repeat' (first | (cases hs; done) | split at hs)
    rename_i h1 _ v e1
    subst h1
    cases hs
    exact lv_ldc2 hx hb hown (hts _ (klF_ok e1)) hdg (kk H locs hW hS)
  case invokespecial ix =>
    repeat' (first | (cases hs; done) | split at hs)
    rename_i h1 _ v r h2
    obtain ⟨rfl, h1, h3⟩ := h1
    cases hs
    rw [← catS_sh (gz b sa B)] at h2
    exact W.objInit hx hb hown (hts _ (oiF_ok h1)) (hts _ (inT_ok obj_ok.1)) (hts _ (inT_ok obj_ok.2)) rfl hml.symm rfl hdg (by omega) (by show 2 * 0 + _ + 12 ≤ _; omega) (kk H locs hW hS)
  case invokestatic ix =>
    repeat' (first | (cases hs; done) | split at hs)
    rename_i h1 _ n dp w sp v r _ _ n0 f n1 g e1 e2 h2
    obtain ⟨rfl, h1, h3⟩ := h1
    obtain ⟨a1, a2, a3, a4, a5, a6, a7, a8⟩ := h2
    cases hs
    rw [← catS_sh (gz b sa B)] at a8
    exact h_cpy hx hb hml hown hts hK hW hS h1 e1 e2 a1 a2 a3 a4 a5 a6 a7 (by omega) (by omega) a8 hdg kk
end HR

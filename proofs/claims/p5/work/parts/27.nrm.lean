/-! ===== the decoded code against the bytes ===== -/
noncomputable def codeOf (mi : Nat) : List CE := (tget CM 8 mi mTab).1
def jB (code : List CE) (b pc : Nat) (o : Int) : Bool := match tg pc o with
  | some t => (match code[b]? with
    | some e => Nat.beq e.1 t
    | none => false)
  | none => false
def kindT (t : FieldType) : Nat := match t with
  | .int => 0
  | .boolean => 1
  | .long => 2
  | .object _ => 3
  | .array _ => 3
  | _ => 9
def retT (r : Option FieldType) : Nat := match r with
  | none => 0
  | some .int => 1
  | some .boolean => 2
  | some .long => 3
  | some (.object _) => 4
  | _ => 9
def putB (M : MR) (a b x : Nat) : Bool := match cls[a]?, tyL[a]? with
  | some q, some t => Nat.blt b q.2.2 && Nat.beq (kindT (t b)) x && (!(q.2.1 b).2.2.2 || (Nat.beq (mK M) 2 && Nat.beq a (mO M)))
  | _, _ => false
def swB (code : List CE) (pc : Nat) (df lo hi : Int) (offs : Array Int) (a : Nat) (ts : List Nat) : Bool := match ts with
  | [] => false
  | d :: r => jB code d pc df && Nat.blt a oM && decide ((a : Int) - 2147483648 = lo) && decide (hi = lo + r.length - 1) && Nat.beq r.length offs.size && Nat.ble r.length 60 && Nat.blt (a + 64) oM && (List.range r.length).all (fun j => match r[j]?, offs[j]? with
    | some b, some o => jB code b pc o
    | _, _ => false)
/-- a row of the decoded code says what the instruction is -/
def nrm (M : MR) (code : List CE) (e : CE) (i : Instr) : Bool :=
  let t := e.2.1
  let a := e.2.2.1
  let b := e.2.2.2.1
  let x := e.2.2.2.2.1
  let len := e.2.2.2.2.2.1
  match i with
  | .iconst v => decide (t = .iconst v) && decide (oI a = Int32.ofInt v) && Nat.beq len 1
  | .bipush v => decide (t = .iconst v) && decide (oI a = (Int8.ofInt v).toInt32) && Nat.beq len 2
  | .sipush v => decide (t = .iconst v) && decide (oI a = (Int16.ofInt v).toInt32) && Nat.beq len 3
  | .lconst n => decide (t = .lconst n) && decide (oL a = Int64.ofNat (n : Nat)) && Nat.beq len 1
  | .ldc2_w ix => decide (t = .ldc2_w ix) && decide (klF (mO M) ix = some (oL a)) && Nat.beq len 3
  | .iload k => decide (t = .iload k) && Nat.beq a k && Nat.beq x 0 && Nat.beq len 2
  | .iload_n k => decide (t = .iload (k : Nat)) && Nat.beq a (k : Nat) && Nat.beq x 0 && Nat.beq len 1
  | .lload k => decide (t = .lload k) && Nat.beq a k && Nat.beq x 2 && Nat.beq len 2
  | .lload_n k => decide (t = .lload (k : Nat)) && Nat.beq a (k : Nat) && Nat.beq x 2 && Nat.beq len 1
  | .aload k => decide (t = .aload k) && Nat.beq a k && Nat.beq x 3 && Nat.beq len 2
  | .aload_n k => decide (t = .aload (k : Nat)) && Nat.beq a (k : Nat) && Nat.beq x 3 && Nat.beq len 1
  | .istore k => decide (t = .istore k) && Nat.beq a k && Nat.beq x 0 && Nat.beq len 2 && Nat.blt k (mL M)
  | .istore_n k => decide (t = .istore (k : Nat)) && Nat.beq a (k : Nat) && Nat.beq x 0 && Nat.beq len 1 && Nat.blt (k : Nat) (mL M)
  | .lstore k => decide (t = .lstore k) && Nat.beq a k && Nat.beq x 2 && Nat.beq len 2 && Nat.blt (k + 1) (mL M)
  | .lstore_n k => decide (t = .lstore (k : Nat)) && Nat.beq a (k : Nat) && Nat.beq x 2 && Nat.beq len 1 && Nat.blt ((k : Nat) + 1) (mL M)
  | .astore k => decide (t = .astore k) && Nat.beq a k && Nat.beq x 3 && Nat.beq len 2 && Nat.blt k (mL M)
  | .astore_n k => decide (t = .astore (k : Nat)) && Nat.beq a (k : Nat) && Nat.beq x 3 && Nat.beq len 1 && Nat.blt (k : Nat) (mL M)
  | .iinc k n => decide (t = .iinc k n) && Nat.beq a k && decide (Int32.ofNat b = Int32.ofInt n) && Nat.beq len 3 && Nat.blt k (mL M)
  | .goto o => decide (t = i) && Nat.beq len 3 && jB code b e.1 o
  | .ifCond _ o => decide (t = i) && Nat.beq len 3 && jB code b e.1 o
  | .if_icmp _ o => decide (t = i) && Nat.beq len 3 && jB code b e.1 o
  | .ifnonnull o => decide (t = i) && Nat.beq len 3 && jB code b e.1 o
  | .tableswitch df lo hi offs => decide (t = i) && swB code e.1 df lo hi offs a e.2.2.2.2.2.2
  | .getfield ix => decide (t = i) && decide (flF (mO M) ix = some (a, b)) && Nat.beq len 3
  | .putfield ix => decide (t = i) && decide (flF (mO M) ix = some (a, b)) && Nat.beq len 3 && putB M a b x
  | .newarray ty => decide (t = i) && decide (ty = .int) && Nat.beq len 2
  | .anewarray ix => decide (t = i) && decide (clF (mO M) ix = some a) && aoK a && Nat.beq len 3
  | .new ix => decide (t = i) && decide (clF (mO M) ix = some a) && Nat.beq len 3
  | .getstatic ix => decide (t = i) && gsF (mO M) ix && Nat.beq len 3
  | .invokespecial ix => Nat.beq len 3 && (bif decide (t = .nop) then oiF (mO M) ix && decide (mlF (mO M) ix = none) && decide (nlF (mO M) ix = none) else decide (t = i) && !(Nat.beq a 0) && (decide (mlF (mO M) ix = some a) || (decide (mlF (mO M) ix = none) && decide (nlF (mO M) ix = some a))))
  | .invokestatic ix => Nat.beq len 3 && (bif decide (t = .swap) then acF (mO M) ix && decide (mlF (mO M) ix = none) else decide (t = i) && !(Nat.beq a 0) && decide (mlF (mO M) ix = some a))
  | .invokevirtual ix => Nat.beq len 3 && !(Nat.beq a 0) && decide (mlF (mO M) ix = some a) && (bif decide (t = .monitorenter) then decide (mYk a = ⟨"ConnectionFamilyModel", "copies", "(II)V"⟩) && (match cls[9]? with | some q => Nat.blt b q.2.2 && decide ((q.2.1 b).2.1 = "page") | none => false) else decide (t = i))
  | .return_ => decide (t = i) && Nat.beq len 1 && Nat.beq a (retT (mR M))
  | .ireturn => decide (t = i) && Nat.beq len 1 && Nat.beq a (retT (mR M))
  | .lreturn => decide (t = i) && Nat.beq len 1 && Nat.beq a (retT (mR M))
  | .areturn => decide (t = i) && Nat.beq len 1 && Nat.beq a (retT (mR M))
  | .nop => false
  | .monitorexit => false
  | .swap => false
  | .monitorenter => false
  | _ => decide (t = i) && Nat.beq len 1
/-- where the code is cut: the heads of loops, eight times the method's number and on -/
def cutB (M : MR) (k : Nat) : Bool := decide (mY M = mYk (k / 8))
def rowOK (M : MR) (code : List CE) (e : CE) : Bool := bif decide (e.2.1 = .monitorexit) then Nat.beq e.2.2.2.2.2.1 0 && cutB M e.2.2.1 else (match decode (mC M) e.1 with
  | .ok (i, len) => Nat.beq len e.2.2.2.2.2.1 && nrm M code e i
  | .error _ => false)
def adjOK : List CE → Bool
  | [] => true
  | [_] => true
  | e :: f :: r => Nat.beq f.1 (e.1 + e.2.2.2.2.2.1) && adjOK (f :: r)
def infOK (M : MR) (c : CM) : Bool := Nat.beq c.2.1 (mL M) && Nat.beq c.2.2.1 (mN M) && Nat.beq c.2.2.2.1 (mK M) && Nat.beq c.2.2.2.2.1 (mO M)
/-- what is certified of the decoded code, of all methods -/
def CertAll : Prop := ∀ mi M, mT[mi]? = some M → (∀ e ∈ codeOf mi, rowOK M (codeOf mi) e = true) ∧ adjOK (codeOf mi) = true ∧ (∃ e r, codeOf mi = e :: r ∧ e.1 = 0) ∧ (mi ≠ 0 → infOK M (tget CM 8 mi mTab) = true)
def AtC (mi : Nat) (M : MR) (full cur : List CE) (pc : Nat) : Prop := mT[mi]? = some M ∧ full = codeOf mi ∧ ∃ j e rest, cur = e :: rest ∧ full.drop j = cur ∧ e.1 = pc
theorem adj_drop : ∀ (l : List CE) (j : Nat) (e f : CE) (r : List CE), adjOK l = true → l.drop j = e :: f :: r → f.1 = e.1 + e.2.2.2.2.2.1
  | [], j, e, f, r, _, h => by simp at h
  | [x], 0, e, f, r, _, h => by simp at h
  | [x], j + 1, e, f, r, _, h => by simp at h
  | x :: y :: l, 0, e, f, r, ha, h => by
    cases h
    rw [adjOK, Bool.and_eq_true] at ha
    exact beq_of ha.1
  | x :: y :: l, j + 1, e, f, r, ha, h => by
    rw [adjOK, Bool.and_eq_true] at ha
    rw [List.drop_succ_cons] at h
    exact adj_drop (y :: l) j e f r ha.2 h
section OP
variable {σ : Nat → Int32}
/-- what the evaluator with less fuel gives -/
def IHok (σ : Nat → Int32) (ih : CB) : Prop := (∀ full lv st h hn nc ns env d, ih full [] lv st h hn nc ns env d = none) ∧
  ∀ (mi : Nat) (M : MR) (full cur : List CE) (lv : List (Option AV)) (st : List AV) (h : HT) (hn nc ns : Nat) (env : EV) (d : Nat) (l : List CO), ih full cur lv st h hn nc ns env d = some l → ∀ (pc : Nat) (clv : PV) (ph : PH), AtC mi M full cur pc → eOK σ env → HR σ h hn ph → LR σ lv clv → GoodR σ d mi pc clv (st.map (cvV σ)) ph nc ns l
variable {ih : CB} {e : CE} {full rest : List CE} {lv : List (Option AV)} {st : List AV} {h : HT} {hn nc ns d mi pc : Nat} {env : EV} {l : List CO} {M : MR} {clv : PV} {ph : PH}
theorem go_next (hC : CertAll) (hI : IHok σ ih) (hA : AtC mi M full (e :: rest) pc) (hr : ih full rest lv st h hn nc ns env d = some l) (he : eOK σ env) (hH : HR σ h hn ph) (hL : LR σ lv clv) : GoodR σ d mi (pc + e.2.2.2.2.2.1) clv (st.map (cvV σ)) ph nc ns l := by
  obtain ⟨hM, hf, j, e1, r1, h1, h2, h3⟩ := hA
  cases h1
  cases rest with
  | nil => rw [hI.1] at hr; cases hr
  | cons f r =>
    have h4 := adj_drop full j e f r (by rw [hf]; exact (hC mi M hM).2.1) h2
    refine hI.2 mi M full (f :: r) lv st h hn nc ns env d l hr _ clv ph ⟨hM, hf, j + 1, f, r, rfl, ?_, by rw [h4, h3]⟩ he hH hL
    rw [← List.drop_drop, h2]
    rfl
theorem go_jump (hI : IHok σ ih) (hM : mT[mi]? = some M) (hf : full = codeOf mi) {b : Nat} {o : Int} {t : Nat} (hj : jB full b pc o = true) (ht : tg pc o = some t) (hr : ih full (full.drop b) lv st h hn nc ns env d = some l) (he : eOK σ env) (hH : HR σ h hn ph) (hL : LR σ lv clv) : GoodR σ d mi t clv (st.map (cvV σ)) ph nc ns l := by
  unfold jB at hj
  rw [ht] at hj
  dsimp only at hj
  cases hb : full[b]? with
  | none => rw [hb] at hj; cases hj
  | some f =>
    rw [hb] at hj
    have h1 := beq_of hj
    have h2 : full.drop b = f :: full.drop (b + 1) := by
      obtain ⟨hlt, hg⟩ := List.getElem?_eq_some_iff.mp hb
      rw [List.drop_eq_getElem_cons hlt, hg]
    exact hI.2 mi M full (full.drop b) lv st h hn nc ns env d l hr t clv ph ⟨hM, hf, b, f, _, h2, rfl, h1⟩ he hH hL
theorem jB_tg {b : Nat} {o : Int} (hj : jB full b pc o = true) : ∃ t, tg pc o = some t := by
  unfold jB at hj
  cases ht : tg pc o with
  | none => rw [ht] at hj; cases hj
  | some t => exact ⟨t, rfl⟩
end OP

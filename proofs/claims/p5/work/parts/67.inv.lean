/-! ===== by hand: what always holds of a page ===== -/
def rg (f : Nat → Int32) (i : Nat) (a b : Int) : Prop := ∃ e : Int, f i = iv e ∧ a ≤ e ∧ e ≤ b
theorem rg.of_eq {f g : Nat → Int32} {i : Nat} {a b : Int} (h : rg f i a b) (e : g i = f i) : rg g i a b := by
  obtain ⟨x, x1, x2⟩ := h
  exact ⟨x, e.trans x1, x2⟩
theorem rg.nat {f : Nat → Int32} {i : Nat} {b : Int} (h : rg f i 0 b) : ∃ n : Nat, f i = iv (n : Int) ∧ (n : Int) ≤ b := by
  obtain ⟨x, x1, x2, x3⟩ := h
  refine ⟨x.toNat, ?_, by omega⟩
  rw [x1]
  congr 1
  omega
/-- acknowledgements on their way: served one tick behind the other, at most eight of a tick -/
def AckOK (f : Nat → Int32) (t C : Nat) : Prop := ∃ s : Nat → Nat, (∀ k, k + 1 < C → s k ≤ s (k + 1)) ∧ (∀ k, k + 8 < C → s k < s (k + 8)) ∧ ∀ k, k < C → s k < t ∧ ∃ u : Nat, f (1000 + 4 * k) = iv (u : Int) ∧ t ≤ u ∧ u ≤ s k + 30
/-- a tree below 0 -/
def TrOK (f : Nat → Int32) : Prop := f 0 = iv 1 ∧ f 2 = iv (-9) ∧ ∃ rk : Nat → Nat, ∀ c, 1 ≤ c → c < 10 → f (21 * c) = iv 1 → ∃ q : Nat, q < 10 ∧ f (21 * c + 2) = iv (q : Int) ∧ f (21 * q) = iv 1 ∧ rk q < rk c
def CoOK (f : Nat → Int32) : Prop := ∀ c, c < 10 → rg f (21 * c) 0 1 ∧ rg f (21 * c + 3) 0 9 ∧ rg f (21 * c + 10) 0 16 ∧ (f (21 * c) = iv 1 → rg f (21 * c + 3) 1 9 ∧ rg f (21 * c + 6) 1 2147483647)
def LiOK (f : Nat → Int32) : Prop := rg f 210 1 200 ∧ rg f 211 1 60 ∧ rg f 212 1 8 ∧ rg f 213 1 30 ∧ rg f 217 0 200 ∧ rg f 218 0 60
def BaseOK (f : Nat → Int32) : Prop := CoOK f ∧ LiOK f ∧ TrOK f
def TiOK (T : Nat) (f : Nat → Int32) : Prop := ∃ t C : Nat, t ≤ T ∧ f 214 = iv (t : Int) ∧ f 219 = iv (C : Int) ∧ (∀ c, c < 10 → ∃ n : Nat, f (21 * c + 16) = iv (n : Int) ∧ n + C ≤ 8 * t) ∧ AckOK f t C
def PageOK (T : Nat) (f : Nat → Int32) : Prop := BaseOK f ∧ TiOK T f
theorem ack_le {f : Nat → Int32} {t C : Nat} (h : AckOK f t C) : C ≤ 240 := by
  obtain ⟨s, h1, h2, h3⟩ := h
  have key : ∀ n, 8 * n < C → n ≤ s (8 * n) := by
    intro n
    induction n with
    | zero => intro _; omega
    | succ n ih =>
      intro hn
      have a1 := ih (by omega)
      have a2 := h2 (8 * n) (by omega)
      rw [show 8 * (n + 1) = 8 * n + 8 by omega]
      omega
  by_cases hC : C ≤ 240
  · exact hC
  · exfalso
    have a1 : ∀ n, 8 * n < C → s 0 + n ≤ s (8 * n) := by
      intro n
      induction n with
      | zero => intro _; exact Nat.le_refl _
      | succ n ih =>
        intro hn
        have a1 := ih (by omega)
        have a2 := h2 (8 * n) (by omega)
        rw [show 8 * (n + 1) = 8 * n + 8 by omega]
        omega
    have b1 := a1 30 (by omega)
    obtain ⟨c1, u, c2, c3, c4⟩ := h3 0 (by omega)
    obtain ⟨d1, -⟩ := h3 (8 * 30) (by omega)
    omega
/-- a change of connections that touches neither the tree nor what is counted -/
def Soft (p q : Nat → Int32) : Prop := (∀ i, 210 ≤ i → q i = p i) ∧ ∀ c, c < 10 → q (21 * c) = p (21 * c) ∧ q (21 * c + 2) = p (21 * c + 2) ∧ q (21 * c + 3) = p (21 * c + 3) ∧ q (21 * c + 16) = p (21 * c + 16) ∧ (rg p (21 * c + 10) 0 16 → rg q (21 * c + 10) 0 16) ∧ (rg p (21 * c + 6) 1 2147483647 → rg q (21 * c + 6) 1 2147483647)
theorem Soft.rfl' (p : Nat → Int32) : Soft p p := ⟨fun _ _ => rfl, fun _ _ => ⟨rfl, rfl, rfl, rfl, id, id⟩⟩
theorem Soft.trans {p q r : Nat → Int32} (h1 : Soft p q) (h2 : Soft q r) : Soft p r := by
  refine ⟨fun i hi => (h2.1 i hi).trans (h1.1 i hi), fun c hc => ?_⟩
  obtain ⟨a1, a2, a3, a4, a5, a6⟩ := h1.2 c hc
  obtain ⟨b1, b2, b3, b4, b5, b6⟩ := h2.2 c hc
  exact ⟨b1.trans a1, b2.trans a2, b3.trans a3, b4.trans a4, fun h => b5 (a5 h), fun h => b6 (a6 h)⟩
theorem uq_ne {f : Nat → Int32} {i j : Nat} {x : Int32} (h : j ≠ i) : upd f i x j = f j := by
  unfold upd
  rw [if_neg h]
theorem uq_eq {f : Nat → Int32} {i : Nat} {x : Int32} : upd f i x i = x := by
  unfold upd
  rw [if_pos rfl]
theorem Soft.upd {p : Nat → Int32} {c w : Nat} {x : Int32} (hc : c < 10) (hw : w < 21) (h : w ≠ 0 ∧ w ≠ 2 ∧ w ≠ 3 ∧ w ≠ 16) (h10 : w = 10 → ∃ e : Int, x = iv e ∧ 0 ≤ e ∧ e ≤ 16) (h6 : w = 6 → ∃ e : Int, x = iv e ∧ 1 ≤ e ∧ e ≤ 2147483647) : Soft p (upd p (21 * c + w) x) := by
  have hX : ∀ b v : Nat, b < 10 → (v = 0 ∨ v = 2 ∨ v = 3 ∨ v = 16) → 21 * b + v ≠ 21 * c + w := by
    clear h10 h6
    intro b v h1 h2
    omega
  refine ⟨fun i hi => uq_ne (by clear h10 h6; omega), fun b hb => ⟨uq_ne (hX b 0 hb (by simp)), uq_ne (hX b 2 hb (by simp)), uq_ne (hX b 3 hb (by simp)), uq_ne (hX b 16 hb (by simp)), fun hr => ?_, fun hr => ?_⟩⟩
  · by_cases e : 21 * b + 10 = 21 * c + w
    · obtain ⟨y, y1, y2, y3⟩ := h10 (by clear h10 h6; omega)
      exact ⟨y, by rw [e, uq_eq]; exact y1, y2, y3⟩
    · exact hr.of_eq (uq_ne e)
  · by_cases e : 21 * b + 6 = 21 * c + w
    · obtain ⟨y, y1, y2, y3⟩ := h6 (by clear h10 h6; omega)
      exact ⟨y, by rw [e, uq_eq]; exact y1, y2, y3⟩
    · exact hr.of_eq (uq_ne e)
theorem TrOK.of_eq {p q : Nat → Int32} (h : TrOK p) (e : ∀ c, c < 10 → q (21 * c) = p (21 * c) ∧ q (21 * c + 2) = p (21 * c + 2)) : TrOK q := by
  obtain ⟨h1, h2, rk, h3⟩ := h
  refine ⟨((e 0 (by omega)).1).trans h1, ((e 0 (by omega)).2).trans h2, rk, fun c c1 c2 hc => ?_⟩
  obtain ⟨r, r1, r2, r3, r4⟩ := h3 c c1 c2 (by rw [← (e c c2).1]; exact hc)
  exact ⟨r, r1, (e c c2).2.trans r2, (e r r1).1.trans r3, r4⟩
theorem BaseOK.soft {p q : Nat → Int32} (h : BaseOK p) (hs : Soft p q) : BaseOK q := by
  obtain ⟨h1, h2, h3⟩ := h
  refine ⟨fun c hc => ?_, ?_, h3.of_eq (fun c hc => ⟨(hs.2 c hc).1, (hs.2 c hc).2.1⟩)⟩
  · obtain ⟨a1, a2, a3, a4, a5, a6⟩ := hs.2 c hc
    obtain ⟨b1, b2, b3, b4⟩ := h1 c hc
    refine ⟨b1.of_eq a1, b2.of_eq a3, a5 b3, fun ho => ?_⟩
    obtain ⟨c1, c2⟩ := b4 (by rw [← a1]; exact ho)
    exact ⟨c1.of_eq a3, a6 c2⟩
  · obtain ⟨b1, b2, b3, b4, b5, b6⟩ := h2
    exact ⟨b1.of_eq (hs.1 _ (by omega)), b2.of_eq (hs.1 _ (by omega)), b3.of_eq (hs.1 _ (by omega)), b4.of_eq (hs.1 _ (by omega)), b5.of_eq (hs.1 _ (by omega)), b6.of_eq (hs.1 _ (by omega))⟩
theorem AckOK.of_eq {p q : Nat → Int32} {t C : Nat} (h : AckOK p t C) (hC : C ≤ 240) (e : ∀ i, 1000 ≤ i → i < 2000 → q i = p i) : AckOK q t C := by
  obtain ⟨s, h1, h2, h3⟩ := h
  refine ⟨s, h1, h2, fun k hk => ?_⟩
  obtain ⟨a1, u, a2, a3⟩ := h3 k hk
  exact ⟨a1, u, (e _ (by omega) (by omega)).trans a2, a3⟩
theorem TiOK.of_eq {T : Nat} {p q : Nat → Int32} (h : TiOK T p) (e1 : q 214 = p 214) (e2 : q 219 = p 219) (e3 : ∀ c, c < 10 → q (21 * c + 16) = p (21 * c + 16)) (e : ∀ i, 1000 ≤ i → i < 2000 → q i = p i) : TiOK T q := by
  obtain ⟨t, C, h1, h2, h3, h4, h5⟩ := h
  refine ⟨t, C, h1, e1.trans h2, e2.trans h3, fun c hc => ?_, h5.of_eq (ack_le h5) e⟩
  obtain ⟨n, n1, n2⟩ := h4 c hc
  exact ⟨n, (e3 c hc).trans n1, n2⟩
theorem PageOK.soft {T : Nat} {p q : Nat → Int32} (h : PageOK T p) (hs : Soft p q) : PageOK T q :=
  ⟨h.1.soft hs, h.2.of_eq (hs.1 _ (by omega)) (hs.1 _ (by omega)) (fun c hc => (hs.2 c hc).2.2.2.1) (fun i h1 _ => hs.1 i (by omega))⟩
/-- a change of flights and queue alone -/
def Win (p q : Nat → Int32) : Prop := ∀ i, i ≠ 217 → i ≠ 218 → (i < 220 ∨ 1000 ≤ i) → q i = p i
theorem Win.trans {p q r : Nat → Int32} (h1 : Win p q) (h2 : Win q r) : Win p r := fun i a b c => (h2 i a b c).trans (h1 i a b c)
theorem BaseOK.win {p q : Nat → Int32} (h : BaseOK p) (hw : Win p q) (h7 : rg q 217 0 200) (h8 : rg q 218 0 60) : BaseOK q := by
  obtain ⟨h1, h2, h3⟩ := h
  refine ⟨fun c hc => ?_, ?_, h3.of_eq (fun c hc => ⟨hw _ (by omega) (by omega) (by omega), hw _ (by omega) (by omega) (by omega)⟩)⟩
  · obtain ⟨b1, b2, b3, b4⟩ := h1 c hc
    refine ⟨b1.of_eq (hw _ (by omega) (by omega) (by omega)), b2.of_eq (hw _ (by omega) (by omega) (by omega)), b3.of_eq (hw _ (by omega) (by omega) (by omega)), fun ho => ?_⟩
    obtain ⟨c1, c2⟩ := b4 (by rw [← hw (21 * c) (by omega) (by omega) (by omega)]; exact ho)
    exact ⟨c1.of_eq (hw _ (by omega) (by omega) (by omega)), c2.of_eq (hw _ (by omega) (by omega) (by omega))⟩
  · obtain ⟨b1, b2, b3, b4, b5, b6⟩ := h2
    exact ⟨b1.of_eq (hw _ (by omega) (by omega) (by omega)), b2.of_eq (hw _ (by omega) (by omega) (by omega)), b3.of_eq (hw _ (by omega) (by omega) (by omega)), b4.of_eq (hw _ (by omega) (by omega) (by omega)), h7, h8⟩
theorem PageOK.win {T : Nat} {p q : Nat → Int32} (h : PageOK T p) (hw : Win p q) (h7 : rg q 217 0 200) (h8 : rg q 218 0 60) : PageOK T q :=
  ⟨h.1.win hw h7 h8, h.2.of_eq (hw _ (by omega) (by omega) (by omega)) (hw _ (by omega) (by omega) (by omega)) (fun c hc => hw _ (by omega) (by omega) (by omega)) (fun i h1 _ => hw i (by omega) (by omega) (by omega))⟩
/-- a packet leaves -/
theorem lvF_win {p : Nat → Int32} {t F : Nat} (hF : F ≤ 200) : Win p (lvF p t F) := by
  intro i h1 h2 h3
  unfold lvF
  rw [uq_ne h1]
  unfold shF
  rw [if_neg (by omega)]
theorem lvF_217 {p : Nat → Int32} {t F : Nat} : lvF p t F 217 = iv ((F : Int) - 1) := by
  unfold lvF
  rw [uq_eq]
theorem lvF_218 {p : Nat → Int32} {t F : Nat} : lvF p t F 218 = p 218 := by
  unfold lvF
  rw [uq_ne (by omega)]
  unfold shF
  rw [if_neg (by omega)]
/-- the places of the others -/
theorem lvF_at {p : Nat → Int32} {t F k r : Nat} (hr : r < 3) (ht : t < k) (hk : k < F) : lvF p t F (220 + 3 * (k - 1) + r) = p (220 + 3 * k + r) := by
  unfold lvF
  rw [uq_ne (by omega)]
  unfold shF
  rw [if_pos (by omega)]
  congr 1
  omega
theorem ifL_eq {p : Nat → Int32} {c t F : Nat} (hc : c < 10) : ∃ q, lvF p t F = q ∧ Soft q (ifL p c t F) := by
  refine ⟨_, rfl, ?_⟩
  unfold ifL
  dsimp only
  exact (Soft.upd hc (by omega) (by omega) (by omega) (by omega)).trans (Soft.upd hc (by omega) (by omega) (by omega) (by omega))

/-! ===== one instruction of the evaluator ===== -/
section OQ
variable {σ : Nat → Int32}
variable {ih : CB} {e : CE} {full rest : List CE} {lv : List (Option AV)} {st : List AV} {h : HT} {hn nc ns d mi pc : Nat} {env : EV} {l : List CO} {M : MR} {clv : PV} {ph : PH}
theorem go_len (hC : CertAll) (hI : IHok σ ih) (hA : AtC mi M full (e :: rest) pc) {n : Nat} (hlen : e.2.2.2.2.2.1 = n) {lv' : List (Option AV)} {st' : List AV} {h' : HT} {hn' nc' ns' : Nat} {env' : EV} {l' : List CO} {clv' : PV} {ph' : PH} (hr : ih full rest lv' st' h' hn' nc' ns' env' d = some l') (he : eOK σ env') (hH : HR σ h' hn' ph') (hL : LR σ lv' clv') (hs : ∀ o ∈ l', o ∈ l) : GoodR σ d mi (pc + n) clv' (st'.map (cvV σ)) ph' nc' ns' l := by
  rw [← hlen]
  exact (go_next hC hI hA hr he hH hL).mono hs
theorem ok_iconst (hC : CertAll) (hI : IHok σ ih) (hA : AtC mi M full (e :: rest) pc) (he : eOK σ env) (hH : HR σ h hn ph) (hL : LR σ lv clv) {v : Int} (ha : oI e.2.2.1 = Int32.ofInt v) (hd : decode (mC M) pc = .ok (.iconst v, 1)) (hlen : e.2.2.2.2.2.1 = 1) (hp : p_iconst ih e full rest lv st h hn nc ns env d = some l) : GoodR σ d mi pc clv (st.map (cvV σ)) ph nc ns l := by
  unfold p_iconst at hp
  rw [fN_eq] at hp
  refine good_step hA.1 hd rfl rfl (by simp only [stp, x_ld]; rfl) ?_
  rw [← ha]
  exact go_len hC hI hA hlen hp he hH hL (fun o ho => ho)
theorem ok_bipush (hC : CertAll) (hI : IHok σ ih) (hA : AtC mi M full (e :: rest) pc) (he : eOK σ env) (hH : HR σ h hn ph) (hL : LR σ lv clv) {v : Int} (ha : oI e.2.2.1 = (Int8.ofInt v).toInt32) (hd : decode (mC M) pc = .ok (.bipush v, 2)) (hlen : e.2.2.2.2.2.1 = 2) (hp : p_iconst ih e full rest lv st h hn nc ns env d = some l) : GoodR σ d mi pc clv (st.map (cvV σ)) ph nc ns l := by
  unfold p_iconst at hp
  rw [fN_eq] at hp
  refine good_step hA.1 hd rfl rfl (by simp only [stp, x_ld]; rfl) ?_
  rw [← ha]
  exact go_len hC hI hA hlen hp he hH hL (fun o ho => ho)
theorem ok_sipush (hC : CertAll) (hI : IHok σ ih) (hA : AtC mi M full (e :: rest) pc) (he : eOK σ env) (hH : HR σ h hn ph) (hL : LR σ lv clv) {v : Int} (ha : oI e.2.2.1 = (Int16.ofInt v).toInt32) (hd : decode (mC M) pc = .ok (.sipush v, 3)) (hlen : e.2.2.2.2.2.1 = 3) (hp : p_iconst ih e full rest lv st h hn nc ns env d = some l) : GoodR σ d mi pc clv (st.map (cvV σ)) ph nc ns l := by
  unfold p_iconst at hp
  rw [fN_eq] at hp
  refine good_step hA.1 hd rfl rfl (by simp only [stp, x_ld]; rfl) ?_
  rw [← ha]
  exact go_len hC hI hA hlen hp he hH hL (fun o ho => ho)
theorem ok_lconst (hC : CertAll) (hI : IHok σ ih) (hA : AtC mi M full (e :: rest) pc) (he : eOK σ env) (hH : HR σ h hn ph) (hL : LR σ lv clv) {v : Fin 2} (ha : oL e.2.2.1 = Int64.ofNat (v : Nat)) (hd : decode (mC M) pc = .ok (.lconst v, 1)) (hlen : e.2.2.2.2.2.1 = 1) (hp : p_long ih e full rest lv st h hn nc ns env d = some l) : GoodR σ d mi pc clv (st.map (cvV σ)) ph nc ns l := by
  unfold p_long at hp
  rw [fN_eq] at hp
  refine good_step hA.1 hd rfl rfl (by simp only [stp, x_ld]; rfl) ?_
  rw [← ha]
  exact go_len hC hI hA hlen hp he hH hL (fun o ho => ho)
theorem ok_ldc2 (hC : CertAll) (hI : IHok σ ih) (hA : AtC mi M full (e :: rest) pc) (he : eOK σ env) (hH : HR σ h hn ph) (hL : LR σ lv clv) {ix : Nat} (ha : klF (mO M) ix = some (oL e.2.2.1)) (hd : decode (mC M) pc = .ok (.ldc2_w ix, 3)) (hlen : e.2.2.2.2.2.1 = 3) (hp : p_long ih e full rest lv st h hn nc ns env d = some l) : GoodR σ d mi pc clv (st.map (cvV σ)) ph nc ns l := by
  unfold p_long at hp
  rw [fN_eq] at hp
  refine good_step hA.1 hd rfl rfl (pc' := pc + 3) (clv' := clv) (st' := .long (oL e.2.2.1) :: st.map (cvV σ)) (ph' := ph) (nc' := nc) (ns' := ns) (by simp [stp, x_ld, x_st, x_ar, x_br, x_hp, ha]) ?_
  exact go_len hC hI hA hlen hp he hH hL (fun o ho => ho)
theorem kindA_ok {v : AV} {x : Nat} (hk : kindA v x = true) : (x = 0 ∧ ∃ y, cvV σ v = .int y) ∨ (x = 2 ∧ ∃ y, cvV σ v = .long y) ∨ (x = 3 ∧ ((∃ y, cvV σ v = .ref y) ∨ cvV σ v = .null)) := by
  match v, hk with
  | .inl a, hk => exact Or.inl ⟨beq_of hk, _, rfl⟩
  | .inr (.inl k), hk => exact Or.inl ⟨beq_of hk, _, rfl⟩
  | .inr (.inr (.inl w)), hk => exact Or.inr (Or.inl ⟨beq_of hk, _, rfl⟩)
  | .inr (.inr (.inr (some a))), hk => exact Or.inr (Or.inr ⟨beq_of hk, Or.inl ⟨_, rfl⟩⟩)
  | .inr (.inr (.inr none)), hk => exact Or.inr (Or.inr ⟨beq_of hk, Or.inr rfl⟩)
theorem load_inv (hp : p_load ih e full rest lv st h hn nc ns env d = some l) : ∃ v, lv[e.2.2.1]? = some (some v) ∧ kindA v e.2.2.2.2.1 = true ∧ ih full rest lv (v :: st) h hn nc ns env d = some l := by
  unfold p_load at hp
  split at hp
  · rename_i v hv
    cases hk : kindA v e.2.2.2.2.1 with
    | true => rw [hk] at hp; exact ⟨v, hv, hk, hp⟩
    | false => rw [hk] at hp; cases hp
  · cases hp
theorem ok_iload (hC : CertAll) (hI : IHok σ ih) (hA : AtC mi M full (e :: rest) pc) (he : eOK σ env) (hH : HR σ h hn ph) (hL : LR σ lv clv) {k : Nat} (ha : e.2.2.1 = k) (hx : e.2.2.2.2.1 = 0) (hd : decode (mC M) pc = .ok (.iload k, 2)) (hlen : e.2.2.2.2.2.1 = 2) (hp : p_load ih e full rest lv st h hn nc ns env d = some l) : GoodR σ d mi pc clv (st.map (cvV σ)) ph nc ns l := by
  obtain ⟨v, hv, hk, hp⟩ := load_inv hp
  have hg := hL _ _ hv
  rw [ha] at hg
  rcases kindA_ok (σ := σ) hk with ⟨_, y, hy⟩ | ⟨z, _⟩ | ⟨z, _⟩
  · refine good_step hA.1 hd rfl rfl (pc' := pc + 2) (clv' := clv) (st' := cvV σ v :: st.map (cvV σ)) (ph' := ph) (nc' := nc) (ns' := ns) (by rw [hy] at hg; simp [stp, x_ld, hg, hy]) ?_
    exact go_len hC hI hA hlen hp he hH hL (fun o ho => ho)
  · rw [hx] at z; cases z
  · rw [hx] at z; cases z
theorem ok_iload_n (hC : CertAll) (hI : IHok σ ih) (hA : AtC mi M full (e :: rest) pc) (he : eOK σ env) (hH : HR σ h hn ph) (hL : LR σ lv clv) {k : Fin 4} (ha : e.2.2.1 = (k : Nat)) (hx : e.2.2.2.2.1 = 0) (hd : decode (mC M) pc = .ok (.iload_n k, 1)) (hlen : e.2.2.2.2.2.1 = 1) (hp : p_load ih e full rest lv st h hn nc ns env d = some l) : GoodR σ d mi pc clv (st.map (cvV σ)) ph nc ns l := by
  obtain ⟨v, hv, hk, hp⟩ := load_inv hp
  have hg := hL _ _ hv
  rw [ha] at hg
  rcases kindA_ok (σ := σ) hk with ⟨_, y, hy⟩ | ⟨z, _⟩ | ⟨z, _⟩
  · refine good_step hA.1 hd rfl rfl (pc' := pc + 1) (clv' := clv) (st' := cvV σ v :: st.map (cvV σ)) (ph' := ph) (nc' := nc) (ns' := ns) (by rw [hy] at hg; simp [stp, x_ld, hg, hy]) ?_
    exact go_len hC hI hA hlen hp he hH hL (fun o ho => ho)
  · rw [hx] at z; cases z
  · rw [hx] at z; cases z
theorem ok_lload (hC : CertAll) (hI : IHok σ ih) (hA : AtC mi M full (e :: rest) pc) (he : eOK σ env) (hH : HR σ h hn ph) (hL : LR σ lv clv) {k : Nat} (ha : e.2.2.1 = k) (hx : e.2.2.2.2.1 = 2) (hd : decode (mC M) pc = .ok (.lload k, 2)) (hlen : e.2.2.2.2.2.1 = 2) (hp : p_load ih e full rest lv st h hn nc ns env d = some l) : GoodR σ d mi pc clv (st.map (cvV σ)) ph nc ns l := by
  obtain ⟨v, hv, hk, hp⟩ := load_inv hp
  have hg := hL _ _ hv
  rw [ha] at hg
  rcases kindA_ok (σ := σ) hk with ⟨z, _⟩ | ⟨_, y, hy⟩ | ⟨z, _⟩
  · rw [hx] at z; cases z
  · refine good_step hA.1 hd rfl rfl (pc' := pc + 2) (clv' := clv) (st' := cvV σ v :: st.map (cvV σ)) (ph' := ph) (nc' := nc) (ns' := ns) (by rw [hy] at hg; simp [stp, x_ld, hg, hy]) ?_
    exact go_len hC hI hA hlen hp he hH hL (fun o ho => ho)
  · rw [hx] at z; cases z
theorem ok_lload_n (hC : CertAll) (hI : IHok σ ih) (hA : AtC mi M full (e :: rest) pc) (he : eOK σ env) (hH : HR σ h hn ph) (hL : LR σ lv clv) {k : Fin 4} (ha : e.2.2.1 = (k : Nat)) (hx : e.2.2.2.2.1 = 2) (hd : decode (mC M) pc = .ok (.lload_n k, 1)) (hlen : e.2.2.2.2.2.1 = 1) (hp : p_load ih e full rest lv st h hn nc ns env d = some l) : GoodR σ d mi pc clv (st.map (cvV σ)) ph nc ns l := by
  obtain ⟨v, hv, hk, hp⟩ := load_inv hp
  have hg := hL _ _ hv
  rw [ha] at hg
  rcases kindA_ok (σ := σ) hk with ⟨z, _⟩ | ⟨_, y, hy⟩ | ⟨z, _⟩
  · rw [hx] at z; cases z
  · refine good_step hA.1 hd rfl rfl (pc' := pc + 1) (clv' := clv) (st' := cvV σ v :: st.map (cvV σ)) (ph' := ph) (nc' := nc) (ns' := ns) (by rw [hy] at hg; simp [stp, x_ld, hg, hy]) ?_
    exact go_len hC hI hA hlen hp he hH hL (fun o ho => ho)
  · rw [hx] at z; cases z
theorem ok_aload (hC : CertAll) (hI : IHok σ ih) (hA : AtC mi M full (e :: rest) pc) (he : eOK σ env) (hH : HR σ h hn ph) (hL : LR σ lv clv) {k : Nat} (ha : e.2.2.1 = k) (hx : e.2.2.2.2.1 = 3) (hd : decode (mC M) pc = .ok (.aload k, 2)) (hlen : e.2.2.2.2.2.1 = 2) (hp : p_load ih e full rest lv st h hn nc ns env d = some l) : GoodR σ d mi pc clv (st.map (cvV σ)) ph nc ns l := by
  obtain ⟨v, hv, hk, hp⟩ := load_inv hp
  have hg := hL _ _ hv
  rw [ha] at hg
  rcases kindA_ok (σ := σ) hk with ⟨z, _⟩ | ⟨z, _⟩ | ⟨_, ⟨y, hy⟩ | hy⟩
  · rw [hx] at z; cases z
  · rw [hx] at z; cases z
  · refine good_step hA.1 hd rfl rfl (pc' := pc + 2) (clv' := clv) (st' := cvV σ v :: st.map (cvV σ)) (ph' := ph) (nc' := nc) (ns' := ns) (by rw [hy] at hg; simp [stp, x_ld, hg, hy]) ?_
    exact go_len hC hI hA hlen hp he hH hL (fun o ho => ho)
  · refine good_step hA.1 hd rfl rfl (pc' := pc + 2) (clv' := clv) (st' := cvV σ v :: st.map (cvV σ)) (ph' := ph) (nc' := nc) (ns' := ns) (by rw [hy] at hg; simp [stp, x_ld, hg, hy]) ?_
    exact go_len hC hI hA hlen hp he hH hL (fun o ho => ho)
theorem ok_aload_n (hC : CertAll) (hI : IHok σ ih) (hA : AtC mi M full (e :: rest) pc) (he : eOK σ env) (hH : HR σ h hn ph) (hL : LR σ lv clv) {k : Fin 4} (ha : e.2.2.1 = (k : Nat)) (hx : e.2.2.2.2.1 = 3) (hd : decode (mC M) pc = .ok (.aload_n k, 1)) (hlen : e.2.2.2.2.2.1 = 1) (hp : p_load ih e full rest lv st h hn nc ns env d = some l) : GoodR σ d mi pc clv (st.map (cvV σ)) ph nc ns l := by
  obtain ⟨v, hv, hk, hp⟩ := load_inv hp
  have hg := hL _ _ hv
  rw [ha] at hg
  rcases kindA_ok (σ := σ) hk with ⟨z, _⟩ | ⟨z, _⟩ | ⟨_, ⟨y, hy⟩ | hy⟩
  · rw [hx] at z; cases z
  · rw [hx] at z; cases z
  · refine good_step hA.1 hd rfl rfl (pc' := pc + 1) (clv' := clv) (st' := cvV σ v :: st.map (cvV σ)) (ph' := ph) (nc' := nc) (ns' := ns) (by rw [hy] at hg; simp [stp, x_ld, hg, hy]) ?_
    exact go_len hC hI hA hlen hp he hH hL (fun o ho => ho)
  · refine good_step hA.1 hd rfl rfl (pc' := pc + 1) (clv' := clv) (st' := cvV σ v :: st.map (cvV σ)) (ph' := ph) (nc' := nc) (ns' := ns) (by rw [hy] at hg; simp [stp, x_ld, hg, hy]) ?_
    exact go_len hC hI hA hlen hp he hH hL (fun o ho => ho)
theorem store_inv (hp : p_store ih e full rest lv st h hn nc ns env d = some l) : ∃ v r, st = v :: r ∧ kindA v e.2.2.2.2.1 = true ∧ ih full rest (lst1 lv e.2.2.1 v) r h hn nc ns env d = some l := by
  unfold p_store at hp
  split at hp
  · rename_i v r
    cases hk : kindA v e.2.2.2.2.1 with
    | true => rw [hk] at hp; exact ⟨v, r, rfl, hk, hp⟩
    | false => rw [hk] at hp; cases hp
  · cases hp
theorem ok_istore (hC : CertAll) (hI : IHok σ ih) (hA : AtC mi M full (e :: rest) pc) (he : eOK σ env) (hH : HR σ h hn ph) (hL : LR σ lv clv) {k : Nat} (ha : e.2.2.1 = k) (hx : e.2.2.2.2.1 = 0) (hk2 : k < mL M) (hd : decode (mC M) pc = .ok (.istore k, 2)) (hlen : e.2.2.2.2.2.1 = 2) (hp : p_store ih e full rest lv st h hn nc ns env d = some l) : GoodR σ d mi pc clv (st.map (cvV σ)) ph nc ns l := by
  obtain ⟨v, r, rfl, hk, hp⟩ := store_inv hp
  rcases kindA_ok (σ := σ) hk with ⟨_, y, hy⟩ | ⟨z, _⟩ | ⟨z, _⟩
  · refine good_step hA.1 hd rfl rfl (pc' := pc + 2) (clv' := sl1 clv k (cvV σ v)) (st' := r.map (cvV σ)) (ph' := ph) (nc' := nc) (ns' := ns) (by rw [List.map_cons, hy]; simp [stp, x_ld, x_st, hk2]) ?_
    rw [← ha]
    exact go_len hC hI hA hlen hp he hH (hL.st1 _ _) (fun o ho => ho)
  · rw [hx] at z; cases z
  · rw [hx] at z; cases z
theorem ok_istore_n (hC : CertAll) (hI : IHok σ ih) (hA : AtC mi M full (e :: rest) pc) (he : eOK σ env) (hH : HR σ h hn ph) (hL : LR σ lv clv) {k : Fin 4} (ha : e.2.2.1 = (k : Nat)) (hx : e.2.2.2.2.1 = 0) (hk2 : (k : Nat) < mL M) (hd : decode (mC M) pc = .ok (.istore_n k, 1)) (hlen : e.2.2.2.2.2.1 = 1) (hp : p_store ih e full rest lv st h hn nc ns env d = some l) : GoodR σ d mi pc clv (st.map (cvV σ)) ph nc ns l := by
  obtain ⟨v, r, rfl, hk, hp⟩ := store_inv hp
  rcases kindA_ok (σ := σ) hk with ⟨_, y, hy⟩ | ⟨z, _⟩ | ⟨z, _⟩
  · refine good_step hA.1 hd rfl rfl (pc' := pc + 1) (clv' := sl1 clv (k : Nat) (cvV σ v)) (st' := r.map (cvV σ)) (ph' := ph) (nc' := nc) (ns' := ns) (by rw [List.map_cons, hy]; simp [stp, x_ld, x_st, hk2]) ?_
    rw [← ha]
    exact go_len hC hI hA hlen hp he hH (hL.st1 _ _) (fun o ho => ho)
  · rw [hx] at z; cases z
  · rw [hx] at z; cases z
theorem ok_astore (hC : CertAll) (hI : IHok σ ih) (hA : AtC mi M full (e :: rest) pc) (he : eOK σ env) (hH : HR σ h hn ph) (hL : LR σ lv clv) {k : Nat} (ha : e.2.2.1 = k) (hx : e.2.2.2.2.1 = 3) (hk2 : k < mL M) (hd : decode (mC M) pc = .ok (.astore k, 2)) (hlen : e.2.2.2.2.2.1 = 2) (hp : p_store ih e full rest lv st h hn nc ns env d = some l) : GoodR σ d mi pc clv (st.map (cvV σ)) ph nc ns l := by
  obtain ⟨v, r, rfl, hk, hp⟩ := store_inv hp
  rcases kindA_ok (σ := σ) hk with ⟨z, _⟩ | ⟨z, _⟩ | ⟨_, ⟨y, hy⟩ | hy⟩
  · rw [hx] at z; cases z
  · rw [hx] at z; cases z
  · refine good_step hA.1 hd rfl rfl (pc' := pc + 2) (clv' := sl1 clv k (cvV σ v)) (st' := r.map (cvV σ)) (ph' := ph) (nc' := nc) (ns' := ns) (by rw [List.map_cons, hy]; simp [stp, x_ld, x_st, hk2]) ?_
    rw [← ha]
    exact go_len hC hI hA hlen hp he hH (hL.st1 _ _) (fun o ho => ho)
  · refine good_step hA.1 hd rfl rfl (pc' := pc + 2) (clv' := sl1 clv k (cvV σ v)) (st' := r.map (cvV σ)) (ph' := ph) (nc' := nc) (ns' := ns) (by rw [List.map_cons, hy]; simp [stp, x_ld, x_st, hk2]) ?_
    rw [← ha]
    exact go_len hC hI hA hlen hp he hH (hL.st1 _ _) (fun o ho => ho)
theorem ok_astore_n (hC : CertAll) (hI : IHok σ ih) (hA : AtC mi M full (e :: rest) pc) (he : eOK σ env) (hH : HR σ h hn ph) (hL : LR σ lv clv) {k : Fin 4} (ha : e.2.2.1 = (k : Nat)) (hx : e.2.2.2.2.1 = 3) (hk2 : (k : Nat) < mL M) (hd : decode (mC M) pc = .ok (.astore_n k, 1)) (hlen : e.2.2.2.2.2.1 = 1) (hp : p_store ih e full rest lv st h hn nc ns env d = some l) : GoodR σ d mi pc clv (st.map (cvV σ)) ph nc ns l := by
  obtain ⟨v, r, rfl, hk, hp⟩ := store_inv hp
  rcases kindA_ok (σ := σ) hk with ⟨z, _⟩ | ⟨z, _⟩ | ⟨_, ⟨y, hy⟩ | hy⟩
  · rw [hx] at z; cases z
  · rw [hx] at z; cases z
  · refine good_step hA.1 hd rfl rfl (pc' := pc + 1) (clv' := sl1 clv (k : Nat) (cvV σ v)) (st' := r.map (cvV σ)) (ph' := ph) (nc' := nc) (ns' := ns) (by rw [List.map_cons, hy]; simp [stp, x_ld, x_st, hk2]) ?_
    rw [← ha]
    exact go_len hC hI hA hlen hp he hH (hL.st1 _ _) (fun o ho => ho)
  · refine good_step hA.1 hd rfl rfl (pc' := pc + 1) (clv' := sl1 clv (k : Nat) (cvV σ v)) (st' := r.map (cvV σ)) (ph' := ph) (nc' := nc) (ns' := ns) (by rw [List.map_cons, hy]; simp [stp, x_ld, x_st, hk2]) ?_
    rw [← ha]
    exact go_len hC hI hA hlen hp he hH (hL.st1 _ _) (fun o ho => ho)
theorem ok_lstore (hC : CertAll) (hI : IHok σ ih) (hA : AtC mi M full (e :: rest) pc) (he : eOK σ env) (hH : HR σ h hn ph) (hL : LR σ lv clv) {k : Nat} (ha : e.2.2.1 = k) (hk2 : k + 1 < mL M) (hd : decode (mC M) pc = .ok (.lstore k, 2)) (hlen : e.2.2.2.2.2.1 = 2) (hp : p_storeL ih e full rest lv st h hn nc ns env d = some l) : GoodR σ d mi pc clv (st.map (cvV σ)) ph nc ns l := by
  unfold p_storeL at hp
  split at hp
  · rename_i w r
    refine good_step hA.1 hd rfl rfl (pc' := pc + 2) (clv' := sl2 clv k (.long (oL w))) (st' := r.map (cvV σ)) (ph' := ph) (nc' := nc) (ns' := ns) (by rw [List.map_cons]; simp [stp, x_ld, x_st, hk2, cvV]) ?_
    rw [← ha]
    exact go_len hC hI hA hlen hp he hH (hL.st2 _ (.inr (.inr (.inl w)))) (fun o ho => ho)
  · cases hp
theorem ok_lstore_n (hC : CertAll) (hI : IHok σ ih) (hA : AtC mi M full (e :: rest) pc) (he : eOK σ env) (hH : HR σ h hn ph) (hL : LR σ lv clv) {k : Fin 4} (ha : e.2.2.1 = (k : Nat)) (hk2 : (k : Nat) + 1 < mL M) (hd : decode (mC M) pc = .ok (.lstore_n k, 1)) (hlen : e.2.2.2.2.2.1 = 1) (hp : p_storeL ih e full rest lv st h hn nc ns env d = some l) : GoodR σ d mi pc clv (st.map (cvV σ)) ph nc ns l := by
  unfold p_storeL at hp
  split at hp
  · rename_i w r
    refine good_step hA.1 hd rfl rfl (pc' := pc + 1) (clv' := sl2 clv (k : Nat) (.long (oL w))) (st' := r.map (cvV σ)) (ph' := ph) (nc' := nc) (ns' := ns) (by rw [List.map_cons]; simp [stp, x_ld, x_st, hk2, cvV]) ?_
    rw [← ha]
    exact go_len hC hI hA hlen hp he hH (hL.st2 _ (.inr (.inr (.inl w)))) (fun o ho => ho)
  · cases hp
theorem ok_iinc (hC : CertAll) (hI : IHok σ ih) (hA : AtC mi M full (e :: rest) pc) (he : eOK σ env) (hH : HR σ h hn ph) (hL : LR σ lv clv) {k : Nat} {n : Int} (ha : e.2.2.1 = k) (hb : Int32.ofNat e.2.2.2.1 = Int32.ofInt n) (hk2 : k < mL M) (hd : decode (mC M) pc = .ok (.iinc k n, 3)) (hlen : e.2.2.2.2.2.1 = 3) (hp : p_iinc ih e full rest lv st h hn nc ns env d = some l) : GoodR σ d mi pc clv (st.map (cvV σ)) ph nc ns l := by
  unfold p_iinc at hp
  split at hp
  · rename_i v hv
    obtain ⟨a, env', l', h1, h2, h3, h4, h5⟩ := exK_ok hp he
    have hg := hL _ _ hv
    rw [ha, h1] at hg
    rw [fN_eq] at h4
    have hval : oI ((a + e.2.2.2.1) % oM) = oI a + Int32.ofInt n := by
      rw [oI_mod, ← hb]
      unfold oI
      rw [← Int32.ofNat_add]
      congr 1
      omega
    refine good_step hA.1 hd rfl rfl (pc' := pc + 3) (clv' := sl1 clv k (.int (oI a + Int32.ofInt n))) (st' := st.map (cvV σ)) (ph' := ph) (nc' := nc) (ns' := ns) (by simp [stp, x_ld, x_st, hk2, hg]) ?_
    rw [← hval, ← ha]
    exact go_len hC hI hA hlen h4 h3 hH (hL.st1 _ (.inl _)) h5
  · cases hp
end OQ

/-! ===== by program (wip/gen/gen96.py): the law ===== -/
theorem rw_0_0 : (codeOf 0)[0]? = some (0, .new 7, 0, 0, 0, 3, []) := by rw [kc0_eq]; rfl
theorem rw_0_1 : (codeOf 0)[1]? = some (3, .dup, 0, 0, 0, 1, []) := by rw [kc0_eq]; rfl
theorem rw_0_2 : (codeOf 0)[2]? = some (4, .invokespecial 9, 1, 0, 0, 3, []) := by rw [kc0_eq]; rfl
theorem rw_0_3 : (codeOf 0)[3]? = some (7, .astore 1, 1, 0, 3, 1, []) := by rw [kc0_eq]; rfl
theorem rw_0_4 : (codeOf 0)[4]? = some (8, .new 10, 9, 0, 0, 3, []) := by rw [kc0_eq]; rfl
theorem rw_0_5 : (codeOf 0)[5]? = some (11, .dup, 0, 0, 0, 1, []) := by rw [kc0_eq]; rfl
theorem rw_0_6 : (codeOf 0)[6]? = some (12, .invokespecial 12, 117, 0, 0, 3, []) := by rw [kc0_eq]; rfl
theorem rw_0_7 : (codeOf 0)[7]? = some (15, .astore 2, 2, 0, 3, 1, []) := by rw [kc0_eq]; rfl
theorem rw_0_8 : (codeOf 0)[8]? = some (16, .iconst 0, 2147483648, 0, 0, 1, []) := by rw [kc0_eq]; rfl
theorem rw_0_9 : (codeOf 0)[9]? = some (17, .istore 3, 3, 0, 0, 1, []) := by rw [kc0_eq]; rfl
theorem rw_0_10 : (codeOf 0)[10]? = some (18, .monitorexit, 0, 0, 0, 0, []) := by rw [kc0_eq]; rfl
theorem rw_0_11 : (codeOf 0)[11]? = some (18, .iload 3, 3, 0, 0, 1, []) := by rw [kc0_eq]; rfl
theorem rw_0_12 : (codeOf 0)[12]? = some (19, .aload 0, 0, 0, 3, 1, []) := by rw [kc0_eq]; rfl
theorem rw_0_13 : (codeOf 0)[13]? = some (20, .arraylength, 0, 0, 0, 1, []) := by rw [kc0_eq]; rfl
theorem rw_0_14 : (codeOf 0)[14]? = some (21, .iconst 4, 2147483652, 0, 0, 1, []) := by rw [kc0_eq]; rfl
theorem rw_0_15 : (codeOf 0)[15]? = some (22, .isub, 0, 0, 0, 1, []) := by rw [kc0_eq]; rfl
theorem rw_0_16 : (codeOf 0)[16]? = some (23, .if_icmp .gt 803, 826, 537, 0, 3, []) := by rw [kc0_eq]; rfl
theorem rw_0_17 : (codeOf 0)[17]? = some (26, .aload 0, 0, 0, 3, 1, []) := by rw [kc0_eq]; rfl
theorem rw_0_18 : (codeOf 0)[18]? = some (27, .iload 3, 3, 0, 0, 1, []) := by rw [kc0_eq]; rfl
theorem rw_0_19 : (codeOf 0)[19]? = some (28, .iaload, 0, 0, 0, 1, []) := by rw [kc0_eq]; rfl
theorem rw_0_20 : (codeOf 0)[20]? = some (29, .iconst 31, 2147483679, 0, 0, 2, []) := by rw [kc0_eq]; rfl
theorem rw_0_21 : (codeOf 0)[21]? = some (31, .iand, 0, 0, 0, 1, []) := by rw [kc0_eq]; rfl
theorem rw_0_22 : (codeOf 0)[22]? = some (32, .tableswitch 788 0 25 #[120, 143, 156, 169, 182, 215, 238, 271, 304, 327, 360, 383, 416, 449, 472, 505, 528, 561, 604, 627, 650, 663, 696, 719, 762, 775], 2147483648, 0, 0, 120, [535, 23, 40, 47, 54, 61, 88, 105, 132, 159, 176, 203, 220, 247, 274, 291, 318, 335, 362, 399, 416, 433, 440, 467, 484, 521, 528]) := by rw [kc0_eq]; rfl
set_option maxRecDepth 4000 in
theorem rw_0_535 : (codeOf 0)[535]? = some (820, .iinc 3 4, 3, 4, 0, 3, []) := by rw [kc0_eq]; rfl
set_option maxRecDepth 4000 in
theorem rw_0_536 : (codeOf 0)[536]? = some (823, .goto (-805), 18, 10, 0, 3, []) := by rw [kc0_eq]; rfl
set_option maxRecDepth 4000 in
theorem rw_0_537 : (codeOf 0)[537]? = some (826, .iconst 1, 2147483649, 0, 0, 1, []) := by rw [kc0_eq]; rfl
set_option maxRecDepth 4000 in
theorem rw_0_538 : (codeOf 0)[538]? = some (827, .ireturn, 2, 0, 0, 1, []) := by rw [kc0_eq]; rfl
theorem inc_4 : Int32.ofNat 4 = iv 4 := by decide
theorem law_inc {i : Nat} {ph : PH} {Q : Option Value → PH → Prop} (hQ : ZR 12 0 10 [some (.ref 0), some (.ref 2), some (.ref 75), some (.int (iv (((i + 4 : Nat) : Int))))] [] ph Q) : ZR 12 0 535 [some (.ref 0), some (.ref 2), some (.ref 75), some (.int (iv (i : Int)))] [] ph Q := by
  refine zi_inc hk_0 rw_0_535 rfl rfl inc_4 (lv' := [some (.ref 0), some (.ref 2), some (.ref 75), some (.int (iv ((i : Int) + 4)))]) rfl ?_
  refine zr_goto hk_0 rw_0_536 ?_
  exact hQ
theorem LSt.up {kd : Bool} {S0 T T' : Nat} {c0 : PE} {ph : PH} (h : LSt kd S0 c0 T ph) (hT : T ≤ T') : LSt kd S0 c0 T' ph := by
  obtain ⟨p, a, z, N, t, fs, h⟩ := h
  exact ⟨p, a, z, N, t, fs, h.up hT⟩
theorem LSt.c0 {kd : Bool} {S0 T : Nat} {c0 : PE} {ph : PH} (h : LSt kd S0 c0 T ph) : ph[0]? = some c0 := by
  obtain ⟨p, a, z, N, t, fs, h⟩ := h
  exact h.2.2.2.2.1
theorem law_loop {S0 L : Nat} {xs : Nat → Int32} (hL : L ≤ 2048) : ∀ (m i T : Nat) (ph : PH), L < i + 4 * m + 4 ∧ i ≤ 2052 → T + 60 * m ≤ 50000 → LSt true S0 (.inl (L, xs)) T ph → ZR 12 0 10 [some (.ref 0), some (.ref 2), some (.ref 75), some (.int (iv (i : Int)))] [] ph (fun v ph' => v = some (.int (iv 1)) ∧ ∃ T, LSt true S0 (.inl (L, xs)) T ph') := by
  intro m
  induction m with
  | zero =>
    intro i T ph hm hT hh
    have hc0 := hh.c0
    refine zr_cut hk_0 rw_0_10 ?_
    refine zr_iload hk_0 rw_0_11 rfl ?_
    refine zr_aload hk_0 rw_0_12 rfl ?_
    refine zr_alen hk_0 rw_0_13 hc0 ?_
    rw [show Int32.ofNat L = iv (L : Int) from (Int32.ofInt_eq_ofNat).symm]
    refine zi_const hk_0 rw_0_14 (c := 4) rfl ?_
    refine zi_sub hk_0 rw_0_15 ?_
    refine zi_icmp_gt hk_0 rw_0_16 (by unfold inR; omega) (by unfold inR; omega) (fun hgt => ?_) (fun hle => by omega)
    · refine zi_const (j := 537) hk_0 rw_0_537 (c := 1) rfl ?_
      exact zr_ireturnB hk_0 rw_0_538 (by decide) ⟨rfl, _, hh⟩
  | succ m ih =>
    intro i T ph hm hT hh
    have hc0 := hh.c0
    refine zr_cut hk_0 rw_0_10 ?_
    refine zr_iload hk_0 rw_0_11 rfl ?_
    refine zr_aload hk_0 rw_0_12 rfl ?_
    refine zr_alen hk_0 rw_0_13 hc0 ?_
    rw [show Int32.ofNat L = iv (L : Int) from (Int32.ofInt_eq_ofNat).symm]
    refine zi_const hk_0 rw_0_14 (c := 4) rfl ?_
    refine zi_sub hk_0 rw_0_15 ?_
    refine zi_icmp_gt hk_0 rw_0_16 (by unfold inR; omega) (by unfold inR; omega) (fun hgt => ?_) (fun hle => ?_)
    · refine zi_const (j := 537) hk_0 rw_0_537 (c := 1) rfl ?_
      exact zr_ireturnB hk_0 rw_0_538 (by decide) ⟨rfl, _, hh⟩
    have hi4 : i + 4 ≤ L := by omega
    have hQ : ∀ ph', LSt true S0 (.inl (L, xs)) (T + 60) ph' → ZR 12 0 535 [some (.ref 0), some (.ref 2), some (.ref 75), some (.int (iv (i : Int)))] [] ph' (fun v ph' => v = some (.int (iv 1)) ∧ ∃ T, LSt true S0 (.inl (L, xs)) T ph') := fun ph' h' => law_inc (ih (i + 4) (T + 60) ph' (by omega) (by omega) h')
    refine zr_aload hk_0 rw_0_17 rfl ?_
    refine zr_iload hk_0 rw_0_18 rfl ?_
    refine mz_ald hk_0 hc0 rw_0_19 i rfl (by omega) (by omega) ?_
    refine zi_const hk_0 rw_0_20 (c := 31) rfl ?_
    refine zr_iand hk_0 rw_0_21 ?_
    refine zr_switch hk_0 rw_0_22 (fun _ => hQ ph (hh.up (by omega))) (fun k r hr _ => ?_)
    match k, hr with
    | 0, hr => cases hr; exact law_c0 hL hi4 (by omega) hh hQ
    | 1, hr => cases hr; exact law_c1 hL hi4 (by omega) hh hQ
    | 2, hr => cases hr; exact law_c2 hL hi4 (by omega) hh hQ
    | 3, hr => cases hr; exact law_c3 hL hi4 (by omega) hh hQ
    | 4, hr => cases hr; exact law_c4 hL hi4 (by omega) hh hQ
    | 5, hr => cases hr; exact law_c5 hL hi4 (by omega) hh hQ
    | 6, hr => cases hr; exact law_c6 hL hi4 (by omega) hh hQ
    | 7, hr => cases hr; exact law_c7 hL hi4 (by omega) hh hQ
    | 8, hr => cases hr; exact law_c8 hL hi4 (by omega) hh hQ
    | 9, hr => cases hr; exact law_c9 hL hi4 (by omega) hh hQ
    | 10, hr => cases hr; exact law_c10 hL hi4 (by omega) hh hQ
    | 11, hr => cases hr; exact law_c11 hL hi4 (by omega) hh hQ
    | 12, hr => cases hr; exact law_c12 hL hi4 (by omega) hh hQ
    | 13, hr => cases hr; exact law_c13 hL hi4 (by omega) hh hQ
    | 14, hr => cases hr; exact law_c14 hL hi4 (by omega) hh hQ
    | 15, hr => cases hr; exact law_c15 hL hi4 (by omega) hh hQ
    | 16, hr => cases hr; exact law_c16 hL hi4 (by omega) hh hQ
    | 17, hr => cases hr; exact law_c17 hL hi4 (by omega) hh hQ
    | 18, hr => cases hr; exact law_c18 hL hi4 (by omega) hh hQ
    | 19, hr => cases hr; exact law_c19 hL hi4 (by omega) hh hQ
    | 20, hr => cases hr; exact law_c20 hL hi4 (by omega) hh hQ
    | 21, hr => cases hr; exact law_c21 hL hi4 (by omega) hh hQ
    | 22, hr => cases hr; exact law_c22 hL hi4 (by omega) hh hQ
    | 23, hr => cases hr; exact law_c23 hL hi4 (by omega) hh hQ
    | 24, hr => cases hr; exact law_c24 hL hi4 (by omega) hh hQ
    | 25, hr => cases hr; exact law_c25 hL hi4 (by omega) hh hQ
    | k + 26, hr => simp at hr
theorem law_start {L : Nat} {xs : Nat → Int32} (hL : L ≤ 2048) : ZR 12 0 0 [some (.ref 0)] [] [.inl (L, xs), .inl (5, tbV)] (fun v ph' => v = some (.int (iv 1)) ∧ ∃ T, LSt true (L + 17073) (.inl (L, xs)) T ph') := by
  refine zr_new hk_0 rw_0_0 rfl rfl ?_
  refine zr_dup hk_0 rw_0_1 rfl ?_
  refine zr_special (L := 1) (n := 0) (as := []) (r := [.ref 2]) hk_0 rw_0_2 (by decide) (by decide) ⟨rfl, rfl, rfl⟩ rfl rfl (Nat.le_of_ble_eq_true rfl) (Nat.le_of_ble_eq_true rfl) (cf_new (L := L) (xs := xs)) ?_
  rintro w1 ph1 ⟨rfl, hl, hW, c0, c2, c3, ⟨t, c4, ht⟩, c8, ⟨f, c9, hf⟩, hsz⟩
  refine zr_astoreE hk_0 rw_0_3 rfl (lv' := [some (.ref 0), some (.ref 2)]) rfl ?_
  refine zr_new hk_0 rw_0_4 rfl rfl ?_
  rw [hl]
  refine zr_dup hk_0 rw_0_5 rfl ?_
  have hl2 : (ph1 ++ [(.inr (.inr (9, [.null, .int 0, .null, .int 0, .int 0, .null, .null, .int 0, .null, .null, .null, .null, .null, .null, .null])) : PE)]).length = 76 := by rw [List.length_append, hl]; rfl
  have hv2 : (ph1 ++ [(.inr (.inr (9, [.null, .int 0, .null, .int 0, .int 0, .null, .null, .int 0, .null, .null, .null, .null, .null, .null, .null])) : PE)])[75]? = some (.inr (.inr (9, [.null, .int 0, .null, .int 0, .int 0, .null, .null, .int 0, .null, .null, .null, .null, .null, .null, .null]))) := by rw [List.getElem?_append_right (by omega), hl]; rfl
  refine zr_special (L := 1) (n := 0) (as := []) (r := [.ref 75]) hk_0 rw_0_6 (by decide) (by decide) ⟨rfl, rfl, rfl⟩ rfl rfl (Nat.le_of_ble_eq_true rfl) (Nat.le_of_ble_eq_true rfl) (mod_new 9 hl2 hv2) ?_
  rintro w2 ph2 ⟨rfl, B, q, hlo, hBl, hBs, rfl, hPq⟩
  refine zr_astoreE hk_0 rw_0_7 rfl (lv' := [some (.ref 0), some (.ref 2), some (.ref 75)]) rfl ?_
  refine zi_const hk_0 rw_0_8 (c := 0) rfl ?_
  refine zi_istore hk_0 rw_0_9 rfl (lv' := [some (.ref 0), some (.ref 2), some (.ref 75), some (.int (iv (((0 : Nat) : Int))))]) rfl ?_
  have hB : 87 ≤ B.length := by omega
  have hcell : ∀ x, x < 75 → ∀ {c : PE}, ph1[x]? = some c → (mh B q (fun _ _ => 0) z00)[x]? = some c := fun x hx c hc => by
    rw [mh_lo hB hx, hlo x hx, List.getElem?_append_left (by omega)]
    exact hc
  have hsz2 : szH (mh B q (fun _ _ => 0) z00) = L + 17073 := by
    rw [hBs, szH_app, hsz]
    show L + 2913 + 15 + 14145 = _
    omega
  refine law_loop hL 513 0 0 _ (by omega) (by omega) ⟨q, _, z00, 0, t, _, ?_, ⟨⟨none, f, 0, hcell 2 (by omega) c2, hcell 8 (by omega) c8, hcell 9 (by omega) c9, by omega, fun j hj => absurd hj (Nat.not_lt_zero _), fun r hr => (by cases hr), fun j hj r hr => (by rw [hf j hj] at hr; cases hr), ?_, ?_⟩, _, mh_MH hB⟩, mh_MH hB, ⟨0, by omega, rfl, fun s hs => ?_⟩, hcell 0 (by omega) c0, by omega, rfl, hcell 3 (by omega) c3, rfl, ?_, hcell 4 (by omega) c4, fun j hj => (ht j hj).symm, fun _ => ?_⟩
  · intro x x1 x2 ty hty
    rw [mh_len hB] at x2 ⊢
    by_cases hx : x < 75
    · obtain ⟨c, k1, k2⟩ := hW x x1 (by omega) ty hty
      exact ⟨c, hcell x hx k1, k2.mono (by omega)⟩
    · obtain ⟨k, rfl⟩ : ∃ k, x = 75 + k := ⟨x - 75, by omega⟩
      rw [psi_mo k (by omega)] at hty
      rw [mh_get hB (by omega)]
      exact mo_cell hPq hB k (by omega) ty hty
  · rw [mh_len hB, hBl]
    unfold blk
    rw [hf 0 (by omega), hf 1 (by omega), hf 2 (by omega), hf 3 (by omega), hf 4 (by omega)]
    first | rfl | (simp [nn]; done) | (unfold nn; omega)
  · rw [hsz2]
    unfold blk
    rw [hf 0 (by omega), hf 1 (by omega), hf 2 (by omega), hf 3 (by omega), hf 4 (by omega)]
    first | rfl | (simp [nn]; done) | (unfold nn; omega)
  · obtain rfl : s = 0 := by omega
    exact sl0.mpr hPq
  · exact congrArg (fun x => some (Value.int x)) oI_Z
  · show some (Value.int (oI 2147483639)) = some (Value.int (iv (-9)))
    rw [oI_iv, show (((2147483639 : Nat) : Int) - 2147483648) = -9 from by omega]
theorem all_runs (L : Nat) (xs : Nat → Int32) (hL : L ≤ 2048) : ∃ (n : Nat) (h' : PH) (nc ns : Nat), run n 12 0 (0, [(0, .ref 0)], [], [.inl (L, xs), .inl (5, tbV)], 0, 0) = some (some (.int 1), h', nc, ns) ∧ nc ≤ 600000 ∧ ns ≤ 7302250 := by
  obtain ⟨e0, he, m, v, ph', nc, ns, r1, rfl, T, p, a, z, N, t, fs, h⟩ := law_start (xs := xs) hL [(0, .ref 0)] 0 0 (by
    intro i v hv
    match i, hv with
    | 0, hv => cases hv; rfl
    | i + 1, hv => simp at hv)
  rw [rw_0_0] at he
  cases he
  refine ⟨m, ph', nc, ns, r1, ?_⟩
  obtain ⟨b1, b2⟩ := run_room _ _ _ _ _ r1
  obtain ⟨⟨tr, f, s, -, -, -, -, -, -, -, gl, gz⟩, -⟩ := h.2.1
  have hb := blk_le tr f
  have b1 : nc + 2 = 0 + ph'.length := b1
  have b2 : ns + (L + (5 + 0)) = 0 + szH ph' := b2
  rw [gz] at b2
  omega
theorem whole_start {p : Program} {e : Env} {s : State} {m : MethodId} {below : List Frame} {meth : Method} {c : Code} (l : Launch) (hflags : l.flags = flags0) {b L : Nat} {xs : Nat → Int32} (hL : L ≤ 2048) (C0 : lw_At p s m meth c b L xs) : W p l e room_1 s m #[Value.ref b] below meth c s.heap [] 0 0 (lw_Z below #[Value.ref b] s) (entryFrame m ([Value.ref b] : List Value).toArray 4) := by
  exact start_of all_runs l hL C0

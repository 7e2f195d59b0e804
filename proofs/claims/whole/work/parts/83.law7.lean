/-! the law: its loop, its start -/
theorem and15 (x : Int32) : ∃ k : Nat, k < 16 ∧ x &&& 15 = nI k := by
  have h : (x &&& 15).toBitVec.toNat ≤ 15 := by
    rw [Int32.toBitVec_and, BitVec.toNat_and]
    exact Nat.and_le_right
  refine ⟨(x &&& 15).toBitVec.toNat, by omega, ?_⟩
  apply Int32.toBitVec_inj.mp
  show _ = BitVec.ofNat 32 (x &&& 15).toBitVec.toNat
  rw [BitVec.ofNat_toNat]
  simp
theorem L5 {L i : Nat} (h : L < 5) (hi : i < 2 ^ 31) : nI L - 5 < nI i := by
  have h0 : (0 : Int32) ≤ nI i := nI_pos' hi
  have h1 : nI L - 5 < 0 := by
    rcases (show L = 0 ∨ L = 1 ∨ L = 2 ∨ L = 3 ∨ L = 4 by omega) with rfl | rfl | rfl | rfl | rfl <;> decide
  rw [Int32.lt_iff_toInt_lt] at h1 ⊢
  rw [Int32.le_iff_toInt_le] at h0
  omega
theorem nI_inc5 (n : Nat) : nI (5 * n) + Int32.ofInt 5 = nI (5 * (n + 1)) := (nI_add (5 * n) 5)
theorem aJ_ne {G : EG} {ms : MS} {d : DS} {w : hp_M} {a : Nat} {f : Nat → Int64} (h : ePic G ms d w) (ha : w a = none) : ¬ Own ms d a := fun q => by
  obtain ⟨x, hx⟩ := h.own q
  rw [ha] at hx
  cases hx
set_option maxHeartbeats 8000000 in
set_option maxRecDepth 100000 in
theorem law_loop {p : Program} {e : Env} {s : State} {m : MethodId} {below : List Frame} {meth : Method} {c : Code} {l : Launch} {b L : Nat} {xs : Nat → Int32} {G : EG} {S0 : Nat} {Q : Nat → Nat} {xo oa od : Nat} (C : lwC p s m meth c l b L xs G S0) {H : Heap} {locs : List Loc} {ls : Array Slot} {w : hp_M} {ms : MS} {d : DS} {dp : Nat → Nat} {X : XS} {fo : Nat → Int64} {fd : Nat → UInt64} (h : LI G Q xo oa od w ms d dp X fo fd) (hl : lv_has ls 9 [(5, .int (nI (5 * 0))), (0, .ref b), (1, .ref xo), (2, .ref (Q 25)), (3, .ref oa), (4, .ref od)]) (hI : eI G S0 w H) (hS : va_S (hp_A S0) s.heap H locs) : W p l e room_1 s m #[Value.ref b] below meth c H locs 100 2000 (lw_Z below #[Value.ref b] s) (F0 m 28 ls []) := by
  obtain ⟨⟨hx, hb, hr, hml, hown, hts0, hX, hbl, hlocks, hgv⟩, hlt, hE, hN, eS0, hL⟩ := id C
  have hbA : ¬ hp_A S0 b := by rw [eS0]; exact Nat.not_le.mpr hbl
  have hz : S0 ≤ s.heap.size := Nat.le_of_eq eS0
  refine W.lpw (fun j (q : hp_M × Nat) => (∃ ms d dp X fo fd, LI G Q xo oa od q.1 ms d dp X fo fd) ∧ 5 * q.2 ≤ L ∧ j = 513 - q.2) (fun q => q.1) (fun q => [(5, .int (nI (5 * q.2))), (0, .ref b), (1, .ref xo), (2, .ref (Q 25)), (3, .ref oa), (4, .ref od)]) (fun q => 100 + 40 * q.2) (fun q => 2000 + 200 * q.2) 9 28 (fun _ => []) 513 (w, 0) ⟨⟨ms, d, dp, X, fo, fd, h⟩, Nat.zero_le _, rfl⟩ hl hI hS ?_
  rintro j ⟨z, n⟩ ls H locs ⟨⟨ms, d, dp, X, fo, fd, h⟩, hn, ej⟩ hl hI hS O
  dsimp only at h hn ej hl hI ⊢
  have fin : W p l e room_1 s m #[Value.ref b] below meth c H locs (100 + 40 * n) (2000 + 200 * n) (lw_Z below #[Value.ref b] s) (F0 m 1276 ls []) := by
    refine lv_iconst (v := 1) hx hb d_law_1276 (by decide) ?_
    refine va_forget (fun q hq => by rw [← eS0]; exact hS.2.2 q hq) ?_
    refine W.widen (k := room_1.cells) (n := room_1.slots) (Nat.le_trans (by omega) rm_c) (Nat.le_trans (by omega) rm_s) ?_
    exact lw_ret hx hb hr hlocks d_law_1277
  refine lv_iload hx hb d_law_28 (lv_at hl 0 rfl) ?_
  refine lv_aload_n hx hb d_law_30 rfl (lv_at hl 1 rfl) ?_
  refine va_slen hx hb hX hbl hbA hS d_law_31 ?_
  by_cases hL5 : 5 ≤ L
  rotate_left
  · refine lv_iconst (v := 5) hx hb d_law_32 (by decide) ?_
    refine lv_isub hx hb d_law_33 ?_
    refine lv_icmp_gt (tgt := 1276) hx hb d_law_34 (by decide) (fun c9 => ?_) (fun c9 => absurd (L5 (by omega) (by omega)) c9)
    exact fin
  refine lv_iconst (v := 5) hx hb d_law_32 (by decide) ?_
  refine mv_isub hx hb L 5 rfl rfl (by omega) d_law_33 ?_
  refine mv_cgt (tgt := 1276) hx hb (5 * n) (L - 5) rfl rfl (by omega) (by omega) d_law_34 (by decide) (fun c1 => ?_) (fun c1 => ?_)
  · exact fin
  have hi : 5 * n + 4 < L := by omega
  have hcN : 100 + 40 * n + 40 ≤ room_1.cells := Nat.le_trans (by omega) rm_c
  have hsN : 2000 + 200 * n + 200 ≤ room_1.slots := Nat.le_trans (by omega) rm_s
  have K : lwK p l e s m below meth c b G S0 Q xo oa od (5 * n) (100 + 40 * n) (2000 + 200 * n) := by
    intro w9 ms9 d9 dp9 X9 fo9 fd9 H locs ls h9 hl hI hS
    refine lv_iinc (v := nI (5 * (n + 1))) (lv' := [(5, .int (nI (5 * (n + 1)))), (0, .ref b), (1, .ref xo), (2, .ref (Q 25)), (3, .ref oa), (4, .ref od)]) hx hb d_law_1270 hl (k := 0) rfl (nI_inc5 n) (by decide) rfl (fun ls hl => ?_)
    refine lv_goto (tgt := 28) hx hb d_law_1273 (by decide) ?_
    refine W.widen (k := 100 + 40 * (n + 1)) (n := 2000 + 200 * (n + 1)) (by omega) (by omega) ?_
    exact O (513 - (n + 1)) (w9, n + 1) ls H locs (by omega) ⟨⟨ms9, d9, dp9, X9, fo9, fd9, h9⟩, by show 5 * (n + 1) ≤ L; omega, rfl⟩ hl hI hS
  refine lv_aload_n hx hb d_law_37 rfl (lv_at hl 1 rfl) ?_
  refine lv_iload hx hb d_law_38 (lv_at hl 0 rfl) ?_
  refine mv_sld hx hb hX hbl hbA hS (5 * n) rfl (by omega) (by omega) d_law_40 ?_
  refine lv_bipush (v := 15) hx hb d_law_41 (by decide) ?_
  refine lv_iand hx hb d_law_43 ?_
  obtain ⟨k, hk, ek⟩ := and15 (xs (5 * n))
  rw [ek]
  rcases (show k = 0 ∨ k = 1 ∨ k = 2 ∨ k = 3 ∨ k = 4 ∨ k = 5 ∨ k = 6 ∨ k = 7 ∨ k = 8 ∨ k = 9 ∨ k = 10 ∨ k = 11 ∨ k = 12 ∨ k = 13 ∨ k = 14 ∨ k = 15 by omega) with rfl | rfl | rfl | rfl | rfl | rfl | rfl | rfl | rfl | rfl | rfl | rfl | rfl | rfl | rfl | rfl
  · refine lv_tableIn (off := 80) (tgt := 124) hx hb d_law_44 (by decide) (by decide) (by decide) (by decide) ?_
    exact law_c0 C (5 * n) hi h hl hI hS hcN hsN K
  · refine lv_tableIn (off := 160) (tgt := 204) hx hb d_law_44 (by decide) (by decide) (by decide) (by decide) ?_
    exact law_c1 C (5 * n) hi h hl hI hS hcN hsN K
  · refine lv_tableIn (off := 240) (tgt := 284) hx hb d_law_44 (by decide) (by decide) (by decide) (by decide) ?_
    exact law_c2 C (5 * n) hi h hl hI hS hcN hsN K
  · refine lv_tableIn (off := 320) (tgt := 364) hx hb d_law_44 (by decide) (by decide) (by decide) (by decide) ?_
    exact law_c3 C (5 * n) hi h hl hI hS hcN hsN K
  · refine lv_tableIn (off := 380) (tgt := 424) hx hb d_law_44 (by decide) (by decide) (by decide) (by decide) ?_
    exact law_c4 C (5 * n) hi h hl hI hS hcN hsN K
  · refine lv_tableIn (off := 450) (tgt := 494) hx hb d_law_44 (by decide) (by decide) (by decide) (by decide) ?_
    exact law_c5 C (5 * n) hi h hl hI hS hcN hsN K
  · refine lv_tableIn (off := 514) (tgt := 558) hx hb d_law_44 (by decide) (by decide) (by decide) (by decide) ?_
    exact law_c6 C (5 * n) hi h hl hI hS hcN hsN K
  · refine lv_tableIn (off := 626) (tgt := 670) hx hb d_law_44 (by decide) (by decide) (by decide) (by decide) ?_
    exact law_c7 C (5 * n) hi h hl hI hS hcN hsN K
  · refine lv_tableIn (off := 674) (tgt := 718) hx hb d_law_44 (by decide) (by decide) (by decide) (by decide) ?_
    exact law_c8 C (5 * n) hi h hl hI hS hcN hsN K
  · refine lv_tableIn (off := 722) (tgt := 766) hx hb d_law_44 (by decide) (by decide) (by decide) (by decide) ?_
    exact law_c9 C (5 * n) hi h hl hI hS hcN hsN K
  · refine lv_tableIn (off := 778) (tgt := 822) hx hb d_law_44 (by decide) (by decide) (by decide) (by decide) ?_
    exact law_c10 C (5 * n) hi h hl hI hS hcN hsN K
  · refine lv_tableIn (off := 844) (tgt := 888) hx hb d_law_44 (by decide) (by decide) (by decide) (by decide) ?_
    exact law_c11 C (5 * n) hi h hl hI hS hcN hsN K
  · refine lv_tableIn (off := 912) (tgt := 956) hx hb d_law_44 (by decide) (by decide) (by decide) (by decide) ?_
    exact law_c12 C (5 * n) hi h hl hI hS hcN hsN K
  · refine lv_tableIn (off := 1022) (tgt := 1066) hx hb d_law_44 (by decide) (by decide) (by decide) (by decide) ?_
    exact law_c13 C (5 * n) hi h hl hI hS hcN hsN K
  · refine lv_tableIn (off := 1133) (tgt := 1177) hx hb d_law_44 (by decide) (by decide) (by decide) (by decide) ?_
    exact law_c14 C (5 * n) hi h hl hI hS hcN hsN K
  · refine lv_tableIn (off := 1201) (tgt := 1245) hx hb d_law_44 (by decide) (by decide) (by decide) (by decide) ?_
    exact law_c15 C (5 * n) hi h hl hI hS hcN hsN K
set_option maxHeartbeats 8000000 in
set_option maxRecDepth 100000 in
theorem whole_start {p : Program} {e : Env} {s : State} {m : MethodId} {below : List Frame} {meth : Method} {c : Code} (l : Launch) (hlt : l.stackTraces = false) {b L : Nat} {xs : Nat → Int32} (hL : L ≤ 2560) (C0 : lw_At p s m meth c b L xs) : W p l e room_1 s m #[Value.ref b] below meth c s.heap [] 0 0 (lw_Z below #[Value.ref b] s) (entryFrame m ([Value.ref b] : List Value).toArray 9) := by
  obtain ⟨G, hE, hN⟩ := lw_en C0
  obtain ⟨S0, eS0⟩ : ∃ z9, z9 = s.heap.size := ⟨_, rfl⟩
  rw [← eS0] at hE
  have C : lwC p s m meth c l b L xs G S0 := ⟨C0, hlt, hE, hN, eS0, hL⟩
  obtain ⟨hx, hb, hr, hml, hown, hts0, hX, hbl, hlocks, hgv⟩ := C0
  have hg : ∀ w ∈ gw, w.before #[Value.ref b] s = true := fun w h => hts0 w (gw_lw h)
  have hts : ∀ w ∈ c_La_node :: gw, w.before #[Value.ref b] s = true := fun w h => (List.mem_cons.mp h).elim (fun e9 => by rw [e9]; exact hg _ kw_La_node) (hg w)
  have hK := hE.K
  have hz : S0 ≤ s.heap.size := Nat.le_of_eq eS0
  have hS : va_S (hp_A S0) s.heap s.heap [] := va_S.rf
  have hI : eI G S0 (fun _ => none) s.heap := ⟨fun a x h => (by cases h), fun a x h => (by cases h)⟩
  obtain ⟨w, ew⟩ : ∃ z9 : hp_M, z9 = fun _ => none := ⟨_, rfl⟩
  rw [← ew] at hI
  have hl := lv_entry ([.ref b]) (n := 9) (Nat.le_of_ble_eq_true rfl)
  rw [lg_entry_eq]
  generalize (lg_sl ([.ref b]) ++ List.replicate (9 - (lg_sl ([.ref b])).length) Slot.unset).toArray = ls at hl ⊢
  have hl : lv_has ls 9 [(0, .ref b)] := hl
  refine hp_new (ci := 3) (fs := [.null, .null, .null, .int 0]) (T := F_Ea) (N := 4) hx hb hg i_Ea t_Ea t_Ea_ok hown (hg _ k_80) (hg _ k_81) (hg _ k_60) hK hI hS hz rfl n_Ea_fs (Nat.le_of_ble_eq_true rfl) (Nat.le_of_ble_eq_true rfl) d_law_0 (fun xo H hn_xo hs_xo hz_xo hI hS => ?_)
  obtain ⟨w1, ew1⟩ : ∃ z9, z9 = hp_set w xo (.inr (3, [.null, .null, .null, .int 0])) := ⟨_, rfl⟩
  have hI : eI G S0 w1 H := by rw [ew1]; exact hI
  have hxo : w1 xo = some (.inr (3, [.null, .null, .null, .int 0])) := by rw [ew1]; exact hp_set_eq _ _ _
  refine lv_dup hx hb d_law_3 rfl ?_
  refine ec_v (va_runI (As := []) (rest := [.ref xo]) ⟨hx, hb, hml, hown, hts⟩ (m_Ea_init l G S0 w1 xo hxo) (cwI 0 hts (gw_code k_84) rfl rfl rfl (hg _ k_60) (hg _ k_82) (hg _ k_83) rfl (by decide +kernel) ⟨Nat.le_of_ble_eq_true rfl, Nat.le_of_ble_eq_true rfl⟩) (eB.preS hE hI hS hz) rfl rfl hl.1 rfl (lv_room (Nat.le_of_ble_eq_true rfl)) d_law_4 ⟨Nat.le_of_ble_eq_true rfl, Nat.le_of_ble_eq_true rfl⟩) hS (fun w2 H locs ew2 hI hsz hS => ?_)
  obtain ⟨ms, hme, hpic, hno, hfr2, how2⟩ := ew2
  have hob := hpic.1
  rw [hme] at hob
  refine lv_astore_n (lv' := [(1, .ref xo), (0, .ref b)]) hx hb d_law_7 rfl hl (by decide) rfl (fun ls hl => ?_)
  refine hp_new (ci := 5) (fs := [.null, .null, .null, .null, .null, .null, .null, .null, .null, .null, .null, .null, .null, .null, .null, .null, .null, .null, .null, .null, .null, .null, .null, .null, .null, .int 0, .int 0, .int 0]) (T := F_Mo) (N := 28) hx hb hg i_Mo t_Mo t_Mo_ok hown (hg _ k_763) (hg _ k_764) (hg _ k_67) hK hI hS hz rfl n_Mo_fs (Nat.le_of_ble_eq_true rfl) (Nat.le_of_ble_eq_true rfl) d_law_8 (fun mo H hn_mo hs_mo hz_mo hI hS => ?_)
  obtain ⟨w3, ew3⟩ : ∃ z9, z9 = hp_set w2 mo (.inr (5, [.null, .null, .null, .null, .null, .null, .null, .null, .null, .null, .null, .null, .null, .null, .null, .null, .null, .null, .null, .null, .null, .null, .null, .null, .null, .int 0, .int 0, .int 0])) := ⟨_, rfl⟩
  have hI : eI G S0 w3 H := by rw [ew3]; exact hI
  have ne_hob_mo := hp_ne_n hob hn_mo
  have hob : w3 xo = some (.inr (3, [.ref (mAd ms 0 0), .ref (mNa ms), .ref (mCa ms), .int (sPt d0)])) := by rw [ew3, hp_set_ne ne_hob_mo]; exact hob
  have hmo : w3 mo = some (.inr (5, [.null, .null, .null, .null, .null, .null, .null, .null, .null, .null, .null, .null, .null, .null, .null, .null, .null, .null, .null, .null, .null, .null, .null, .null, .null, .int 0, .int 0, .int 0])) := by rw [ew3]; exact hp_set_eq _ _ _
  have nmo : ¬ Own ms d0 mo := aJ_ne (f := fun _ => 0) hpic hn_mo
  have hpic3 : ePic G ms d0 w3 := hpic.wc (fun a ha => by rw [ew3]; exact hp_set_ne (fun e9 => nmo (by rw [← e9]; exact ha)))
  refine lv_dup hx hb d_law_11 rfl ?_
  refine ec_v (va_runI (As := []) (rest := [.ref mo]) ⟨hx, hb, hml, hown, hts⟩ (m_Mo_init l G S0 w3 mo hmo) (cwI 0 hts (gw_code k_767) rfl rfl rfl (hg _ k_67) (hg _ k_765) (hg _ k_766) rfl (by decide +kernel) ⟨Nat.le_of_ble_eq_true rfl, Nat.le_of_ble_eq_true rfl⟩) (eB.preS hE hI hS hz) rfl rfl hl.1 rfl (lv_room (Nat.le_of_ble_eq_true rfl)) d_law_12 ⟨Nat.le_of_ble_eq_true rfl, Nat.le_of_ble_eq_true rfl⟩) hS (fun w4 H locs ew4 hI hsz hS => ?_)
  obtain ⟨Q, X, hq25, hQ, ew4, hmP, hqn⟩ := ew4
  have hqo : ∀ j, j < 26 → ¬ Own ms d0 (Q j) := by
    intro j hj
    rcases Nat.lt_or_ge j 25 with q | q
    · exact aJ_ne (f := fun _ => 0) hpic3 (hqn j q)
    · rw [show j = 25 by omega, hq25]; exact nmo
  have hpic4 : ePic G ms d0 w4 := hpic3.wc (fun a ha => by rw [ew4]; exact mW_out (fun j hj e9 => hqo j hj (e9 ▸ ha)))
  have hqc4 : ∀ j, j < 26 → w4 (Q j) = some (mCell G Q X j) := fun j hj => by rw [ew4]; exact mW_at hQ j hj
  refine lv_astore_n (lv' := [(2, .ref mo), (1, .ref xo), (0, .ref b)]) hx hb d_law_15 rfl hl (by decide) rfl (fun ls hl => ?_)
  refine lv_iconst (v := 1) hx hb d_law_16 (by decide) ?_
  refine hp_newa (atype := .long) (N' := 1) (a0 := (1, .inr (.inl (fun _ => 0)))) hx hb (hg _ k_1020) rfl hK hI hS hz 3 rfl (fun _ h => by cases h) (fun _ => rfl) (by decide) (by decide) (by decide) (Nat.le_of_ble_eq_true rfl) (Nat.le_of_ble_eq_true rfl) d_law_17 (fun oa H hn_oa hs_oa hz_oa hI hS => ?_)
  obtain ⟨w5, ew5⟩ : ∃ z9, z9 = hp_set w4 oa (.inl (G.2.2.1 3, 1, .inr (.inl (fun _ => 0)))) := ⟨_, rfl⟩
  have hI : eI G S0 w5 H := by rw [ew5]; exact hI
  have hoa : w5 oa = some (.inl (G.2.2.1 3, 1, .inr (.inl (fun _ => 0)))) := by rw [ew5]; exact hp_set_eq _ _ _
  have noa : ¬ Own ms d0 oa := aJ_ne (f := fun _ => 0) hpic4 hn_oa
  have qoa : ∀ j, j < 26 → Q j ≠ oa := fun j hj e9 => by rw [← e9, hqc4 j hj] at hn_oa; cases hn_oa
  have hpic5 : ePic G ms d0 w5 := hpic4.wc (fun a ha => by rw [ew5]; exact hp_set_ne (fun e9 => noa (by rw [← e9]; exact ha)))
  have hqc5 : ∀ j, j < 26 → w5 (Q j) = some (mCell G Q X j) := fun j hj => by rw [ew5, hp_set_ne (qoa j hj)]; exact hqc4 j hj
  refine lv_astore_n (lv' := [(3, .ref oa), (2, .ref mo), (1, .ref xo), (0, .ref b)]) hx hb d_law_19 rfl hl (by decide) rfl (fun ls hl => ?_)
  refine lv_iconst (v := 1) hx hb d_law_20 (by decide) ?_
  refine hp_newa (atype := .double) (N' := 1) (a0 := (1, .inr (.inr (.inr (.inl (fun _ => FP.dconst0)))))) hx hb (hg _ k_165) rfl hK hI hS hz 1 rfl (fun _ h => by cases h) (fun _ => rfl) (by decide) (by decide) (by decide) (Nat.le_of_ble_eq_true rfl) (Nat.le_of_ble_eq_true rfl) d_law_21 (fun od H hn_od hs_od hz_od hI hS => ?_)
  obtain ⟨w6, ew6⟩ : ∃ z9, z9 = hp_set w5 od (.inl (G.2.2.1 1, 1, .inr (.inr (.inr (.inl (fun _ => FP.dconst0)))))) := ⟨_, rfl⟩
  have hI : eI G S0 w6 H := by rw [ew6]; exact hI
  have ne_hoa_od := hp_ne_n hoa hn_od
  have hoa : w6 oa = some (.inl (G.2.2.1 3, 1, .inr (.inl (fun _ => 0)))) := by rw [ew6, hp_set_ne ne_hoa_od]; exact hoa
  have hod : w6 od = some (.inl (G.2.2.1 1, 1, .inr (.inr (.inr (.inl (fun _ => FP.dconst0)))))) := by rw [ew6]; exact hp_set_eq _ _ _
  have nod : ¬ Own ms d0 od := aJ_ne (f := fun _ => 0) hpic5 hn_od
  have qod : ∀ j, j < 26 → Q j ≠ od := fun j hj e9 => by rw [← e9, hqc5 j hj] at hn_od; cases hn_od
  have hpic6 : ePic G ms d0 w6 := hpic5.wc (fun a ha => by rw [ew6]; exact hp_set_ne (fun e9 => nod (by rw [← e9]; exact ha)))
  have hqc6 : ∀ j, j < 26 → w6 (Q j) = some (mCell G Q X j) := fun j hj => by rw [ew6, hp_set_ne (qod j hj)]; exact hqc5 j hj
  refine lv_astore (lv' := [(4, .ref od), (3, .ref oa), (2, .ref mo), (1, .ref xo), (0, .ref b)]) hx hb d_law_23 hl (by decide) rfl (fun ls hl => ?_)
  refine lv_iconst (v := 0) hx hb d_law_25 (by decide) ?_
  refine lv_istore (lv' := [(5, .int 0), (4, .ref od), (3, .ref oa), (2, .ref mo), (1, .ref xo), (0, .ref b)]) hx hb d_law_26 hl (by decide) rfl (fun ls hl => ?_)
  have hLI : LI G Q xo oa od w6 ms d0 dp0 X (fun _ => 0) (fun _ => FP.dconst0) := ⟨⟨⟨hme, hpic6, hno⟩, ⟨hQ, hqc6, hqo⟩, hoa, hod, noa, nod, fun j hj => ⟨qoa j hj, qod j hj⟩, ne_hoa_od⟩, t0_ok, v0_ok, rfl, hmP⟩
  refine W.widen (k := 100) (n := 2000) (Nat.le_of_ble_eq_true rfl) (Nat.le_of_ble_eq_true rfl) ?_
  rw [← hq25] at hl
  exact law_loop C hLI (lv_sub hl [0, 5, 4, 3, 2, 1] rfl) hI hS

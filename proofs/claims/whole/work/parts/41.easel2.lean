/-! Easel: how deep, settling -/
/-- the depth of the deepest of the first nodes that is in a node -/
noncomputable def mxD (d : DS) (dp : Nat → Nat) (n : Nat) : Nat → Nat
  | 0 => 0
  | i + 1 => @ite Nat (sTh d i = true ∧ inn d i n) (Classical.propDecidable _) (max (mxD d dp n i) (dp i)) (mxD d dp n i)
theorem mxD_y {d : DS} {dp : Nat → Nat} {n i : Nat} (h : sTh d i = true ∧ inn d i n) : mxD d dp n (i + 1) = max (mxD d dp n i) (dp i) := if_pos h
theorem mxD_n {d : DS} {dp : Nat → Nat} {n i : Nat} (h : ¬ (sTh d i = true ∧ inn d i n)) : mxD d dp n (i + 1) = mxD d dp n i := if_neg h
theorem mxD_5 {d : DS} {dp : Nat → Nat} {n : Nat} (h : tOk d dp) : ∀ i, i ≤ 14 → mxD d dp n i ≤ 5
  | 0, _ => Nat.zero_le _
  | i + 1, hi => by
    have ih := mxD_5 h (n := n) i (by omega)
    by_cases q : sTh d i = true ∧ inn d i n
    · rw [mxD_y q]
      have := h.2.2.2.2.2.2 i (by omega) q.1
      omega
    · rw [mxD_n q]; exact ih
theorem mx_I {a b : Nat} (ha : a < 2 ^ 31) (hb : b < 2 ^ 31) : (if nI a < nI b then nI b else nI a) = nI (max a b) := by
  rcases Nat.lt_or_ge a b with q | q
  · rw [if_pos (nI_lt q hb), Nat.max_eq_right (by omega)]
  · rw [if_neg (fun h => absurd ((nI_leI (a := b) (b := a) hb ha).mpr q) (Int32.not_le.mpr h)), Nat.max_eq_left q]
set_option maxHeartbeats 4000000 in
set_option maxRecDepth 100000 in
theorem m_Ea_deepestIn (l : Launch) (G : EG) (S0 : Nat) (w : hp_M) (ms : MS) (d : DS) (dp : Nat → Nat) (hp' : ePic G ms d w) (hno : nOk ms d) (htr : tOk d dp) (n : Nat) (hn14 : n < 14) (hnt : sTh d n = true) : Met l y_Ea_deepestIn w_Ea_deepestIn (rl 1 0 0) (eP G S0 w [.ref (mEo ms), .ref (mAd ms n 0)]) (va_Qi (fun r z => r = nI (mxD d dp n 14) ∧ z = w) (eW G S0) (hp_A S0)) 0 0 (hp_A S0) := by
  refine Met.ofW (cc := b_Ea_deepestIn) (maxL := 4) (ret := (some .int)) (by decide) rfl ?_
  intro p e s m args below meth c s₁ B hml hv
  obtain ⟨rfl, hE, hI, hz⟩ := hv
  have hx := B.exec
  have hb := B.bytes
  have hr := B.returns
  have hts := atoms_spec (ws := w_Ea_deepestIn) B.pre
  have hg : ∀ w ∈ gw, w.before _ s = true := fun w h => hts w (List.mem_cons_of_mem _ h)
  have hown : s.vm.findClass "SceneEasel" = some m.cls := findClass_of_methodNamed B.named
  have hlocks := B.notSynchronized
  have hK := hE.K
  have hS : va_S (hp_A S0) s.heap s.heap [] := va_S.rf
  have hl := lv_entry ([.ref (mEo ms), .ref (mAd ms n 0)]) (n := 4) (Nat.le_of_ble_eq_true rfl)
  rw [lg_entry_eq]
  generalize (lg_sl ([.ref (mEo ms), .ref (mAd ms n 0)]) ++ List.replicate (4 - (lg_sl ([.ref (mEo ms), .ref (mAd ms n 0)])).length) Slot.unset).toArray = ls at hl ⊢
  have hl : lv_has ls 4 [(0, .ref (mEo ms)), (1, .ref (mAd ms n 0))] := hl
  have hob := hp'.1
  have hna := hp'.2.1
  refine lv_iconst (v := 0) hx hb d_Ea_deepestIn_0 (by decide) ?_
  refine lv_istore_n (lv' := [(2, .int 0), (0, .ref (mEo ms)), (1, .ref (mAd ms n 0))]) hx hb d_Ea_deepestIn_1 rfl hl (by decide) rfl (fun ls hl => ?_)
  refine lv_iconst (v := 0) hx hb d_Ea_deepestIn_2 (by decide) ?_
  refine lv_istore_n (lv' := [(3, .int 0), (2, .int 0), (0, .ref (mEo ms)), (1, .ref (mAd ms n 0))]) hx hb d_Ea_deepestIn_3 rfl hl (by decide) rfl (fun ls hl => ?_)
  refine W.lpw (fun j (i : Nat) => i ≤ 14 ∧ j = 14 - i) (fun (i : Nat) => w) (fun (i : Nat) => [(3, .int (nI i)), (2, .int (nI (mxD d dp n i))), (0, .ref (mEo ms)), (1, .ref (mAd ms n 0))]) (fun (i : Nat) => 0) (fun (i : Nat) => 0) 4 4 (fun (i : Nat) => []) (14) (0) (⟨Nat.zero_le _, rfl⟩) (lv_sub hl [0, 1, 2, 3] rfl) hI hS ?_
  rintro j i ls H locs hP hl hI hS ih
  try dsimp only at hP hl hI ⊢
  obtain ⟨h1, h3⟩ := hP
  refine lv_iload_n hx hb d_Ea_deepestIn_4 rfl (lv_at hl 0 rfl) ?_
  refine lv_bipush (v := 14) hx hb d_Ea_deepestIn_5 (by decide) ?_
  refine lv_icmp_ge (tgt := 52) hx hb d_Ea_deepestIn_7 (by decide) (fun c1 => ?_) (fun c1 => ?_)
  · have hi : 14 ≤ i := (nI_leI (a := 14) (b := i) (by omega) (by omega)).mp c1
    refine lv_iload_n hx hb d_Ea_deepestIn_52 rfl (lv_at hl 1 rfl) ?_
    exact W.iret (v := (nI (mxD d dp n i))) hx hb hr (fun t9 ht9 hW9 => ⟨⟨(nI (mxD d dp n i)), w, rfl, ⟨by rw [show i = 14 by omega], rfl⟩, eWo ht9 hI⟩, hS.F ht9⟩) hS.2.2 d_Ea_deepestIn_53
  · have hi : i < 14 := by
      rcases Nat.lt_or_ge i 14 with q | q
      · exact q
      · exact absurd ((nI_leI (a := 14) (b := i) (by omega) (by omega)).mpr q) c1
    refine lv_aload_n hx hb d_Ea_deepestIn_10 rfl (lv_at hl 2 rfl) ?_
    refine hp_get (ci := 3) (v := .ref (mNa ms)) (C := R_Ea) (T := F_Ea) (N := 4) hx hb hg i_Ea hown hK hI hob rfl 1 (by decide) (hg _ k_244) (fun _ h9 => h9) rfl d_Ea_deepestIn_11 ?_
    refine lv_iload_n hx hb d_Ea_deepestIn_14 rfl (lv_at hl 0 rfl) ?_
    refine hp_aald hx hb hK hI 4 hna rfl (vp_in_nI hi (by decide)) d_Ea_deepestIn_15 ?_
    rw [nI_clamp (n := i) (by omega)]
    by_cases ht : sTh d i = true
    · rw [hno.some hi ht]
      refine lv_ifnull hx hb d_Ea_deepestIn_16 ?_
      have hni := hp'.node hi ht
      refine lv_aload_n hx hb d_Ea_deepestIn_19 rfl (lv_at hl 2 rfl) ?_
      refine hp_get (ci := 3) (v := .ref (mNa ms)) (C := R_Ea) (T := F_Ea) (N := 4) hx hb hg i_Ea hown hK hI hob rfl 1 (by decide) (hg _ k_244) (fun _ h9 => h9) rfl d_Ea_deepestIn_20 ?_
      refine lv_iload_n hx hb d_Ea_deepestIn_23 rfl (lv_at hl 0 rfl) ?_
      refine hp_aald hx hb hK hI 4 hna rfl (vp_in_nI hi (by decide)) d_Ea_deepestIn_24 ?_
      rw [nI_clamp (n := i) (by omega)]
      rw [hno.some hi ht]
      refine lv_aload_n hx hb d_Ea_deepestIn_25 rfl (lv_at hl 3 rfl) ?_
      refine ec_i (va_runVN (As := [.ref (mAd ms n 0)]) (rest := []) ⟨hx, hb, hml, hown, hts⟩ (m_No_isIn l G S0 w ms d dp hp' htr i n hi ht hn14 hnt) ⟨va_cnB 1 hts (gw_code k_279) rfl rfl rfl (hE.Nw q_276) (hg _ k_61) (by decide +kernel) ⟨Nat.le_of_ble_eq_true rfl, Nat.le_of_ble_eq_true rfl⟩, hg _ k_278, hg _ k_4⟩ (eB.preV hE hI hS hz rfl hni) rfl rfl hl.1 rfl (lv_room (Nat.le_of_ble_eq_true rfl)) d_Ea_deepestIn_26 ⟨Nat.le_of_ble_eq_true rfl, Nat.le_of_ble_eq_true rfl⟩) hS (fun ii w_2 H locs ew_2 hI hsz hS => ?_)
      obtain ⟨eii, ew_2⟩ := ew_2
      have ew_2 := ew_2.symm
      subst ew_2
      rcases eii with ⟨e1, e2⟩ | ⟨e1, e2⟩
      · rw [e1]
        refine lv_if_eq (tgt := 46) hx hb d_Ea_deepestIn_29 (by decide) (fun c9 => absurd c9 (by decide)) (fun c9 => ?_)
        refine lv_iload_n hx hb d_Ea_deepestIn_32 rfl (lv_at hl 1 rfl) ?_
        refine lv_aload_n hx hb d_Ea_deepestIn_33 rfl (lv_at hl 2 rfl) ?_
        refine hp_get (ci := 3) (v := .ref (mNa ms)) (C := R_Ea) (T := F_Ea) (N := 4) hx hb hg i_Ea hown hK hI hob rfl 1 (by decide) (hg _ k_244) (fun _ h9 => h9) rfl d_Ea_deepestIn_34 ?_
        refine lv_iload_n hx hb d_Ea_deepestIn_37 rfl (lv_at hl 0 rfl) ?_
        refine hp_aald hx hb hK hI 4 hna rfl (vp_in_nI hi (by decide)) d_Ea_deepestIn_38 ?_
        rw [nI_clamp (n := i) (by omega)]
        rw [hno.some hi ht]
        refine ec_i (va_runVN (As := []) (rest := [.int (nI (mxD d dp n i))]) ⟨hx, hb, hml, hown, hts⟩ (m_No_depth l G S0 w ms d dp hp' htr i hi ht) ⟨va_cnB 0 hts (gw_code k_283) rfl rfl rfl (hE.Nw q_280) (hg _ k_61) (by decide +kernel) ⟨Nat.le_of_ble_eq_true rfl, Nat.le_of_ble_eq_true rfl⟩, hg _ k_282, hg _ k_5⟩ (eB.preV hE hI hS hz rfl hni) rfl rfl hl.1 rfl (lv_room (Nat.le_of_ble_eq_true rfl)) d_Ea_deepestIn_39 ⟨Nat.le_of_ble_eq_true rfl, Nat.le_of_ble_eq_true rfl⟩) hS (fun dd w_3 H locs ew_3 hI hsz hS => ?_)
        obtain ⟨edd, ew_3⟩ := ew_3
        have ew_3 := ew_3.symm
        subst ew_3
        rw [edd]
        refine va_mmax (x := (nI (mxD d dp n i))) (y := (nI (dp i))) hx hb (hml.trans hl.1.symm) hown (hg _ k_284) (hg _ k_285) (hg _ k_74) (hg _ k_286) (Nat.le_of_ble_eq_true rfl) (Nat.le_of_ble_eq_true rfl) (Nat.le_of_ble_eq_true rfl) (Nat.le_of_ble_eq_true rfl) d_Ea_deepestIn_42 ?_
        have m5 := mxD_5 htr (n := n) i (by omega)
        have d5 := htr.2.2.2.2.2.2 i hi ht
        rw [mx_I (show mxD d dp n i < 2 ^ 31 by omega) (show dp i < 2 ^ 31 by omega), ← mxD_y ⟨ht, e2⟩]
        refine lv_istore_n (lv' := [(2, .int (nI (mxD d dp n (i + 1)))), (3, .int (nI i)), (0, .ref (mEo ms)), (1, .ref (mAd ms n 0))]) hx hb d_Ea_deepestIn_45 rfl hl (by decide) rfl (fun ls hl => ?_)
        refine lv_iinc (v := nI (i + 1)) (lv' := [(3, .int (nI (i + 1))), (2, .int (nI (mxD d dp n (i + 1)))), (0, .ref (mEo ms)), (1, .ref (mAd ms n 0))]) hx hb d_Ea_deepestIn_46 hl (k := 1) rfl (nI_inc i) (by decide) rfl (fun ls hl => ?_)
        refine lv_goto (tgt := 4) hx hb d_Ea_deepestIn_49 (by decide) ?_
        exact ih (14 - (i + 1)) (i + 1) ls H locs (by omega) (⟨by omega, rfl⟩) (lv_sub hl [0, 1, 2, 3] rfl) hI hS
      · rw [e1]
        refine lv_if_eq (tgt := 46) hx hb d_Ea_deepestIn_29 (by decide) (fun c9 => ?_) (fun c9 => absurd (rfl) c9)
        refine lv_iinc (v := nI (i + 1)) (lv' := [(3, .int (nI (i + 1))), (2, .int (nI (mxD d dp n i))), (0, .ref (mEo ms)), (1, .ref (mAd ms n 0))]) hx hb d_Ea_deepestIn_46 hl (k := 0) rfl (nI_inc i) (by decide) rfl (fun ls hl => ?_)
        refine lv_goto (tgt := 4) hx hb d_Ea_deepestIn_49 (by decide) ?_
        rw [← mxD_n (dp := dp) (fun h => e2 h.2)] at hl
        exact ih (14 - (i + 1)) (i + 1) ls H locs (by omega) (⟨by omega, rfl⟩) (lv_sub hl [0, 1, 2, 3] rfl) hI hS
    · rw [hno.none hi ht]
      refine lv_ifnullN (tgt := 46) hx hb d_Ea_deepestIn_16 (by decide) ?_
      refine lv_iinc (v := nI (i + 1)) (lv' := [(3, .int (nI (i + 1))), (2, .int (nI (mxD d dp n i))), (0, .ref (mEo ms)), (1, .ref (mAd ms n 0))]) hx hb d_Ea_deepestIn_46 hl (k := 0) rfl (nI_inc i) (by decide) rfl (fun ls hl => ?_)
      refine lv_goto (tgt := 4) hx hb d_Ea_deepestIn_49 (by decide) ?_
      rw [← mxD_n (dp := dp) (n := n) (fun h => ht h.1)] at hl
      exact ih (14 - (i + 1)) (i + 1) ls H locs (by omega) (⟨by omega, rfl⟩) (lv_sub hl [0, 1, 2, 3] rfl) hI hS
theorem mxD_ge {d : DS} {dp : Nat → Nat} {n k : Nat} (h : sTh d k = true ∧ inn d k n) : ∀ i, k < i → dp k ≤ mxD d dp n i
  | 0, hi => absurd hi (Nat.not_lt_zero k)
  | i + 1, hi => by
    by_cases e : k = i
    · subst e
      rw [mxD_y h]
      exact Nat.le_max_right _ _
    · have ih := mxD_ge (dp := dp) h i (by omega)
      by_cases q : sTh d i = true ∧ inn d i n
      · rw [mxD_y q]; exact Nat.le_trans ih (Nat.le_max_left _ _)
      · rw [mxD_n q]; exact ih
theorem inn_self (d : DS) (k : Nat) : inn d k k := (inn_iff d k k).mpr (Or.inl rfl)
set_option maxHeartbeats 4000000 in
set_option maxRecDepth 100000 in
theorem m_Ea_levelsOf (l : Launch) (G : EG) (S0 : Nat) (w : hp_M) (ms : MS) (d : DS) (dp : Nat → Nat) (hp' : ePic G ms d w) (hno : nOk ms d) (htr : tOk d dp) (n : Nat) (hn14 : n < 14) (hnt : sTh d n = true) : Met l y_Ea_levelsOf w_Ea_levelsOf (rl 2 0 0) (eP G S0 w [.ref (mEo ms), .ref (mAd ms n 0)]) (va_Qi (fun r z => r = nI (mxD d dp n 14 - dp n + 1) ∧ z = w) (eW G S0) (hp_A S0)) 0 0 (hp_A S0) := by
  refine Met.ofW (cc := b_Ea_levelsOf) (maxL := 2) (ret := (some .int)) (by decide) rfl ?_
  intro p e s m args below meth c s₁ B hml hv
  obtain ⟨rfl, hE, hI, hz⟩ := hv
  have hx := B.exec
  have hb := B.bytes
  have hr := B.returns
  have hts := atoms_spec (ws := w_Ea_levelsOf) B.pre
  have hg : ∀ w ∈ gw, w.before _ s = true := fun w h => hts w (List.mem_cons_of_mem _ h)
  have hown : s.vm.findClass "SceneEasel" = some m.cls := findClass_of_methodNamed B.named
  have hlocks := B.notSynchronized
  have hK := hE.K
  have hS : va_S (hp_A S0) s.heap s.heap [] := va_S.rf
  have hl := lv_entry ([.ref (mEo ms), .ref (mAd ms n 0)]) (n := 2) (Nat.le_of_ble_eq_true rfl)
  rw [lg_entry_eq]
  generalize (lg_sl ([.ref (mEo ms), .ref (mAd ms n 0)]) ++ List.replicate (2 - (lg_sl ([.ref (mEo ms), .ref (mAd ms n 0)])).length) Slot.unset).toArray = ls at hl ⊢
  have hl : lv_has ls 2 [(0, .ref (mEo ms)), (1, .ref (mAd ms n 0))] := hl
  have hob := hp'.1
  have hnn := hp'.node hn14 hnt
  refine lv_aload_n hx hb d_Ea_levelsOf_0 rfl (lv_at hl 0 rfl) ?_
  refine lv_aload_n hx hb d_Ea_levelsOf_1 rfl (lv_at hl 1 rfl) ?_
  refine ec_i (va_runV (As := [.ref (mAd ms n 0)]) (rest := []) ⟨hx, hb, hml, hown, hts⟩ (m_Ea_deepestIn l G S0 w ms d dp hp' hno htr n hn14 hnt) (cwV 1 hts (gw_V k_272 k_274 k_3 k_60 k_275) rfl rfl rfl (by decide +kernel) ⟨Nat.le_of_ble_eq_true rfl, Nat.le_of_ble_eq_true rfl⟩) (eB.preV hE hI hS hz rfl hob) rfl rfl hl.1 rfl (lv_room (Nat.le_of_ble_eq_true rfl)) d_Ea_levelsOf_2 ⟨Nat.le_of_ble_eq_true rfl, Nat.le_of_ble_eq_true rfl⟩) hS (fun dd w_1 H locs ew_1 hI hsz hS => ?_)
  obtain ⟨edd, ew_1⟩ := ew_1
  have ew_1 := ew_1.symm
  subst ew_1
  rw [edd]
  refine lv_aload_n hx hb d_Ea_levelsOf_5 rfl (lv_at hl 1 rfl) ?_
  refine ec_i (va_runVN (As := []) (rest := [.int (nI (mxD d dp n 14))]) ⟨hx, hb, hml, hown, hts⟩ (m_No_depth l G S0 w ms d dp hp' htr n hn14 hnt) ⟨va_cnB 0 hts (gw_code k_283) rfl rfl rfl (hE.Nw q_280) (hg _ k_61) (by decide +kernel) ⟨Nat.le_of_ble_eq_true rfl, Nat.le_of_ble_eq_true rfl⟩, hg _ k_282, hg _ k_5⟩ (eB.preV hE hI hS hz rfl hnn) rfl rfl hl.1 rfl (lv_room (Nat.le_of_ble_eq_true rfl)) d_Ea_levelsOf_6 ⟨Nat.le_of_ble_eq_true rfl, Nat.le_of_ble_eq_true rfl⟩) hS (fun de w_2 H locs ew_2 hI hsz hS => ?_)
  obtain ⟨ede, ew_2⟩ := ew_2
  have ew_2 := ew_2.symm
  subst ew_2
  rw [ede]
  have hge : dp n ≤ mxD d dp n 14 := mxD_ge ⟨hnt, inn_self d n⟩ 14 hn14
  refine lv_isub hx hb d_Ea_levelsOf_9 ?_
  refine lv_iconst (v := 1) hx hb d_Ea_levelsOf_10 (by decide) ?_
  refine lv_iadd hx hb d_Ea_levelsOf_11 ?_
  exact W.iret (v := (((nI (mxD d dp n 14)) - (nI (dp n))) + 1)) hx hb hr (fun t9 ht9 hW9 => ⟨⟨(((nI (mxD d dp n 14)) - (nI (dp n))) + 1), w, rfl, ⟨by rw [pk_sub hge, nI_1], rfl⟩, eWo ht9 hI⟩, hS.F ht9⟩) hS.2.2 d_Ea_levelsOf_12
theorem ePic.stl {G : EG} {m : MS} {d : DS} {w : hp_M} (h : ePic G m d w) (u : UInt64) {k : Nat} (hk : k < 14) (ht : sTh d k = true) : ePic G (msN m d u k) d (hp_set w (mAd m k 0) (nC (msN m d u k) d k)) := by
  refine h.set1 (m' := msN m d u k) (d' := d) hk ht ⟨by decide, fun e => absurd e (by decide)⟩ rfl rfl rfl rfl rfl rfl (fun j r hj hjt hr hne => ?_) (fun j hj hjt => ⟨fun i hi => (nPic_iff.mp (h.2.2.2.1 j hj hjt)).2.1 i hi, (nPic_iff.mp (h.2.2.2.1 j hj hjt)).2.2.1⟩)
  unfold cellOf
  by_cases q0 : r = 0
  · have hjk : j ≠ k := fun e => hne ⟨e, q0⟩
    rw [if_pos q0, if_pos q0]
    have e1 : ∀ i, mNx (msN m d u k) j i = mNx m j i := fun i => if_neg hjk
    have e2 : ∀ i, mNi (msN m d u k) j i = mNi m j i := fun i => if_neg hjk
    unfold nC
    rw [e1, e1, e2, e2]
    rfl
  rw [if_neg q0, if_neg q0]
  rfl
/-- a node is settled -/
def stld (m : MS) (d : DS) (u : UInt64) (k : Nat) : Prop := mNx m k 0 = vX d u k 0 ∧ mNx m k 1 = vX d u k 1 ∧ mNi m k 0 = vS d u k ∧ mNi m k 1 = vC d u k
theorem stld_N (m : MS) (d : DS) (u : UInt64) (k : Nat) : stld (msN m d u k) d u k := ⟨by simp [msN, mNx], by simp [msN, mNx], by simp [msN, mNi], by simp [msN, mNi]⟩
theorem stld_O {m : MS} {d : DS} {u : UInt64} {k j : Nat} (hj : j ≠ k) (h : stld m d u j) : stld (msN m d u k) d u j := by
  have e1 : ∀ i, mNx (msN m d u k) j i = mNx m j i := fun i => if_neg hj
  have e2 : ∀ i, mNi (msN m d u k) j i = mNi m j i := fun i => if_neg hj
  unfold stld
  rw [e1, e1, e2, e2]
  exact h
theorem stld.rdy {m : MS} {d : DS} {u : UInt64} (hv : vOk d) (hu : tiO u) (h : ∀ k, k < 14 → sTh d k = true → stld m d u k) : rdy d (mNx m) (fun j => mNi m j 0) := by
  intro k hk hkt
  obtain ⟨h1, h2, h3, -⟩ := h k hk hkt
  obtain ⟨s, q1, q2, q3⟩ := vJ_s (u := u) (hv k hk hkt)
  refine ⟨?_, ?_, ?_⟩
  · rw [h1]; exact vX_b (hv k hk hkt) hu 0 (by decide)
  · rw [h2]; exact vX_b (hv k hk hkt) hu 1 (by decide)
  · show s5 (mNi m k 0)
    rw [h3, q3]
    exact q1
set_option maxHeartbeats 4000000 in
set_option maxRecDepth 100000 in
theorem m_Ea_settle (l : Launch) (G : EG) (S0 : Nat) (w : hp_M) (ms : MS) (d : DS) (hp' : ePic G ms d w) (hno : nOk ms d) (hv0 : vOk d) (u : UInt64) (hu : tiO u) : Met l y_Ea_settle w_Ea_settle (rl 4 0 0) (eP G S0 w [.ref (mEo ms), .double u]) (va_Qv (fun z => ∃ ms', ms'.1 = ms.1 ∧ mAd ms' = mAd ms ∧ ePic G ms' d z ∧ fR ms d w ms' d z ∧ ∀ k, k < 14 → sTh d k = true → stld ms' d u k) (eW G S0) (hp_A S0)) 0 0 (hp_A S0) := by
  refine Met.ofW (cc := b_Ea_settle) (maxL := 4) (ret := none) (by decide) rfl ?_
  intro p e s m args below meth c s₁ B hml hv
  obtain ⟨rfl, hE, hI, hz⟩ := hv
  have hx := B.exec
  have hb := B.bytes
  have hr := B.returns
  have hts := atoms_spec (ws := w_Ea_settle) B.pre
  have hg : ∀ w ∈ gw, w.before _ s = true := fun w h => hts w (List.mem_cons_of_mem _ h)
  have hown : s.vm.findClass "SceneEasel" = some m.cls := findClass_of_methodNamed B.named
  have hlocks := B.notSynchronized
  have hK := hE.K
  have hS : va_S (hp_A S0) s.heap s.heap [] := va_S.rf
  have hl := lv_entry ([.ref (mEo ms), .double u]) (n := 4) (Nat.le_of_ble_eq_true rfl)
  rw [lg_entry_eq]
  generalize (lg_sl ([.ref (mEo ms), .double u]) ++ List.replicate (4 - (lg_sl ([.ref (mEo ms), .double u])).length) Slot.unset).toArray = ls at hl ⊢
  have hl : lv_has ls 4 [(0, .ref (mEo ms)), (1, .double u)] := hl
  refine lv_iconst (v := 0) hx hb d_Ea_settle_0 (by decide) ?_
  refine lv_istore_n (lv' := [(3, .int 0), (0, .ref (mEo ms)), (1, .double u)]) hx hb d_Ea_settle_1 rfl hl (by decide) rfl (fun ls hl => ?_)
  refine W.lpw (fun j (q : Nat × MS × hp_M) => match q with | (i, m1, z) => i ≤ 14 ∧ m1.1 = ms.1 ∧ mAd m1 = mAd ms ∧ ePic G m1 d z ∧ fR ms d w m1 d z ∧ (∀ k, k < i → sTh d k = true → stld m1 d u k) ∧ j = 14 - i) (fun (q : Nat × MS × hp_M) => match q with | (i, m1, z) => z) (fun (q : Nat × MS × hp_M) => match q with | (i, m1, z) => [(3, .int (nI i)), (0, .ref (mEo ms)), (1, .double u)]) (fun (q : Nat × MS × hp_M) => match q with | (i, m1, z) => 0) (fun (q : Nat × MS × hp_M) => match q with | (i, m1, z) => 0) 4 2 (fun (q : Nat × MS × hp_M) => match q with | (i, m1, z) => []) (14) ((0, ms, w)) (⟨Nat.zero_le _, rfl, rfl, hp', fR.rf _ _ _, fun k hk => absurd hk (Nat.not_lt_zero k), rfl⟩) (lv_sub hl [0, 1, 2] rfl) hI hS ?_
  rintro j ⟨i, m1, z⟩ ls H locs hP hl hI hS ih
  try dsimp only at hP hl hI ⊢
  obtain ⟨h1, e1, e2, hpz, hfz, h4, h5⟩ := hP
  have hob := hpz.1
  have hna := hpz.2.1
  have eo : mEo m1 = mEo ms := by show m1.1.1 = ms.1.1; rw [e1]
  have en1 : mNa m1 = mNa ms := by show m1.1.2.1 = ms.1.2.1; rw [e1]
  have ef : mNf m1 = mNf ms := by show m1.1.2.2.2 = ms.1.2.2.2; rw [e1]
  rw [eo, en1] at hob
  rw [en1, ef] at hna
  refine lv_iload_n hx hb d_Ea_settle_2 rfl (lv_at hl 0 rfl) ?_
  refine lv_bipush (v := 14) hx hb d_Ea_settle_3 (by decide) ?_
  refine lv_icmp_ge (tgt := 33) hx hb d_Ea_settle_5 (by decide) (fun c1 => ?_) (fun c1 => ?_)
  · have hi : 14 ≤ i := (nI_leI (a := 14) (b := i) (by omega) (by omega)).mp c1
    exact W.vret hx hb hr (fun t9 ht9 hW9 => ⟨⟨z, rfl, ⟨m1, e1, e2, hpz, hfz, fun k hk => h4 k (by omega)⟩, eWo ht9 hI⟩, hS.F ht9⟩) hS.2.2 d_Ea_settle_33
  · have hi : i < 14 := by
      rcases Nat.lt_or_ge i 14 with q | q
      · exact q
      · exact absurd ((nI_leI (a := 14) (b := i) (by omega) (by omega)).mpr q) c1
    refine lv_aload_n hx hb d_Ea_settle_8 rfl (lv_at hl 1 rfl) ?_
    refine hp_get (ci := 3) (v := .ref (mNa ms)) (C := R_Ea) (T := F_Ea) (N := 4) hx hb hg i_Ea hown hK hI hob rfl 1 (by decide) (hg _ k_244) (fun _ h9 => h9) rfl d_Ea_settle_9 ?_
    refine lv_iload_n hx hb d_Ea_settle_12 rfl (lv_at hl 0 rfl) ?_
    refine hp_aald hx hb hK hI 4 hna rfl (vp_in_nI hi (by decide)) d_Ea_settle_13 ?_
    rw [nI_clamp (n := i) (by omega)]
    by_cases ht : sTh d i = true
    · rw [hno.some hi ht]
      refine lv_ifnull hx hb d_Ea_settle_14 ?_
      have hni := hpz.node hi ht
      rw [e2] at hni
      refine lv_aload_n hx hb d_Ea_settle_17 rfl (lv_at hl 1 rfl) ?_
      refine hp_get (ci := 3) (v := .ref (mNa ms)) (C := R_Ea) (T := F_Ea) (N := 4) hx hb hg i_Ea hown hK hI hob rfl 1 (by decide) (hg _ k_244) (fun _ h9 => h9) rfl d_Ea_settle_18 ?_
      refine lv_iload_n hx hb d_Ea_settle_21 rfl (lv_at hl 0 rfl) ?_
      refine hp_aald hx hb hK hI 4 hna rfl (vp_in_nI hi (by decide)) d_Ea_settle_22 ?_
      rw [nI_clamp (n := i) (by omega)]
      rw [hno.some hi ht]
      refine lv_dload_n hx hb d_Ea_settle_23 rfl (lv_at hl 2 rfl) ?_
      have hst := m_No_settleAt l G S0 z m1 d hpz hv0 u hu i hi ht
      rw [e2] at hst
      refine ec_v (va_runVN (As := [.double u]) (rest := []) ⟨hx, hb, hml, hown, hts⟩ (hst) ⟨va_cnB 1 hts (gw_code k_636) rfl rfl rfl (hE.Nw q_633) (hg _ k_61) (by decide +kernel) ⟨Nat.le_of_ble_eq_true rfl, Nat.le_of_ble_eq_true rfl⟩, hg _ k_635, hg _ k_23⟩ (eB.preV hE hI hS hz rfl hni) rfl rfl hl.1 rfl (lv_room (Nat.le_of_ble_eq_true rfl)) d_Ea_settle_24 ⟨Nat.le_of_ble_eq_true rfl, Nat.le_of_ble_eq_true rfl⟩) hS (fun w2 H locs ew2 hI hsz hS => ?_)
      have hp2 := hpz.stl u hi ht
      have hf2 : fR m1 d z m1 d (hp_set z (mAd m1 i 0) (nC (msN m1 d u i) d i)) := fR.st hi ht ⟨by decide, fun e => absurd e (by decide)⟩ rfl _
      rw [e2, ← ew2] at hp2 hf2
      have hf3 : fR ms d w (msN m1 d u i) d w2 := hfz.tr ⟨hf2.1, fun a q => hf2.2 a ((Own.congr rfl rfl rfl rfl a).mp q)⟩
      refine lv_iinc (v := nI (i + 1)) (lv' := [(3, .int (nI (i + 1))), (0, .ref (mEo ms)), (1, .double u)]) hx hb d_Ea_settle_27 hl (k := 0) rfl (nI_inc i) (by decide) rfl (fun ls hl => ?_)
      refine lv_goto (tgt := 2) hx hb d_Ea_settle_30 (by decide) ?_
      exact ih (14 - (i + 1)) ((i + 1, msN m1 d u i, w2)) ls H locs (by omega) (⟨by omega, e1, e2, hp2, hf3, fun k hk hkt => (Nat.lt_or_ge k i).elim (fun q => stld_O (by omega) (h4 k q hkt)) (fun q => by rw [show k = i by omega]; exact stld_N _ _ _ _), rfl⟩) (lv_sub hl [0, 1, 2] rfl) hI hS
    · rw [hno.none hi ht]
      refine lv_ifnullN (tgt := 27) hx hb d_Ea_settle_14 (by decide) ?_
      refine lv_iinc (v := nI (i + 1)) (lv' := [(3, .int (nI (i + 1))), (0, .ref (mEo ms)), (1, .double u)]) hx hb d_Ea_settle_27 hl (k := 0) rfl (nI_inc i) (by decide) rfl (fun ls hl => ?_)
      refine lv_goto (tgt := 2) hx hb d_Ea_settle_30 (by decide) ?_
      exact ih (14 - (i + 1)) ((i + 1, m1, z)) ls H locs (by omega) (⟨by omega, e1, e2, hpz, hfz, fun k hk hkt => (Nat.lt_or_ge k i).elim (fun q => h4 k q hkt) (fun q => by rw [show k = i by omega] at hkt; exact absurd hkt ht), rfl⟩) (lv_sub hl [0, 1, 2] rfl) hI hS

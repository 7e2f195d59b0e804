/-! Easel: looking things up -/
theorem i32_nat {n : Int32} (h0 : ¬ n < 0) (h1 : n < 14) : ∃ k, k < 14 ∧ n = nI k := by
  refine ⟨n.toNatClampNeg, ?_, ?_⟩
  · have a := Int32.lt_iff_toInt_lt.mp h1
    have b : (14 : Int32).toInt = 14 := by decide
    show n.toInt.toNat < 14
    omega
  · refine Int32.toInt.inj ?_
    have a := Int32.lt_iff_toInt_lt.mp h1
    have b : (14 : Int32).toInt = 14 := by decide
    have c : (0 : Int32).toInt = 0 := by decide
    have e : ¬ n.toInt < (0 : Int32).toInt := fun q => h0 (Int32.lt_iff_toInt_lt.mpr q)
    rw [show n.toNatClampNeg = n.toInt.toNat from rfl, nI_toInt (show n.toInt.toNat < 2 ^ 31 by omega)]
    omega
/-- a node's number -/
def isN (d : DS) (n : Int32) : Prop := ∃ k, k < 14 ∧ n = nI k ∧ sTh d k = true
theorem isN_iff {d : DS} {k : Nat} (hk : k < 14) : isN d (nI k) ↔ sTh d k = true := by
  constructor
  · rintro ⟨k', h1, h2, h3⟩
    have := (nI_eq (a := k) (b := k') (by omega) (by omega)).mp h2
    rw [this]
    exact h3
  · exact fun h => ⟨k, hk, rfl, h⟩
theorem nOk.some {m : MS} {d : DS} (h : nOk m d) {k : Nat} (hk : k < 14) (ht : sTh d k = true) : mNf m k = Option.some (mAd m k 0) := by
  rw [h k hk]
  exact if_pos ht
theorem nOk.none {m : MS} {d : DS} (h : nOk m d) {k : Nat} (hk : k < 14) (ht : ¬ sTh d k = true) : mNf m k = Option.none := by
  rw [h k hk]
  exact if_neg ht
set_option maxHeartbeats 4000000 in
set_option maxRecDepth 100000 in
theorem m_Ea_requireNode (l : Launch) (hlt : l.stackTraces = false) (G : EG) (S0 : Nat) (w : hp_M) (ms : MS) (d : DS) (hp' : ePic G ms d w) (hno : nOk ms d) (n : Int32) : vx_Met l y_Ea_requireNode w_Ea_requireNode (rl 0 1 6) (eP G S0 w [.ref (mEo ms), .int n]) (va_Qo (fun r z => z = w ∧ ∃ k, k < 14 ∧ n = nI k ∧ sTh d k = true ∧ r = some (mAd ms k 0)) (eW G S0) (hp_A S0)) (eX G S0 (pIA w (¬ isN d n))) 1 6 (hp_A S0) := by
  refine vx_ofW (cc := b_Ea_requireNode) (maxL := 2) (ret := (some (.object "SceneEasel$Node"))) (by decide) rfl ?_
  intro p e s m args below meth c s₁ B hml hnx hv
  obtain ⟨rfl, hE, hI, hz⟩ := hv
  have hx := B.exec
  have hb := B.bytes
  have hr := B.returns
  have hts := atoms_spec (ws := w_Ea_requireNode) B.pre
  have hg : ∀ w ∈ gw, w.before _ s = true := fun w h => hts w (List.mem_cons_of_mem _ h)
  have hown : s.vm.findClass "SceneEasel" = some m.cls := findClass_of_methodNamed B.named
  have hlocks := B.notSynchronized
  have hK := hE.K
  have hS : va_S (hp_A S0) s.heap s.heap [] := va_S.rf
  have hl := lv_entry ([.ref (mEo ms), .int n]) (n := 2) (Nat.le_of_ble_eq_true rfl)
  rw [lg_entry_eq]
  generalize (lg_sl ([.ref (mEo ms), .int n]) ++ List.replicate (2 - (lg_sl ([.ref (mEo ms), .int n])).length) Slot.unset).toArray = ls at hl ⊢
  have hl : lv_has ls 2 [(0, .ref (mEo ms)), (1, .int n)] := hl
  have hob := hp'.1
  have hna := hp'.2.1
  refine lv_iload_n hx hb d_Ea_requireNode_0 rfl (lv_at hl 1 rfl) ?_
  refine lv_if_lt (tgt := 19) hx hb d_Ea_requireNode_1 (by decide) (fun c1 => ?_) (fun c1 => ?_)
  · exact xt_throw (names := rte) (text := "no such node") k_304 k_71 (by decide +kernel) xf_iae x1_iae x2_iae x3_iae rfl hx hb hlt hown hg hE hI hS (hl.1.trans hml.symm) d_Ea_requireNode_19 d_Ea_requireNode_22 d_Ea_requireNode_23 d_Ea_requireNode_25 d_Ea_requireNode_28 hnx hlocks (⟨rfl, rfl, fun ⟨k, h1, h2, h3⟩ => by rw [h2] at c1; exact nI_pos (by omega) c1⟩) (Nat.le_of_ble_eq_true rfl) (Nat.le_of_ble_eq_true rfl) (Nat.le_of_ble_eq_true rfl) (Nat.le_of_ble_eq_true rfl) (Nat.le_of_ble_eq_true rfl) (Nat.le_of_ble_eq_true rfl)
  · refine lv_iload_n hx hb d_Ea_requireNode_4 rfl (lv_at hl 1 rfl) ?_
    refine lv_bipush (v := 14) hx hb d_Ea_requireNode_5 (by decide) ?_
    refine lv_icmp_ge (tgt := 19) hx hb d_Ea_requireNode_7 (by decide) (fun c2 => ?_) (fun c2 => ?_)
    · exact xt_throw (names := rte) (text := "no such node") k_304 k_71 (by decide +kernel) xf_iae x1_iae x2_iae x3_iae rfl hx hb hlt hown hg hE hI hS (hl.1.trans hml.symm) d_Ea_requireNode_19 d_Ea_requireNode_22 d_Ea_requireNode_23 d_Ea_requireNode_25 d_Ea_requireNode_28 hnx hlocks (⟨rfl, rfl, fun ⟨k, h1, h2, h3⟩ => by rw [h2] at c2; have := (nI_leI (a := 14) (b := k) (by omega) (by omega)).mp c2; omega⟩) (Nat.le_of_ble_eq_true rfl) (Nat.le_of_ble_eq_true rfl) (Nat.le_of_ble_eq_true rfl) (Nat.le_of_ble_eq_true rfl) (Nat.le_of_ble_eq_true rfl) (Nat.le_of_ble_eq_true rfl)
    · obtain ⟨k, hk, ek⟩ := i32_nat c1 (Int32.not_le.mp c2)
      refine lv_aload_n hx hb d_Ea_requireNode_10 rfl (lv_at hl 0 rfl) ?_
      refine hp_get (ci := 3) (v := .ref (mNa ms)) (C := R_Ea) (T := F_Ea) (N := 4) hx hb hg i_Ea hown hK hI hob rfl 1 (by decide) (hg _ k_244) (fun _ h9 => h9) rfl d_Ea_requireNode_11 ?_
      refine lv_iload_n hx hb d_Ea_requireNode_14 rfl (lv_at hl 1 rfl) ?_
      refine hp_aald hx hb hK hI 4 hna rfl (by rw [ek]; exact vp_in_nI hk (by decide)) d_Ea_requireNode_15 ?_
      rw [show n.toNatClampNeg = k by rw [ek]; exact nI_clamp (by omega)]
      by_cases ht : sTh d k = true
      · rw [hno.some hk ht]
        refine lv_ifnonnull (tgt := 29) hx hb d_Ea_requireNode_16 (by decide) ?_
        refine lv_aload_n hx hb d_Ea_requireNode_29 rfl (lv_at hl 0 rfl) ?_
        refine hp_get (ci := 3) (v := .ref (mNa ms)) (C := R_Ea) (T := F_Ea) (N := 4) hx hb hg i_Ea hown hK hI hob rfl 1 (by decide) (hg _ k_244) (fun _ h9 => h9) rfl d_Ea_requireNode_30 ?_
        refine lv_iload_n hx hb d_Ea_requireNode_33 rfl (lv_at hl 1 rfl) ?_
        refine hp_aald hx hb hK hI 4 hna rfl (by rw [ek]; exact vp_in_nI hk (by decide)) d_Ea_requireNode_34 ?_
        rw [show n.toNatClampNeg = k by rw [ek]; exact nI_clamp (by omega), hno.some hk ht]
        refine vx_ret ?_
        refine W.widen (k := 1) (n := 6) (Nat.le_of_ble_eq_true rfl) (Nat.le_of_ble_eq_true rfl) ?_
        exact W.aret (v := va_rf (some (mAd ms k 0))) hx hb hr (Or.inl ⟨_, rfl⟩) (Or.inr ⟨_, rfl⟩) (fun t9 ht9 hW9 => ⟨⟨(some (mAd ms k 0)), w, rfl, ⟨rfl, k, hk, ek, ht, rfl⟩, eWo ht9 hI⟩, hS.F ht9⟩) hS.2.2 d_Ea_requireNode_35
      · rw [hno.none hk ht]
        refine lv_ifnonnullN hx hb d_Ea_requireNode_16 ?_
        exact xt_throw (names := rte) (text := "no such node") k_304 k_71 (by decide +kernel) xf_iae x1_iae x2_iae x3_iae rfl hx hb hlt hown hg hE hI hS (hl.1.trans hml.symm) d_Ea_requireNode_19 d_Ea_requireNode_22 d_Ea_requireNode_23 d_Ea_requireNode_25 d_Ea_requireNode_28 hnx hlocks (⟨rfl, rfl, fun h => ht ((isN_iff hk).mp (by rw [← ek]; exact h))⟩) (Nat.le_of_ble_eq_true rfl) (Nat.le_of_ble_eq_true rfl) (Nat.le_of_ble_eq_true rfl) (Nat.le_of_ble_eq_true rfl) (Nat.le_of_ble_eq_true rfl) (Nat.le_of_ble_eq_true rfl)
set_option maxHeartbeats 4000000 in
set_option maxRecDepth 100000 in
theorem m_Ea_requireInner (l : Launch) (hlt : l.stackTraces = false) (G : EG) (S0 : Nat) (w : hp_M) (ms : MS) (d : DS) (hp' : ePic G ms d w) (hno : nOk ms d) (h00 : sTh d 0 = true) (n : Int32) : vx_Met l y_Ea_requireInner w_Ea_requireInner (rl 1 2 12) (eP G S0 w [.ref (mEo ms), .int n]) (va_Qo (fun r z => z = w ∧ ∃ k, k < 14 ∧ n = nI k ∧ sTh d k = true ∧ k ≠ 0 ∧ r = some (mAd ms k 0)) (eW G S0) (hp_A S0)) (eX G S0 (pIA w (¬ (isN d n ∧ n ≠ 0)))) 2 12 (hp_A S0) := by
  refine vx_ofW (cc := b_Ea_requireInner) (maxL := 3) (ret := (some (.object "SceneEasel$Node"))) (by decide) rfl ?_
  intro p e s m args below meth c s₁ B hml hnx hv
  obtain ⟨rfl, hE, hI, hz⟩ := hv
  have hx := B.exec
  have hb := B.bytes
  have hr := B.returns
  have hts := atoms_spec (ws := w_Ea_requireInner) B.pre
  have hg : ∀ w ∈ gw, w.before _ s = true := fun w h => hts w (List.mem_cons_of_mem _ h)
  have hown : s.vm.findClass "SceneEasel" = some m.cls := findClass_of_methodNamed B.named
  have hlocks := B.notSynchronized
  have hK := hE.K
  have hS : va_S (hp_A S0) s.heap s.heap [] := va_S.rf
  have hl := lv_entry ([.ref (mEo ms), .int n]) (n := 3) (Nat.le_of_ble_eq_true rfl)
  rw [lg_entry_eq]
  generalize (lg_sl ([.ref (mEo ms), .int n]) ++ List.replicate (3 - (lg_sl ([.ref (mEo ms), .int n])).length) Slot.unset).toArray = ls at hl ⊢
  have hl : lv_has ls 3 [(0, .ref (mEo ms)), (1, .int n)] := hl
  have hob := hp'.1
  refine lv_aload_n hx hb d_Ea_requireInner_0 rfl (lv_at hl 0 rfl) ?_
  refine lv_iload_n hx hb d_Ea_requireInner_1 rfl (lv_at hl 1 rfl) ?_
  refine xc_o (vx_runV (As := [.int n]) (rest := []) ⟨hx, hb, hml, hown, hts⟩ (m_Ea_requireNode l hlt G S0 w ms d hp' hno n) (cwV 1 hts (gw_V k_300 k_302 k_7 k_60 k_303) rfl rfl rfl (by decide +kernel) ⟨Nat.le_of_ble_eq_true rfl, Nat.le_of_ble_eq_true rfl⟩) (eB.preV hE hI hS hz rfl hob) rfl rfl hl.1 rfl (lv_room (Nat.le_of_ble_eq_true rfl)) d_Ea_requireInner_2 ⟨Nat.le_of_ble_eq_true rfl, Nat.le_of_ble_eq_true rfl⟩) hS (fun E9 ce9 q9 u9 H9 locs9 hpx9 hI9 hsz9 hS9 g1 g2 g3 => xc_out hnx hlocks g1 g2 g3 (⟨hpx9.1, hpx9.2.1, fun h => hpx9.2.2 h.1⟩) hI9 hS9 (Nat.le_of_ble_eq_true rfl) (Nat.le_of_ble_eq_true rfl)) (fun nd w_1 H locs ew_1 hI hsz hS => ?_)
  obtain ⟨ew_1, h1⟩ := ew_1
  have ew_1 := ew_1.symm
  subst ew_1
  obtain ⟨k, hk, ek, ht, end_⟩ := h1
  subst end_
  refine lv_astore_n (lv' := [(2, .ref (mAd ms k 0)), (0, .ref (mEo ms)), (1, .int n)]) hx hb d_Ea_requireInner_5 rfl hl (by decide) rfl (fun ls hl => ?_)
  refine lv_aload_n hx hb d_Ea_requireInner_6 rfl (lv_at hl 0 rfl) ?_
  refine lv_aload_n hx hb d_Ea_requireInner_7 rfl (lv_at hl 1 rfl) ?_
  refine hp_get (ci := 3) (v := .ref (mAd ms 0 0)) (C := R_Ea) (T := F_Ea) (N := 4) hx hb hg i_Ea hown hK hI hob rfl 0 (by decide) (hg _ k_243) (fun _ h9 => h9) rfl d_Ea_requireInner_8 ?_
  refine lv_acmp_ne (rx := (some (mAd ms k 0))) (ry := (some (mAd ms 0 0))) (tgt := 24) hx hb d_Ea_requireInner_11 (by decide) (fun c1 => ?_) (fun c1 => ?_)
  · have hk0 : k ≠ 0 := fun e => c1 (by rw [e])
    refine lv_aload_n hx hb d_Ea_requireInner_24 rfl (lv_at hl 0 rfl) ?_
    refine vx_ret ?_
    refine W.widen (k := 2) (n := 12) (Nat.le_of_ble_eq_true rfl) (Nat.le_of_ble_eq_true rfl) ?_
    exact W.aret (v := va_rf (some (mAd ms k 0))) hx hb hr (Or.inl ⟨_, rfl⟩) (Or.inr ⟨_, rfl⟩) (fun t9 ht9 hW9 => ⟨⟨(some (mAd ms k 0)), w, rfl, ⟨rfl, k, hk, ek, ht, hk0, rfl⟩, eWo ht9 hI⟩, hS.F ht9⟩) hS.2.2 d_Ea_requireInner_25
  · have hk0 : k = 0 := (some_ad0 hp' hk ht (by decide) h00).mp c1
    exact xt_throw (names := rte) (text := "not for the root") k_304 k_71 (by decide +kernel) xf_iae x1_iae x2_iae x3_iae rfl hx hb hlt hown hg hE hI hS (hl.1.trans hml.symm) d_Ea_requireInner_14 d_Ea_requireInner_17 d_Ea_requireInner_18 d_Ea_requireInner_20 d_Ea_requireInner_23 hnx hlocks (⟨rfl, rfl, fun h => h.2 (by rw [ek, hk0]; rfl)⟩) (Nat.le_of_ble_eq_true rfl) (Nat.le_of_ble_eq_true rfl) (Nat.le_of_ble_eq_true rfl) (Nat.le_of_ble_eq_true rfl) (Nat.le_of_ble_eq_true rfl) (Nat.le_of_ble_eq_true rfl)
def isGroup (d : DS) (n : Int32) : Prop := ∃ k, k < 14 ∧ n = nI k ∧ sTh d k = true ∧ sNi d k 0 = 0
set_option maxHeartbeats 4000000 in
set_option maxRecDepth 100000 in
theorem m_Ea_requireGroup (l : Launch) (hlt : l.stackTraces = false) (G : EG) (S0 : Nat) (w : hp_M) (ms : MS) (d : DS) (hp' : ePic G ms d w) (hno : nOk ms d) (n : Int32) : vx_Met l y_Ea_requireGroup w_Ea_requireGroup (rl 1 2 12) (eP G S0 w [.ref (mEo ms), .int n]) (va_Qo (fun r z => z = w ∧ ∃ k, k < 14 ∧ n = nI k ∧ sTh d k = true ∧ sNi d k 0 = 0 ∧ r = some (mAd ms k 0)) (eW G S0) (hp_A S0)) (eX G S0 (pIA w (¬ isGroup d n))) 2 12 (hp_A S0) := by
  refine vx_ofW (cc := b_Ea_requireGroup) (maxL := 3) (ret := (some (.object "SceneEasel$Node"))) (by decide) rfl ?_
  intro p e s m args below meth c s₁ B hml hnx hv
  obtain ⟨rfl, hE, hI, hz⟩ := hv
  have hx := B.exec
  have hb := B.bytes
  have hr := B.returns
  have hts := atoms_spec (ws := w_Ea_requireGroup) B.pre
  have hg : ∀ w ∈ gw, w.before _ s = true := fun w h => hts w (List.mem_cons_of_mem _ h)
  have hown : s.vm.findClass "SceneEasel" = some m.cls := findClass_of_methodNamed B.named
  have hlocks := B.notSynchronized
  have hK := hE.K
  have hS : va_S (hp_A S0) s.heap s.heap [] := va_S.rf
  have hl := lv_entry ([.ref (mEo ms), .int n]) (n := 3) (Nat.le_of_ble_eq_true rfl)
  rw [lg_entry_eq]
  generalize (lg_sl ([.ref (mEo ms), .int n]) ++ List.replicate (3 - (lg_sl ([.ref (mEo ms), .int n])).length) Slot.unset).toArray = ls at hl ⊢
  have hl : lv_has ls 3 [(0, .ref (mEo ms)), (1, .int n)] := hl
  have hob := hp'.1
  refine lv_aload_n hx hb d_Ea_requireGroup_0 rfl (lv_at hl 0 rfl) ?_
  refine lv_iload_n hx hb d_Ea_requireGroup_1 rfl (lv_at hl 1 rfl) ?_
  refine xc_o (vx_runV (As := [.int n]) (rest := []) ⟨hx, hb, hml, hown, hts⟩ (m_Ea_requireNode l hlt G S0 w ms d hp' hno n) (cwV 1 hts (gw_V k_300 k_302 k_7 k_60 k_303) rfl rfl rfl (by decide +kernel) ⟨Nat.le_of_ble_eq_true rfl, Nat.le_of_ble_eq_true rfl⟩) (eB.preV hE hI hS hz rfl hob) rfl rfl hl.1 rfl (lv_room (Nat.le_of_ble_eq_true rfl)) d_Ea_requireGroup_2 ⟨Nat.le_of_ble_eq_true rfl, Nat.le_of_ble_eq_true rfl⟩) hS (fun E9 ce9 q9 u9 H9 locs9 hpx9 hI9 hsz9 hS9 g1 g2 g3 => xc_out hnx hlocks g1 g2 g3 (⟨hpx9.1, hpx9.2.1, fun ⟨k, q1, q2, q3, _⟩ => hpx9.2.2 ⟨k, q1, q2, q3⟩⟩) hI9 hS9 (Nat.le_of_ble_eq_true rfl) (Nat.le_of_ble_eq_true rfl)) (fun nd w_1 H locs ew_1 hI hsz hS => ?_)
  obtain ⟨ew_1, h1⟩ := ew_1
  have ew_1 := ew_1.symm
  subst ew_1
  obtain ⟨k, hk, ek, ht, end_⟩ := h1
  subst end_
  have hn := hp'.node hk ht
  refine lv_astore_n (lv' := [(2, .ref (mAd ms k 0)), (0, .ref (mEo ms)), (1, .int n)]) hx hb d_Ea_requireGroup_5 rfl hl (by decide) rfl (fun ls hl => ?_)
  refine lv_aload_n hx hb d_Ea_requireGroup_6 rfl (lv_at hl 0 rfl) ?_
  refine hp_getN (ci := 1) (v := .int (sNi d k 0)) (C := R_No) (T := F_No) (N := 20) hx hb hg i_No hown hK hI hn rfl 1 (by decide) (hE.N q_169) (fun _ h9 => h9) rfl d_Ea_requireGroup_7 ?_
  refine lv_if_eq (tgt := 23) hx hb d_Ea_requireGroup_10 (by decide) (fun c1 => ?_) (fun c1 => ?_)
  · refine lv_aload_n hx hb d_Ea_requireGroup_23 rfl (lv_at hl 0 rfl) ?_
    refine vx_ret ?_
    refine W.widen (k := 2) (n := 12) (Nat.le_of_ble_eq_true rfl) (Nat.le_of_ble_eq_true rfl) ?_
    exact W.aret (v := va_rf (some (mAd ms k 0))) hx hb hr (Or.inl ⟨_, rfl⟩) (Or.inr ⟨_, rfl⟩) (fun t9 ht9 hW9 => ⟨⟨(some (mAd ms k 0)), w, rfl, ⟨rfl, k, hk, ek, ht, c1, rfl⟩, eWo ht9 hI⟩, hS.F ht9⟩) hS.2.2 d_Ea_requireGroup_24
  · exact xt_throw (names := rte) (text := "not a group") k_304 k_71 (by decide +kernel) xf_iae x1_iae x2_iae x3_iae rfl hx hb hlt hown hg hE hI hS (hl.1.trans hml.symm) d_Ea_requireGroup_13 d_Ea_requireGroup_16 d_Ea_requireGroup_17 d_Ea_requireGroup_19 d_Ea_requireGroup_22 hnx hlocks (⟨rfl, rfl, fun ⟨k', q1, q2, q3, q4⟩ => by have := (nI_eq (a := k) (b := k') (by omega) (by omega)).mp (ek.symm.trans q2); subst this; exact c1 q4⟩) (Nat.le_of_ble_eq_true rfl) (Nat.le_of_ble_eq_true rfl) (Nat.le_of_ble_eq_true rfl) (Nat.le_of_ble_eq_true rfl) (Nat.le_of_ble_eq_true rfl) (Nat.le_of_ble_eq_true rfl)
def isShape (d : DS) (n : Int32) : Prop := ∃ k, k < 14 ∧ n = nI k ∧ sTh d k = true ∧ ¬ sNi d k 0 = 0
set_option maxHeartbeats 4000000 in
set_option maxRecDepth 100000 in
theorem m_Ea_requireShape (l : Launch) (hlt : l.stackTraces = false) (G : EG) (S0 : Nat) (w : hp_M) (ms : MS) (d : DS) (hp' : ePic G ms d w) (hno : nOk ms d) (n : Int32) : vx_Met l y_Ea_requireShape w_Ea_requireShape (rl 1 2 12) (eP G S0 w [.ref (mEo ms), .int n]) (va_Qo (fun r z => z = w ∧ ∃ k, k < 14 ∧ n = nI k ∧ sTh d k = true ∧ ¬ sNi d k 0 = 0 ∧ r = some (mAd ms k 0)) (eW G S0) (hp_A S0)) (eX G S0 (pIA w (¬ isShape d n))) 2 12 (hp_A S0) := by
  refine vx_ofW (cc := b_Ea_requireShape) (maxL := 3) (ret := (some (.object "SceneEasel$Node"))) (by decide) rfl ?_
  intro p e s m args below meth c s₁ B hml hnx hv
  obtain ⟨rfl, hE, hI, hz⟩ := hv
  have hx := B.exec
  have hb := B.bytes
  have hr := B.returns
  have hts := atoms_spec (ws := w_Ea_requireShape) B.pre
  have hg : ∀ w ∈ gw, w.before _ s = true := fun w h => hts w (List.mem_cons_of_mem _ h)
  have hown : s.vm.findClass "SceneEasel" = some m.cls := findClass_of_methodNamed B.named
  have hlocks := B.notSynchronized
  have hK := hE.K
  have hS : va_S (hp_A S0) s.heap s.heap [] := va_S.rf
  have hl := lv_entry ([.ref (mEo ms), .int n]) (n := 3) (Nat.le_of_ble_eq_true rfl)
  rw [lg_entry_eq]
  generalize (lg_sl ([.ref (mEo ms), .int n]) ++ List.replicate (3 - (lg_sl ([.ref (mEo ms), .int n])).length) Slot.unset).toArray = ls at hl ⊢
  have hl : lv_has ls 3 [(0, .ref (mEo ms)), (1, .int n)] := hl
  have hob := hp'.1
  refine lv_aload_n hx hb d_Ea_requireShape_0 rfl (lv_at hl 0 rfl) ?_
  refine lv_iload_n hx hb d_Ea_requireShape_1 rfl (lv_at hl 1 rfl) ?_
  refine xc_o (vx_runV (As := [.int n]) (rest := []) ⟨hx, hb, hml, hown, hts⟩ (m_Ea_requireNode l hlt G S0 w ms d hp' hno n) (cwV 1 hts (gw_V k_300 k_302 k_7 k_60 k_303) rfl rfl rfl (by decide +kernel) ⟨Nat.le_of_ble_eq_true rfl, Nat.le_of_ble_eq_true rfl⟩) (eB.preV hE hI hS hz rfl hob) rfl rfl hl.1 rfl (lv_room (Nat.le_of_ble_eq_true rfl)) d_Ea_requireShape_2 ⟨Nat.le_of_ble_eq_true rfl, Nat.le_of_ble_eq_true rfl⟩) hS (fun E9 ce9 q9 u9 H9 locs9 hpx9 hI9 hsz9 hS9 g1 g2 g3 => xc_out hnx hlocks g1 g2 g3 (⟨hpx9.1, hpx9.2.1, fun ⟨k, q1, q2, q3, _⟩ => hpx9.2.2 ⟨k, q1, q2, q3⟩⟩) hI9 hS9 (Nat.le_of_ble_eq_true rfl) (Nat.le_of_ble_eq_true rfl)) (fun nd w_1 H locs ew_1 hI hsz hS => ?_)
  obtain ⟨ew_1, h1⟩ := ew_1
  have ew_1 := ew_1.symm
  subst ew_1
  obtain ⟨k, hk, ek, ht, end_⟩ := h1
  subst end_
  have hn := hp'.node hk ht
  refine lv_astore_n (lv' := [(2, .ref (mAd ms k 0)), (0, .ref (mEo ms)), (1, .int n)]) hx hb d_Ea_requireShape_5 rfl hl (by decide) rfl (fun ls hl => ?_)
  refine lv_aload_n hx hb d_Ea_requireShape_6 rfl (lv_at hl 0 rfl) ?_
  refine hp_getN (ci := 1) (v := .int (sNi d k 0)) (C := R_No) (T := F_No) (N := 20) hx hb hg i_No hown hK hI hn rfl 1 (by decide) (hE.N q_169) (fun _ h9 => h9) rfl d_Ea_requireShape_7 ?_
  refine lv_if_ne (tgt := 23) hx hb d_Ea_requireShape_10 (by decide) (fun c1 => ?_) (fun c1 => ?_)
  · refine lv_aload_n hx hb d_Ea_requireShape_23 rfl (lv_at hl 0 rfl) ?_
    refine vx_ret ?_
    refine W.widen (k := 2) (n := 12) (Nat.le_of_ble_eq_true rfl) (Nat.le_of_ble_eq_true rfl) ?_
    exact W.aret (v := va_rf (some (mAd ms k 0))) hx hb hr (Or.inl ⟨_, rfl⟩) (Or.inr ⟨_, rfl⟩) (fun t9 ht9 hW9 => ⟨⟨(some (mAd ms k 0)), w, rfl, ⟨rfl, k, hk, ek, ht, c1, rfl⟩, eWo ht9 hI⟩, hS.F ht9⟩) hS.2.2 d_Ea_requireShape_24
  · exact xt_throw (names := rte) (text := "not a shape") k_304 k_71 (by decide +kernel) xf_iae x1_iae x2_iae x3_iae rfl hx hb hlt hown hg hE hI hS (hl.1.trans hml.symm) d_Ea_requireShape_13 d_Ea_requireShape_16 d_Ea_requireShape_17 d_Ea_requireShape_19 d_Ea_requireShape_22 hnx hlocks (⟨rfl, rfl, fun ⟨k', q1, q2, q3, q4⟩ => by have := (nI_eq (a := k) (b := k') (by omega) (by omega)).mp (ek.symm.trans q2); subst this; exact q4 c1⟩) (Nat.le_of_ble_eq_true rfl) (Nat.le_of_ble_eq_true rfl) (Nat.le_of_ble_eq_true rfl) (Nat.le_of_ble_eq_true rfl) (Nat.le_of_ble_eq_true rfl) (Nat.le_of_ble_eq_true rfl)
/-- the least number that no node has -/
def lsF (d : DS) (n : Nat) : Prop := n ≤ 14 ∧ (∀ j, j < n → sTh d j = true) ∧ (n < 14 → ¬ sTh d n = true)
set_option maxHeartbeats 4000000 in
set_option maxRecDepth 100000 in
theorem m_Ea_leastFree (l : Launch) (G : EG) (S0 : Nat) (w : hp_M) (ms : MS) (d : DS) (hp' : ePic G ms d w) (hno : nOk ms d) : Met l y_Ea_leastFreeNumber w_Ea_leastFreeNumber (rl 0 0 0) (eP G S0 w [.ref (mEo ms)]) (va_Qi (fun r z => (∃ n, lsF d n ∧ r = nI n) ∧ z = w) (eW G S0) (hp_A S0)) 0 0 (hp_A S0) := by
  refine Met.ofW (cc := b_Ea_leastFreeNumber) (maxL := 2) (ret := (some .int)) (by decide) rfl ?_
  intro p e s m args below meth c s₁ B hml hv
  obtain ⟨rfl, hE, hI, hz⟩ := hv
  have hx := B.exec
  have hb := B.bytes
  have hr := B.returns
  have hts := atoms_spec (ws := w_Ea_leastFreeNumber) B.pre
  have hg : ∀ w ∈ gw, w.before _ s = true := fun w h => hts w (List.mem_cons_of_mem _ h)
  have hown : s.vm.findClass "SceneEasel" = some m.cls := findClass_of_methodNamed B.named
  have hlocks := B.notSynchronized
  have hK := hE.K
  have hS : va_S (hp_A S0) s.heap s.heap [] := va_S.rf
  have hl := lv_entry ([.ref (mEo ms)]) (n := 2) (Nat.le_of_ble_eq_true rfl)
  rw [lg_entry_eq]
  generalize (lg_sl ([.ref (mEo ms)]) ++ List.replicate (2 - (lg_sl ([.ref (mEo ms)])).length) Slot.unset).toArray = ls at hl ⊢
  have hl : lv_has ls 2 [(0, .ref (mEo ms))] := hl
  have hob := hp'.1
  have hna := hp'.2.1
  refine lv_iconst (v := 0) hx hb d_Ea_leastFreeNumber_0 (by decide) ?_
  refine lv_istore_n (lv' := [(1, .int 0), (0, .ref (mEo ms))]) hx hb d_Ea_leastFreeNumber_1 rfl hl (by decide) rfl (fun ls hl => ?_)
  refine W.lpw (fun j (i : Nat) => i ≤ 14 ∧ (∀ j, j < i → sTh d j = true) ∧ j = 14 - i) (fun (i : Nat) => w) (fun (i : Nat) => [(1, .int (nI i)), (0, .ref (mEo ms))]) (fun (i : Nat) => 0) (fun (i : Nat) => 0) 2 2 (fun (i : Nat) => []) (14) (0) (⟨Nat.zero_le _, fun j hj => absurd hj (Nat.not_lt_zero j), rfl⟩) (lv_sub hl [0, 1] rfl) hI hS ?_
  rintro j i ls H locs hP hl hI hS ih
  try dsimp only at hP hl hI ⊢
  obtain ⟨h1, h2, h3⟩ := hP
  refine lv_iload_n hx hb d_Ea_leastFreeNumber_2 rfl (lv_at hl 0 rfl) ?_
  refine lv_bipush (v := 14) hx hb d_Ea_leastFreeNumber_3 (by decide) ?_
  refine lv_icmp_ge (tgt := 23) hx hb d_Ea_leastFreeNumber_5 (by decide) (fun c1 => ?_) (fun c1 => ?_)
  · have hi : 14 ≤ i := (nI_leI (a := 14) (b := i) (by omega) (by omega)).mp c1
    refine lv_iload_n hx hb d_Ea_leastFreeNumber_23 rfl (lv_at hl 0 rfl) ?_
    exact W.iret (v := (nI i)) hx hb hr (fun t9 ht9 hW9 => ⟨⟨(nI i), w, rfl, ⟨⟨i, ⟨h1, h2, fun q => absurd q (by omega)⟩, rfl⟩, rfl⟩, eWo ht9 hI⟩, hS.F ht9⟩) hS.2.2 d_Ea_leastFreeNumber_24
  · have hi : i < 14 := by
      rcases Nat.lt_or_ge i 14 with q | q
      · exact q
      · exact absurd ((nI_leI (a := 14) (b := i) (by omega) (by omega)).mpr q) c1
    refine lv_aload_n hx hb d_Ea_leastFreeNumber_8 rfl (lv_at hl 1 rfl) ?_
    refine hp_get (ci := 3) (v := .ref (mNa ms)) (C := R_Ea) (T := F_Ea) (N := 4) hx hb hg i_Ea hown hK hI hob rfl 1 (by decide) (hg _ k_244) (fun _ h9 => h9) rfl d_Ea_leastFreeNumber_9 ?_
    refine lv_iload_n hx hb d_Ea_leastFreeNumber_12 rfl (lv_at hl 0 rfl) ?_
    refine hp_aald hx hb hK hI 4 hna rfl (vp_in_nI hi (by decide)) d_Ea_leastFreeNumber_13 ?_
    rw [nI_clamp (n := i) (by omega)]
    by_cases ht : sTh d i = true
    · rw [hno.some hi ht]
      refine lv_ifnull hx hb d_Ea_leastFreeNumber_14 ?_
      refine lv_iinc (v := nI (i + 1)) (lv' := [(1, .int (nI (i + 1))), (0, .ref (mEo ms))]) hx hb d_Ea_leastFreeNumber_17 hl (k := 0) rfl (nI_inc i) (by decide) rfl (fun ls hl => ?_)
      refine lv_goto (tgt := 2) hx hb d_Ea_leastFreeNumber_20 (by decide) ?_
      exact ih (14 - (i + 1)) (i + 1) ls H locs (by omega) (⟨by omega, fun j hj => (Nat.lt_or_ge j i).elim (h2 j) (fun q => by rw [show j = i by omega]; exact ht), rfl⟩) (lv_sub hl [0, 1] rfl) hI hS
    · rw [hno.none hi ht]
      refine lv_ifnullN (tgt := 23) hx hb d_Ea_leastFreeNumber_14 (by decide) ?_
      refine lv_iload_n hx hb d_Ea_leastFreeNumber_23 rfl (lv_at hl 0 rfl) ?_
      exact W.iret (v := (nI i)) hx hb hr (fun t9 ht9 hW9 => ⟨⟨(nI i), w, rfl, ⟨⟨i, ⟨h1, h2, fun _ => ht⟩, rfl⟩, rfl⟩, eWo ht9 hI⟩, hS.F ht9⟩) hS.2.2 d_Ea_leastFreeNumber_24
/-- how many nodes, how many frames -/
def nTh (d : DS) : Nat → Nat
  | 0 => 0
  | i + 1 => nTh d i + (if sTh d i = true then 1 else 0)
def fTh (d : DS) : Nat → Nat
  | 0 => 0
  | i + 1 => fTh d i + (if sTh d i = true then frS d i 4 else 0)
set_option maxHeartbeats 4000000 in
set_option maxRecDepth 100000 in
theorem m_Ea_nodesThere (l : Launch) (G : EG) (S0 : Nat) (w : hp_M) (ms : MS) (d : DS) (hp' : ePic G ms d w) (hno : nOk ms d) : Met l y_Ea_nodesThere w_Ea_nodesThere (rl 1 0 0) (eP G S0 w [.ref (mEo ms)]) (va_Qi (fun r z => r = nI (nTh d 14) ∧ z = w) (eW G S0) (hp_A S0)) 0 0 (hp_A S0) := by
  refine Met.ofW (cc := b_Ea_nodesThere) (maxL := 3) (ret := (some .int)) (by decide) rfl ?_
  intro p e s m args below meth c s₁ B hml hv
  obtain ⟨rfl, hE, hI, hz⟩ := hv
  have hx := B.exec
  have hb := B.bytes
  have hr := B.returns
  have hts := atoms_spec (ws := w_Ea_nodesThere) B.pre
  have hg : ∀ w ∈ gw, w.before _ s = true := fun w h => hts w (List.mem_cons_of_mem _ h)
  have hown : s.vm.findClass "SceneEasel" = some m.cls := findClass_of_methodNamed B.named
  have hlocks := B.notSynchronized
  have hK := hE.K
  have hS : va_S (hp_A S0) s.heap s.heap [] := va_S.rf
  have hl := lv_entry ([.ref (mEo ms)]) (n := 3) (Nat.le_of_ble_eq_true rfl)
  rw [lg_entry_eq]
  generalize (lg_sl ([.ref (mEo ms)]) ++ List.replicate (3 - (lg_sl ([.ref (mEo ms)])).length) Slot.unset).toArray = ls at hl ⊢
  have hl : lv_has ls 3 [(0, .ref (mEo ms))] := hl
  have hob := hp'.1
  have hna := hp'.2.1
  refine lv_iconst (v := 0) hx hb d_Ea_nodesThere_0 (by decide) ?_
  refine lv_istore_n (lv' := [(1, .int 0), (0, .ref (mEo ms))]) hx hb d_Ea_nodesThere_1 rfl hl (by decide) rfl (fun ls hl => ?_)
  refine lv_iconst (v := 0) hx hb d_Ea_nodesThere_2 (by decide) ?_
  refine lv_istore_n (lv' := [(2, .int 0), (1, .int 0), (0, .ref (mEo ms))]) hx hb d_Ea_nodesThere_3 rfl hl (by decide) rfl (fun ls hl => ?_)
  refine W.lpw (fun j (i : Nat) => i ≤ 14 ∧ j = 14 - i) (fun (i : Nat) => w) (fun (i : Nat) => [(2, .int (nI i)), (1, .int (nI (nTh d i))), (0, .ref (mEo ms))]) (fun (i : Nat) => 0) (fun (i : Nat) => 0) 3 4 (fun (i : Nat) => []) (14) (0) (⟨Nat.zero_le _, rfl⟩) (lv_sub hl [0, 1, 2] rfl) hI hS ?_
  rintro j i ls H locs hP hl hI hS ih
  try dsimp only at hP hl hI ⊢
  obtain ⟨h1, h3⟩ := hP
  refine lv_iload_n hx hb d_Ea_nodesThere_4 rfl (lv_at hl 0 rfl) ?_
  refine lv_bipush (v := 14) hx hb d_Ea_nodesThere_5 (by decide) ?_
  refine lv_icmp_ge (tgt := 33) hx hb d_Ea_nodesThere_7 (by decide) (fun c1 => ?_) (fun c1 => ?_)
  · have hi : 14 ≤ i := (nI_leI (a := 14) (b := i) (by omega) (by omega)).mp c1
    refine lv_iload_n hx hb d_Ea_nodesThere_33 rfl (lv_at hl 1 rfl) ?_
    exact W.iret (v := (nI (nTh d i))) hx hb hr (fun t9 ht9 hW9 => ⟨⟨(nI (nTh d i)), w, rfl, ⟨by rw [show i = 14 by omega], rfl⟩, eWo ht9 hI⟩, hS.F ht9⟩) hS.2.2 d_Ea_nodesThere_34
  · have hi : i < 14 := by
      rcases Nat.lt_or_ge i 14 with q | q
      · exact q
      · exact absurd ((nI_leI (a := 14) (b := i) (by omega) (by omega)).mpr q) c1
    refine lv_iload_n hx hb d_Ea_nodesThere_10 rfl (lv_at hl 1 rfl) ?_
    refine lv_aload_n hx hb d_Ea_nodesThere_11 rfl (lv_at hl 2 rfl) ?_
    refine hp_get (ci := 3) (v := .ref (mNa ms)) (C := R_Ea) (T := F_Ea) (N := 4) hx hb hg i_Ea hown hK hI hob rfl 1 (by decide) (hg _ k_244) (fun _ h9 => h9) rfl d_Ea_nodesThere_12 ?_
    refine lv_iload_n hx hb d_Ea_nodesThere_15 rfl (lv_at hl 0 rfl) ?_
    refine hp_aald hx hb hK hI 4 hna rfl (vp_in_nI hi (by decide)) d_Ea_nodesThere_16 ?_
    rw [nI_clamp (n := i) (by omega)]
    by_cases ht : sTh d i = true
    · rw [hno.some hi ht]
      refine lv_ifnonnull (tgt := 24) hx hb d_Ea_nodesThere_17 (by decide) ?_
      refine lv_iconst (v := 1) hx hb d_Ea_nodesThere_24 (by decide) ?_
      refine lv_iadd hx hb d_Ea_nodesThere_25 ?_
      rw [show nI (nTh d i) + 1 = nI (nTh d (i + 1)) by rw [nI_1, show nTh d (i + 1) = nTh d i + 1 by rw [nTh, if_pos ht]]]
      refine lv_istore_n (lv' := [(1, .int (nI (nTh d (i + 1)))), (2, .int (nI i)), (0, .ref (mEo ms))]) hx hb d_Ea_nodesThere_26 rfl hl (by decide) rfl (fun ls hl => ?_)
      refine lv_iinc (v := nI (i + 1)) (lv' := [(2, .int (nI (i + 1))), (1, .int (nI (nTh d (i + 1)))), (0, .ref (mEo ms))]) hx hb d_Ea_nodesThere_27 hl (k := 1) rfl (nI_inc i) (by decide) rfl (fun ls hl => ?_)
      refine lv_goto (tgt := 4) hx hb d_Ea_nodesThere_30 (by decide) ?_
      exact ih (14 - (i + 1)) (i + 1) ls H locs (by omega) (⟨by omega, rfl⟩) (lv_sub hl [0, 1, 2] rfl) hI hS
    · rw [hno.none hi ht]
      refine lv_ifnonnullN hx hb d_Ea_nodesThere_17 ?_
      refine lv_iconst (v := 0) hx hb d_Ea_nodesThere_20 (by decide) ?_
      refine lv_goto (tgt := 25) hx hb d_Ea_nodesThere_21 (by decide) ?_
      refine lv_iadd hx hb d_Ea_nodesThere_25 ?_
      rw [show nI (nTh d i) + 0 = nI (nTh d (i + 1)) by rw [show (0 : Int32) = nI 0 from rfl, nI_add, nTh, if_neg ht]]
      refine lv_istore_n (lv' := [(1, .int (nI (nTh d (i + 1)))), (2, .int (nI i)), (0, .ref (mEo ms))]) hx hb d_Ea_nodesThere_26 rfl hl (by decide) rfl (fun ls hl => ?_)
      refine lv_iinc (v := nI (i + 1)) (lv' := [(2, .int (nI (i + 1))), (1, .int (nI (nTh d (i + 1)))), (0, .ref (mEo ms))]) hx hb d_Ea_nodesThere_27 hl (k := 1) rfl (nI_inc i) (by decide) rfl (fun ls hl => ?_)
      refine lv_goto (tgt := 4) hx hb d_Ea_nodesThere_30 (by decide) ?_
      exact ih (14 - (i + 1)) (i + 1) ls H locs (by omega) (⟨by omega, rfl⟩) (lv_sub hl [0, 1, 2] rfl) hI hS
set_option maxHeartbeats 4000000 in
set_option maxRecDepth 100000 in
theorem m_Ea_framesThere (l : Launch) (G : EG) (S0 : Nat) (w : hp_M) (ms : MS) (d : DS) (hp' : ePic G ms d w) (hno : nOk ms d) : Met l y_Ea_framesThere w_Ea_framesThere (rl 1 0 0) (eP G S0 w [.ref (mEo ms)]) (va_Qi (fun r z => r = nI (fTh d 14) ∧ z = w) (eW G S0) (hp_A S0)) 0 0 (hp_A S0) := by
  refine Met.ofW (cc := b_Ea_framesThere) (maxL := 3) (ret := (some .int)) (by decide) rfl ?_
  intro p e s m args below meth c s₁ B hml hv
  obtain ⟨rfl, hE, hI, hz⟩ := hv
  have hx := B.exec
  have hb := B.bytes
  have hr := B.returns
  have hts := atoms_spec (ws := w_Ea_framesThere) B.pre
  have hg : ∀ w ∈ gw, w.before _ s = true := fun w h => hts w (List.mem_cons_of_mem _ h)
  have hown : s.vm.findClass "SceneEasel" = some m.cls := findClass_of_methodNamed B.named
  have hlocks := B.notSynchronized
  have hK := hE.K
  have hS : va_S (hp_A S0) s.heap s.heap [] := va_S.rf
  have hl := lv_entry ([.ref (mEo ms)]) (n := 3) (Nat.le_of_ble_eq_true rfl)
  rw [lg_entry_eq]
  generalize (lg_sl ([.ref (mEo ms)]) ++ List.replicate (3 - (lg_sl ([.ref (mEo ms)])).length) Slot.unset).toArray = ls at hl ⊢
  have hl : lv_has ls 3 [(0, .ref (mEo ms))] := hl
  have hob := hp'.1
  have hna := hp'.2.1
  refine lv_iconst (v := 0) hx hb d_Ea_framesThere_0 (by decide) ?_
  refine lv_istore_n (lv' := [(1, .int 0), (0, .ref (mEo ms))]) hx hb d_Ea_framesThere_1 rfl hl (by decide) rfl (fun ls hl => ?_)
  refine lv_iconst (v := 0) hx hb d_Ea_framesThere_2 (by decide) ?_
  refine lv_istore_n (lv' := [(2, .int 0), (1, .int 0), (0, .ref (mEo ms))]) hx hb d_Ea_framesThere_3 rfl hl (by decide) rfl (fun ls hl => ?_)
  refine W.lpw (fun j (i : Nat) => i ≤ 14 ∧ j = 14 - i) (fun (i : Nat) => w) (fun (i : Nat) => [(2, .int (nI i)), (1, .int (nI (fTh d i))), (0, .ref (mEo ms))]) (fun (i : Nat) => 0) (fun (i : Nat) => 0) 3 4 (fun (i : Nat) => []) (14) (0) (⟨Nat.zero_le _, rfl⟩) (lv_sub hl [0, 1, 2] rfl) hI hS ?_
  rintro j i ls H locs hP hl hI hS ih
  try dsimp only at hP hl hI ⊢
  obtain ⟨h1, h3⟩ := hP
  refine lv_iload_n hx hb d_Ea_framesThere_4 rfl (lv_at hl 0 rfl) ?_
  refine lv_bipush (v := 14) hx hb d_Ea_framesThere_5 (by decide) ?_
  refine lv_icmp_ge (tgt := 41) hx hb d_Ea_framesThere_7 (by decide) (fun c1 => ?_) (fun c1 => ?_)
  · have hi : 14 ≤ i := (nI_leI (a := 14) (b := i) (by omega) (by omega)).mp c1
    refine lv_iload_n hx hb d_Ea_framesThere_41 rfl (lv_at hl 1 rfl) ?_
    exact W.iret (v := (nI (fTh d i))) hx hb hr (fun t9 ht9 hW9 => ⟨⟨(nI (fTh d i)), w, rfl, ⟨by rw [show i = 14 by omega], rfl⟩, eWo ht9 hI⟩, hS.F ht9⟩) hS.2.2 d_Ea_framesThere_42
  · have hi : i < 14 := by
      rcases Nat.lt_or_ge i 14 with q | q
      · exact q
      · exact absurd ((nI_leI (a := 14) (b := i) (by omega) (by omega)).mpr q) c1
    refine lv_iload_n hx hb d_Ea_framesThere_10 rfl (lv_at hl 1 rfl) ?_
    refine lv_aload_n hx hb d_Ea_framesThere_11 rfl (lv_at hl 2 rfl) ?_
    refine hp_get (ci := 3) (v := .ref (mNa ms)) (C := R_Ea) (T := F_Ea) (N := 4) hx hb hg i_Ea hown hK hI hob rfl 1 (by decide) (hg _ k_244) (fun _ h9 => h9) rfl d_Ea_framesThere_12 ?_
    refine lv_iload_n hx hb d_Ea_framesThere_15 rfl (lv_at hl 0 rfl) ?_
    refine hp_aald hx hb hK hI 4 hna rfl (vp_in_nI hi (by decide)) d_Ea_framesThere_16 ?_
    rw [nI_clamp (n := i) (by omega)]
    by_cases ht : sTh d i = true
    · rw [hno.some hi ht]
      refine lv_ifnonnull (tgt := 24) hx hb d_Ea_framesThere_17 (by decide) ?_
      have hn := hp'.node hi ht
      refine lv_aload_n hx hb d_Ea_framesThere_24 rfl (lv_at hl 2 rfl) ?_
      refine hp_get (ci := 3) (v := .ref (mNa ms)) (C := R_Ea) (T := F_Ea) (N := 4) hx hb hg i_Ea hown hK hI hob rfl 1 (by decide) (hg _ k_244) (fun _ h9 => h9) rfl d_Ea_framesThere_25 ?_
      refine lv_iload_n hx hb d_Ea_framesThere_28 rfl (lv_at hl 0 rfl) ?_
      refine hp_aald hx hb hK hI 4 hna rfl (vp_in_nI hi (by decide)) d_Ea_framesThere_29 ?_
      rw [nI_clamp (n := i) (by omega)]
      rw [hno.some hi ht]
      refine ec_i (va_runVN (As := []) (rest := [.int (nI (fTh d i))]) ⟨hx, hb, hml, hown, hts⟩ (m_No_frames l G S0 w ms d hp' i hi ht) ⟨va_cnB 0 hts (gw_code k_271) rfl rfl rfl (hE.Nw q_268) (hg _ k_61) (by decide +kernel) ⟨Nat.le_of_ble_eq_true rfl, Nat.le_of_ble_eq_true rfl⟩, hg _ k_270, hg _ k_2⟩ (eB.preV hE hI hS hz rfl hn) rfl rfl hl.1 rfl (lv_room (Nat.le_of_ble_eq_true rfl)) d_Ea_framesThere_30 ⟨Nat.le_of_ble_eq_true rfl, Nat.le_of_ble_eq_true rfl⟩) hS (fun fr w_2 H locs ew_2 hI hsz hS => ?_)
      obtain ⟨efr, ew_2⟩ := ew_2
      have ew_2 := ew_2.symm
      subst ew_2
      subst efr
      refine lv_iadd hx hb d_Ea_framesThere_33 ?_
      rw [nI_add, show fTh d i + frS d i 4 = fTh d (i + 1) by rw [fTh, if_pos ht]]
      refine lv_istore_n (lv' := [(1, .int (nI (fTh d (i + 1)))), (2, .int (nI i)), (0, .ref (mEo ms))]) hx hb d_Ea_framesThere_34 rfl hl (by decide) rfl (fun ls hl => ?_)
      refine lv_iinc (v := nI (i + 1)) (lv' := [(2, .int (nI (i + 1))), (1, .int (nI (fTh d (i + 1)))), (0, .ref (mEo ms))]) hx hb d_Ea_framesThere_35 hl (k := 1) rfl (nI_inc i) (by decide) rfl (fun ls hl => ?_)
      refine lv_goto (tgt := 4) hx hb d_Ea_framesThere_38 (by decide) ?_
      exact ih (14 - (i + 1)) (i + 1) ls H locs (by omega) (⟨by omega, rfl⟩) (lv_sub hl [0, 1, 2] rfl) hI hS
    · rw [hno.none hi ht]
      refine lv_ifnonnullN hx hb d_Ea_framesThere_17 ?_
      refine lv_iconst (v := 0) hx hb d_Ea_framesThere_20 (by decide) ?_
      refine lv_goto (tgt := 33) hx hb d_Ea_framesThere_21 (by decide) ?_
      refine lv_iadd hx hb d_Ea_framesThere_33 ?_
      rw [show nI (fTh d i) + 0 = nI (fTh d (i + 1)) by rw [show (0 : Int32) = nI 0 from rfl, nI_add, fTh, if_neg ht]]
      refine lv_istore_n (lv' := [(1, .int (nI (fTh d (i + 1)))), (2, .int (nI i)), (0, .ref (mEo ms))]) hx hb d_Ea_framesThere_34 rfl hl (by decide) rfl (fun ls hl => ?_)
      refine lv_iinc (v := nI (i + 1)) (lv' := [(2, .int (nI (i + 1))), (1, .int (nI (fTh d (i + 1)))), (0, .ref (mEo ms))]) hx hb d_Ea_framesThere_35 hl (k := 1) rfl (nI_inc i) (by decide) rfl (fun ls hl => ?_)
      refine lv_goto (tgt := 4) hx hb d_Ea_framesThere_38 (by decide) ?_
      exact ih (14 - (i + 1)) (i + 1) ls H locs (by omega) (⟨by omega, rfl⟩) (lv_sub hl [0, 1, 2] rfl) hI hS

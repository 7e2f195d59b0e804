/-! Easel's calls: what is set -/
/-- what a call leaves of the class -/
def pubR (G : EG) (ms : MS) (d : DS) (w : hp_M) (d' : DS) (z : hp_M) : Prop := ∃ ms', mEo ms' = mEo ms ∧ ePic G ms' d' z ∧ nOk ms' d' ∧ fR ms d w ms' d' z
def dNi (d : DS) (k i : Nat) (v : Int32) : DS := (d.1, fun j r => if j = k ∧ r = i then v else sNi d j r, d.2.2)
def dNd (d : DS) (k i : Nat) (v : UInt64) : DS := (d.1, d.2.1, fun j r => if j = k ∧ r = i then v else sNd d j r, d.2.2.2)
theorem dNi_y (d : DS) (k i : Nat) (v : Int32) : sNi (dNi d k i v) k i = v := if_pos ⟨rfl, rfl⟩
theorem dNi_n {d : DS} {k i j r : Nat} {v : Int32} (h : ¬ (j = k ∧ r = i)) : sNi (dNi d k i v) j r = sNi d j r := if_neg h
theorem dNd_y (d : DS) (k i : Nat) (v : UInt64) : sNd (dNd d k i v) k i = v := if_pos ⟨rfl, rfl⟩
theorem dNd_n {d : DS} {k i j r : Nat} {v : UInt64} (h : ¬ (j = k ∧ r = i)) : sNd (dNd d k i v) j r = sNd d j r := if_neg h
theorem ePic.fld {G : EG} {m : MS} {d d' : DS} {w : hp_M} (h : ePic G m d w) {k : Nat} (hk : k < 14) (ht : sTh d k = true) (e1 : d'.1 = d.1) (e2 : d'.2.2.2 = d.2.2.2) (ho : ∀ j i, j ≠ k → sNi d' j i = sNi d j i ∧ sNd d' j i = sNd d j i) : ePic G m d' (hp_set w (mAd m k 0) (nC m d' k)) := by
  have ech : sCh d' = sCh d := by show d'.2.2.2.1 = d.2.2.2.1; rw [e2]
  have epa : sPa d' = sPa d := by show d'.2.2.2.2.1 = d.2.2.2.2.1; rw [e2]
  have etn : sTn d' = sTn d := by show d'.2.2.2.2.2.1 = d.2.2.2.2.2.1; rw [e2]
  have ett : sTt d' = sTt d := by show d'.2.2.2.2.2.2.1 = d.2.2.2.2.2.2.1; rw [e2]
  have etv : sTv d' = sTv d := by show d'.2.2.2.2.2.2.2.1 = d.2.2.2.2.2.2.2.1; rw [e2]
  have ecl : sCl d' = sCl d := by show d'.2.2.2.2.2.2.2.2.1 = d.2.2.2.2.2.2.2.2.1; rw [e2]
  have ept : sPt d' = sPt d := by show d'.2.2.2.2.2.2.2.2.2 = d.2.2.2.2.2.2.2.2.2; rw [e2]
  refine h.set1 (m' := m) (d' := d') hk ht ⟨by decide, fun e => absurd e (by decide)⟩ rfl rfl rfl e1 ept ecl (fun j r hj hjt hr hne => ?_) (fun j hj hjt => ⟨fun i hi => by rw [etn]; exact (nPic_iff.mp (h.2.2.2.1 j hj hjt)).2.1 i hi, by rw [ech]; exact (nPic_iff.mp (h.2.2.2.1 j hj hjt)).2.2.1⟩)
  have eel : elF m d' j = elF m d j := by unfold elF; rw [ech]
  unfold cellOf
  by_cases q0 : r = 0
  · have hjk : j ≠ k := fun e => hne ⟨e, q0⟩
    rw [if_pos q0, if_pos q0]
    have e : pAd m d' j = pAd m d j := by unfold pAd; rw [epa]
    have n := fun i => (ho j i hjk).1
    have f := fun i => (ho j i hjk).2
    unfold nC
    rw [e, n, n, n, n, n, n, f, f, f, f, f]
  rw [if_neg q0, if_neg q0, ech, etn, ett, etv, eel]
theorem fR.eq {m : MS} {d d' : DS} {w z : hp_M} (h : fR m d w m d z) (e : sTh d' = sTh d) : fR m d w m d' z := ⟨h.1, fun a q => h.2 a ((Own.congr rfl rfl rfl e a).mp q)⟩
theorem pub_fld {G : EG} {m : MS} {d d' : DS} {w z : hp_M} (h : ePic G m d w) (hno : nOk m d) {k : Nat} (hk : k < 14) (ht : sTh d k = true) (e1 : d'.1 = d.1) (e2 : d'.2.2.2 = d.2.2.2) (ho : ∀ j i, j ≠ k → sNi d' j i = sNi d j i ∧ sNd d' j i = sNd d j i) (ez : z = hp_set w (mAd m k 0) (nC m d' k)) : pubR G m d w d' z := by
  refine ⟨m, rfl, by rw [ez]; exact h.fld hk ht e1 e2 ho, fun j hj => ?_, ?_⟩
  · rw [hno j hj]
    unfold noF
    rw [show sTh d' = sTh d from e1]
  · rw [ez]
    exact fR.eq (fR.st hk ht ⟨by decide, fun e => absurd e (by decide)⟩ rfl _) e1
set_option maxHeartbeats 4000000 in
set_option maxRecDepth 100000 in
theorem m_Ea_lengths (l : Launch) (hlt : l.stackTraces = false) (G : EG) (S0 : Nat) (w : hp_M) (ms : MS) (d : DS) (hp' : ePic G ms d w) (hno : nOk ms d) (h00 : sTh d 0 = true) (n : Int32) (lp lq : UInt64) (hfp : FP.Core.DFin lp) (hfq : FP.Core.DFin lq) : vx_Met l y_Ea_lengths w_Ea_lengths (rl 22 40 200) (eP G S0 w [.ref (mEo ms), .int n, .double lp, .double lq]) (va_Qv (fun z => ∃ k, k < 14 ∧ n = nI k ∧ sTh d k = true ∧ (isShape d n ∧ inL lp ∧ inL lq) ∧ pubR G ms d w (dNd (dNd d k 0 lp) k 1 lq) z) (eW G S0) (hp_A S0)) (eX G S0 (pIA w (¬ (isShape d n ∧ inL lp ∧ inL lq)))) 40 200 (hp_A S0) := by
  refine vx_ofW (cc := b_Ea_lengths) (maxL := 7) (ret := none) (by decide) rfl ?_
  intro p e s m args below meth c s₁ B hml hnx hv
  obtain ⟨rfl, hE, hI, hz⟩ := hv
  have hx := B.exec
  have hb := B.bytes
  have hr := B.returns
  have hts := atoms_spec (ws := w_Ea_lengths) B.pre
  have hg : ∀ w ∈ gw, w.before _ s = true := fun w h => hts w (List.mem_cons_of_mem _ h)
  have hown : s.vm.findClass "SceneEasel" = some m.cls := findClass_of_methodNamed B.named
  have hlocks := B.notSynchronized
  have hK := hE.K
  have hS : va_S (hp_A S0) s.heap s.heap [] := va_S.rf
  have hl := lv_entry ([.ref (mEo ms), .int n, .double lp, .double lq]) (n := 7) (Nat.le_of_ble_eq_true rfl)
  rw [lg_entry_eq]
  generalize (lg_sl ([.ref (mEo ms), .int n, .double lp, .double lq]) ++ List.replicate (7 - (lg_sl ([.ref (mEo ms), .int n, .double lp, .double lq])).length) Slot.unset).toArray = ls at hl ⊢
  have hl : lv_has ls 7 [(0, .ref (mEo ms)), (1, .int n), (2, .double lp), (4, .double lq)] := hl
  have hob := hp'.1
  refine lv_aload_n hx hb d_Ea_lengths_0 rfl (lv_at hl 0 rfl) ?_
  refine lv_iload_n hx hb d_Ea_lengths_1 rfl (lv_at hl 1 rfl) ?_
  refine xc_o (vx_runV (As := [.int n]) (rest := []) ⟨hx, hb, hml, hown, hts⟩ (m_Ea_requireShape l hlt G S0 w ms d hp' hno n) (cwV 1 hts (gw_V k_463 k_465 k_14 k_60 k_466) rfl rfl rfl (by decide +kernel) ⟨Nat.le_of_ble_eq_true rfl, Nat.le_of_ble_eq_true rfl⟩) (eB.preV hE hI hS hz rfl hob) rfl rfl hl.1 rfl (lv_room (Nat.le_of_ble_eq_true rfl)) d_Ea_lengths_2 ⟨Nat.le_of_ble_eq_true rfl, Nat.le_of_ble_eq_true rfl⟩) hS (fun E9 ce9 q9 u9 H9 locs9 hpx9 hI9 hsz9 hS9 g1 g2 g3 => xc_out hnx hlocks g1 g2 g3 (⟨hpx9.1, hpx9.2.1, fun h => hpx9.2.2 h.1⟩) hI9 hS9 (Nat.le_of_ble_eq_true rfl) (Nat.le_of_ble_eq_true rfl)) (fun nd w_1 H locs ew_1 hI hsz hS => ?_)
  obtain ⟨ew_1, h1⟩ := ew_1
  have ew_1 := ew_1.symm
  subst ew_1
  obtain ⟨k, hk, ek, ht, hk0, end_⟩ := h1
  subst end_
  have hn := hp'.node hk ht
  refine lv_astore (lv' := [(6, .ref (mAd ms k 0)), (0, .ref (mEo ms)), (1, .int n), (2, .double lp), (4, .double lq)]) hx hb d_Ea_lengths_5 hl (by decide) rfl (fun ls hl => ?_)
  refine lv_dload_n hx hb d_Ea_lengths_7 rfl (lv_at hl 3 rfl) ?_
  refine xc_v (vx_runS (As := [.double lp]) (rest := []) ⟨hx, hb, hml, hown, hts⟩ (m_Ea_requireLength l hlt G S0 w lp hfp) (cwS 1 hts (gw_S k_468 k_469 k_60 k_470) rfl rfl rfl (by decide +kernel) ⟨Nat.le_of_ble_eq_true rfl, Nat.le_of_ble_eq_true rfl⟩) (eB.preS hE hI hS hz) rfl rfl hl.1 rfl (lv_room (Nat.le_of_ble_eq_true rfl)) d_Ea_lengths_8 ⟨Nat.le_of_ble_eq_true rfl, Nat.le_of_ble_eq_true rfl⟩) hS (fun E9 ce9 q9 u9 H9 locs9 hpx9 hI9 hsz9 hS9 g1 g2 g3 => xc_out hnx hlocks g1 g2 g3 (⟨hpx9.1, hpx9.2.1, fun h => hpx9.2.2 h.2.1⟩) hI9 hS9 (Nat.le_of_ble_eq_true rfl) (Nat.le_of_ble_eq_true rfl)) (fun w_2 H locs ew_2 hI hsz hS => ?_)
  obtain ⟨ew_2, h2⟩ := ew_2
  have ew_2 := ew_2.symm
  subst ew_2
  refine lv_dload hx hb d_Ea_lengths_11 (lv_at hl 4 rfl) ?_
  refine xc_v (vx_runS (As := [.double lq]) (rest := []) ⟨hx, hb, hml, hown, hts⟩ (m_Ea_requireLength l hlt G S0 w lq hfq) (cwS 1 hts (gw_S k_468 k_469 k_60 k_470) rfl rfl rfl (by decide +kernel) ⟨Nat.le_of_ble_eq_true rfl, Nat.le_of_ble_eq_true rfl⟩) (eB.preS hE hI hS hz) rfl rfl hl.1 rfl (lv_room (Nat.le_of_ble_eq_true rfl)) d_Ea_lengths_13 ⟨Nat.le_of_ble_eq_true rfl, Nat.le_of_ble_eq_true rfl⟩) hS (fun E9 ce9 q9 u9 H9 locs9 hpx9 hI9 hsz9 hS9 g1 g2 g3 => xc_out hnx hlocks g1 g2 g3 (⟨hpx9.1, hpx9.2.1, fun h => hpx9.2.2 h.2.2⟩) hI9 hS9 (Nat.le_of_ble_eq_true rfl) (Nat.le_of_ble_eq_true rfl)) (fun w_3 H locs ew_3 hI hsz hS => ?_)
  obtain ⟨ew_3, h3⟩ := ew_3
  have ew_3 := ew_3.symm
  subst ew_3
  refine lv_aload hx hb d_Ea_lengths_16 (lv_at hl 0 rfl) ?_
  refine lv_dload_n hx hb d_Ea_lengths_18 rfl (lv_at hl 3 rfl) ?_
  refine hp_putN (ci := 1) (v := .double lp) (ty := .double) (C := R_No) (T := F_No) (N := 20) hx hb hg i_No t_No t_No_ok n_No hown hK hI hS hn rfl 8 (by decide) (hE.N q_182) (fun _ h9 => h9) rfl (by decide +kernel) rfl rfl (Nat.le_of_ble_eq_true rfl) d_Ea_lengths_19 (fun H locs hI hS hsz => ?_)
  obtain ⟨w_4, ew_4⟩ : ∃ z9, z9 = hp_set w (mAd ms k 0) (.inr (1, [.int (nI k), .int (sNi d k 0), .int (sNi d k 1), .ref (mAd ms k 1), .ref (mAd ms k 2), .ref (mAd ms k 3), va_rf (pAd ms d k), .int (sNi d k 2), .double lp, .double (sNd d k 1), .double (sNd d k 2), .double (sNd d k 3), .int (sNi d k 3), .int (sNi d k 4), .int (sNi d k 5), .double (sNd d k 4), .double (mNx ms k 0), .double (mNx ms k 1), .int (mNi ms k 0), .int (mNi ms k 1)])) := ⟨_, rfl⟩
  have hI : eI G S0 w_4 H := by rw [ew_4]; exact hI
  have hob : w_4 (mEo ms) = some (.inr (3, [.ref (mAd ms 0 0), .ref (mNa ms), .ref (mCa ms), .int (sPt d)])) := by rw [ew_4, hp_set_ne (hp_ne_c (by decide) hob hn)]; exact hob
  have hn : w_4 (mAd ms k 0) = some (.inr (1, [.int (nI k), .int (sNi d k 0), .int (sNi d k 1), .ref (mAd ms k 1), .ref (mAd ms k 2), .ref (mAd ms k 3), va_rf (pAd ms d k), .int (sNi d k 2), .double lp, .double (sNd d k 1), .double (sNd d k 2), .double (sNd d k 3), .int (sNi d k 3), .int (sNi d k 4), .int (sNi d k 5), .double (sNd d k 4), .double (mNx ms k 0), .double (mNx ms k 1), .int (mNi ms k 0), .int (mNi ms k 1)])) := by rw [ew_4]; exact hp_set_eq _ _ _
  refine lv_aload hx hb d_Ea_lengths_22 (lv_at hl 0 rfl) ?_
  refine lv_dload hx hb d_Ea_lengths_24 (lv_at hl 4 rfl) ?_
  refine hp_putN (ci := 1) (v := .double lq) (ty := .double) (C := R_No) (T := F_No) (N := 20) hx hb hg i_No t_No t_No_ok n_No hown hK hI hS hn rfl 9 (by decide) (hE.N q_184) (fun _ h9 => h9) rfl (by decide +kernel) rfl rfl (Nat.le_of_ble_eq_true rfl) d_Ea_lengths_26 (fun H locs hI hS hsz => ?_)
  obtain ⟨w_5, ew_5⟩ : ∃ z9, z9 = hp_set w_4 (mAd ms k 0) (.inr (1, [.int (nI k), .int (sNi d k 0), .int (sNi d k 1), .ref (mAd ms k 1), .ref (mAd ms k 2), .ref (mAd ms k 3), va_rf (pAd ms d k), .int (sNi d k 2), .double lp, .double lq, .double (sNd d k 2), .double (sNd d k 3), .int (sNi d k 3), .int (sNi d k 4), .int (sNi d k 5), .double (sNd d k 4), .double (mNx ms k 0), .double (mNx ms k 1), .int (mNi ms k 0), .int (mNi ms k 1)])) := ⟨_, rfl⟩
  have hI : eI G S0 w_5 H := by rw [ew_5]; exact hI
  have hob : w_5 (mEo ms) = some (.inr (3, [.ref (mAd ms 0 0), .ref (mNa ms), .ref (mCa ms), .int (sPt d)])) := by rw [ew_5, hp_set_ne (hp_ne_c (by decide) hob hn)]; exact hob
  have hn : w_5 (mAd ms k 0) = some (.inr (1, [.int (nI k), .int (sNi d k 0), .int (sNi d k 1), .ref (mAd ms k 1), .ref (mAd ms k 2), .ref (mAd ms k 3), va_rf (pAd ms d k), .int (sNi d k 2), .double lp, .double lq, .double (sNd d k 2), .double (sNd d k 3), .int (sNi d k 3), .int (sNi d k 4), .int (sNi d k 5), .double (sNd d k 4), .double (mNx ms k 0), .double (mNx ms k 1), .int (mNi ms k 0), .int (mNi ms k 1)])) := by rw [ew_5]; exact hp_set_eq _ _ _
  have v0 : sNd (dNd (dNd d k 0 lp) k 1 lq) k 0 = lp := (dNd_n (by omega)).trans (dNd_y _ _ _ _)
  have v1 : sNd (dNd (dNd d k 0 lp) k 1 lq) k 1 = lq := dNd_y _ _ _ _
  have v2 : sNd (dNd (dNd d k 0 lp) k 1 lq) k 2 = sNd d k 2 := (dNd_n (by omega)).trans (dNd_n (by omega))
  have v3 : sNd (dNd (dNd d k 0 lp) k 1 lq) k 3 = sNd d k 3 := (dNd_n (by omega)).trans (dNd_n (by omega))
  have v4 : sNd (dNd (dNd d k 0 lp) k 1 lq) k 4 = sNd d k 4 := (dNd_n (by omega)).trans (dNd_n (by omega))
  refine vx_ret ?_
  refine W.widen (k := 40) (n := 200) (Nat.le_of_ble_eq_true rfl) (Nat.le_of_ble_eq_true rfl) ?_
  exact W.vret hx hb hr (fun t9 ht9 hW9 => ⟨⟨w_5, rfl, ⟨k, hk, ek, ht, ⟨⟨k, hk, ek, ht, hk0⟩, h2, h3⟩, pub_fld hp' hno hk ht rfl rfl (fun j i hj => ⟨rfl, (dNd_n (fun e => hj e.1)).trans (dNd_n (fun e => hj e.1))⟩) (by rw [ew_5, ew_4, hp_set_set]; unfold nC; rw [v0, v1, v2, v3, v4]; rfl)⟩, eWo ht9 hI⟩, hS.F ht9⟩) hS.2.2 d_Ea_lengths_29
set_option maxHeartbeats 4000000 in
set_option maxRecDepth 100000 in
theorem m_Ea_place (l : Launch) (hlt : l.stackTraces = false) (G : EG) (S0 : Nat) (w : hp_M) (ms : MS) (d : DS) (hp' : ePic G ms d w) (hno : nOk ms d) (h00 : sTh d 0 = true) (n : Int32) (x y : UInt64) (hfx : FP.Core.DFin x) (hfy : FP.Core.DFin y) : vx_Met l y_Ea_place w_Ea_place (rl 22 40 200) (eP G S0 w [.ref (mEo ms), .int n, .double x, .double y]) (va_Qv (fun z => ∃ k, k < 14 ∧ n = nI k ∧ sTh d k = true ∧ ((isN d n ∧ n ≠ 0) ∧ inP x ∧ inP y) ∧ pubR G ms d w (dNd (dNd d k 2 x) k 3 y) z) (eW G S0) (hp_A S0)) (eX G S0 (pIA w (¬ ((isN d n ∧ n ≠ 0) ∧ inP x ∧ inP y)))) 40 200 (hp_A S0) := by
  refine vx_ofW (cc := b_Ea_place) (maxL := 7) (ret := none) (by decide) rfl ?_
  intro p e s m args below meth c s₁ B hml hnx hv
  obtain ⟨rfl, hE, hI, hz⟩ := hv
  have hx := B.exec
  have hb := B.bytes
  have hr := B.returns
  have hts := atoms_spec (ws := w_Ea_place) B.pre
  have hg : ∀ w ∈ gw, w.before _ s = true := fun w h => hts w (List.mem_cons_of_mem _ h)
  have hown : s.vm.findClass "SceneEasel" = some m.cls := findClass_of_methodNamed B.named
  have hlocks := B.notSynchronized
  have hK := hE.K
  have hS : va_S (hp_A S0) s.heap s.heap [] := va_S.rf
  have hl := lv_entry ([.ref (mEo ms), .int n, .double x, .double y]) (n := 7) (Nat.le_of_ble_eq_true rfl)
  rw [lg_entry_eq]
  generalize (lg_sl ([.ref (mEo ms), .int n, .double x, .double y]) ++ List.replicate (7 - (lg_sl ([.ref (mEo ms), .int n, .double x, .double y])).length) Slot.unset).toArray = ls at hl ⊢
  have hl : lv_has ls 7 [(0, .ref (mEo ms)), (1, .int n), (2, .double x), (4, .double y)] := hl
  have hob := hp'.1
  refine lv_aload_n hx hb d_Ea_place_0 rfl (lv_at hl 0 rfl) ?_
  refine lv_iload_n hx hb d_Ea_place_1 rfl (lv_at hl 1 rfl) ?_
  refine xc_o (vx_runV (As := [.int n]) (rest := []) ⟨hx, hb, hml, hown, hts⟩ (m_Ea_requireInner l hlt G S0 w ms d hp' hno h00 n) (cwV 1 hts (gw_V k_487 k_489 k_15 k_60 k_490) rfl rfl rfl (by decide +kernel) ⟨Nat.le_of_ble_eq_true rfl, Nat.le_of_ble_eq_true rfl⟩) (eB.preV hE hI hS hz rfl hob) rfl rfl hl.1 rfl (lv_room (Nat.le_of_ble_eq_true rfl)) d_Ea_place_2 ⟨Nat.le_of_ble_eq_true rfl, Nat.le_of_ble_eq_true rfl⟩) hS (fun E9 ce9 q9 u9 H9 locs9 hpx9 hI9 hsz9 hS9 g1 g2 g3 => xc_out hnx hlocks g1 g2 g3 (⟨hpx9.1, hpx9.2.1, fun h => hpx9.2.2 h.1⟩) hI9 hS9 (Nat.le_of_ble_eq_true rfl) (Nat.le_of_ble_eq_true rfl)) (fun nd w_1 H locs ew_1 hI hsz hS => ?_)
  obtain ⟨ew_1, h1⟩ := ew_1
  have ew_1 := ew_1.symm
  subst ew_1
  obtain ⟨k, hk, ek, ht, hk0, end_⟩ := h1
  subst end_
  have hn := hp'.node hk ht
  refine lv_astore (lv' := [(6, .ref (mAd ms k 0)), (0, .ref (mEo ms)), (1, .int n), (2, .double x), (4, .double y)]) hx hb d_Ea_place_5 hl (by decide) rfl (fun ls hl => ?_)
  refine lv_dload_n hx hb d_Ea_place_7 rfl (lv_at hl 3 rfl) ?_
  refine xc_v (vx_runS (As := [.double x]) (rest := []) ⟨hx, hb, hml, hown, hts⟩ (m_Ea_requirePlace l hlt G S0 w x hfx) (cwS 1 hts (gw_S k_492 k_493 k_60 k_494) rfl rfl rfl (by decide +kernel) ⟨Nat.le_of_ble_eq_true rfl, Nat.le_of_ble_eq_true rfl⟩) (eB.preS hE hI hS hz) rfl rfl hl.1 rfl (lv_room (Nat.le_of_ble_eq_true rfl)) d_Ea_place_8 ⟨Nat.le_of_ble_eq_true rfl, Nat.le_of_ble_eq_true rfl⟩) hS (fun E9 ce9 q9 u9 H9 locs9 hpx9 hI9 hsz9 hS9 g1 g2 g3 => xc_out hnx hlocks g1 g2 g3 (⟨hpx9.1, hpx9.2.1, fun h => hpx9.2.2 h.2.1⟩) hI9 hS9 (Nat.le_of_ble_eq_true rfl) (Nat.le_of_ble_eq_true rfl)) (fun w_2 H locs ew_2 hI hsz hS => ?_)
  obtain ⟨ew_2, h2⟩ := ew_2
  have ew_2 := ew_2.symm
  subst ew_2
  refine lv_dload hx hb d_Ea_place_11 (lv_at hl 4 rfl) ?_
  refine xc_v (vx_runS (As := [.double y]) (rest := []) ⟨hx, hb, hml, hown, hts⟩ (m_Ea_requirePlace l hlt G S0 w y hfy) (cwS 1 hts (gw_S k_492 k_493 k_60 k_494) rfl rfl rfl (by decide +kernel) ⟨Nat.le_of_ble_eq_true rfl, Nat.le_of_ble_eq_true rfl⟩) (eB.preS hE hI hS hz) rfl rfl hl.1 rfl (lv_room (Nat.le_of_ble_eq_true rfl)) d_Ea_place_13 ⟨Nat.le_of_ble_eq_true rfl, Nat.le_of_ble_eq_true rfl⟩) hS (fun E9 ce9 q9 u9 H9 locs9 hpx9 hI9 hsz9 hS9 g1 g2 g3 => xc_out hnx hlocks g1 g2 g3 (⟨hpx9.1, hpx9.2.1, fun h => hpx9.2.2 h.2.2⟩) hI9 hS9 (Nat.le_of_ble_eq_true rfl) (Nat.le_of_ble_eq_true rfl)) (fun w_3 H locs ew_3 hI hsz hS => ?_)
  obtain ⟨ew_3, h3⟩ := ew_3
  have ew_3 := ew_3.symm
  subst ew_3
  refine lv_aload hx hb d_Ea_place_16 (lv_at hl 0 rfl) ?_
  refine lv_dload_n hx hb d_Ea_place_18 rfl (lv_at hl 3 rfl) ?_
  refine hp_putN (ci := 1) (v := .double x) (ty := .double) (C := R_No) (T := F_No) (N := 20) hx hb hg i_No t_No t_No_ok n_No hown hK hI hS hn rfl 10 (by decide) (hE.N q_185) (fun _ h9 => h9) rfl (by decide +kernel) rfl rfl (Nat.le_of_ble_eq_true rfl) d_Ea_place_19 (fun H locs hI hS hsz => ?_)
  obtain ⟨w_4, ew_4⟩ : ∃ z9, z9 = hp_set w (mAd ms k 0) (.inr (1, [.int (nI k), .int (sNi d k 0), .int (sNi d k 1), .ref (mAd ms k 1), .ref (mAd ms k 2), .ref (mAd ms k 3), va_rf (pAd ms d k), .int (sNi d k 2), .double (sNd d k 0), .double (sNd d k 1), .double x, .double (sNd d k 3), .int (sNi d k 3), .int (sNi d k 4), .int (sNi d k 5), .double (sNd d k 4), .double (mNx ms k 0), .double (mNx ms k 1), .int (mNi ms k 0), .int (mNi ms k 1)])) := ⟨_, rfl⟩
  have hI : eI G S0 w_4 H := by rw [ew_4]; exact hI
  have hob : w_4 (mEo ms) = some (.inr (3, [.ref (mAd ms 0 0), .ref (mNa ms), .ref (mCa ms), .int (sPt d)])) := by rw [ew_4, hp_set_ne (hp_ne_c (by decide) hob hn)]; exact hob
  have hn : w_4 (mAd ms k 0) = some (.inr (1, [.int (nI k), .int (sNi d k 0), .int (sNi d k 1), .ref (mAd ms k 1), .ref (mAd ms k 2), .ref (mAd ms k 3), va_rf (pAd ms d k), .int (sNi d k 2), .double (sNd d k 0), .double (sNd d k 1), .double x, .double (sNd d k 3), .int (sNi d k 3), .int (sNi d k 4), .int (sNi d k 5), .double (sNd d k 4), .double (mNx ms k 0), .double (mNx ms k 1), .int (mNi ms k 0), .int (mNi ms k 1)])) := by rw [ew_4]; exact hp_set_eq _ _ _
  refine lv_aload hx hb d_Ea_place_22 (lv_at hl 0 rfl) ?_
  refine lv_dload hx hb d_Ea_place_24 (lv_at hl 4 rfl) ?_
  refine hp_putN (ci := 1) (v := .double y) (ty := .double) (C := R_No) (T := F_No) (N := 20) hx hb hg i_No t_No t_No_ok n_No hown hK hI hS hn rfl 11 (by decide) (hE.N q_187) (fun _ h9 => h9) rfl (by decide +kernel) rfl rfl (Nat.le_of_ble_eq_true rfl) d_Ea_place_26 (fun H locs hI hS hsz => ?_)
  obtain ⟨w_5, ew_5⟩ : ∃ z9, z9 = hp_set w_4 (mAd ms k 0) (.inr (1, [.int (nI k), .int (sNi d k 0), .int (sNi d k 1), .ref (mAd ms k 1), .ref (mAd ms k 2), .ref (mAd ms k 3), va_rf (pAd ms d k), .int (sNi d k 2), .double (sNd d k 0), .double (sNd d k 1), .double x, .double y, .int (sNi d k 3), .int (sNi d k 4), .int (sNi d k 5), .double (sNd d k 4), .double (mNx ms k 0), .double (mNx ms k 1), .int (mNi ms k 0), .int (mNi ms k 1)])) := ⟨_, rfl⟩
  have hI : eI G S0 w_5 H := by rw [ew_5]; exact hI
  have hob : w_5 (mEo ms) = some (.inr (3, [.ref (mAd ms 0 0), .ref (mNa ms), .ref (mCa ms), .int (sPt d)])) := by rw [ew_5, hp_set_ne (hp_ne_c (by decide) hob hn)]; exact hob
  have hn : w_5 (mAd ms k 0) = some (.inr (1, [.int (nI k), .int (sNi d k 0), .int (sNi d k 1), .ref (mAd ms k 1), .ref (mAd ms k 2), .ref (mAd ms k 3), va_rf (pAd ms d k), .int (sNi d k 2), .double (sNd d k 0), .double (sNd d k 1), .double x, .double y, .int (sNi d k 3), .int (sNi d k 4), .int (sNi d k 5), .double (sNd d k 4), .double (mNx ms k 0), .double (mNx ms k 1), .int (mNi ms k 0), .int (mNi ms k 1)])) := by rw [ew_5]; exact hp_set_eq _ _ _
  have v0 : sNd (dNd (dNd d k 2 x) k 3 y) k 0 = sNd d k 0 := (dNd_n (by omega)).trans (dNd_n (by omega))
  have v1 : sNd (dNd (dNd d k 2 x) k 3 y) k 1 = sNd d k 1 := (dNd_n (by omega)).trans (dNd_n (by omega))
  have v2 : sNd (dNd (dNd d k 2 x) k 3 y) k 2 = x := (dNd_n (by omega)).trans (dNd_y _ _ _ _)
  have v3 : sNd (dNd (dNd d k 2 x) k 3 y) k 3 = y := dNd_y _ _ _ _
  have v4 : sNd (dNd (dNd d k 2 x) k 3 y) k 4 = sNd d k 4 := (dNd_n (by omega)).trans (dNd_n (by omega))
  refine vx_ret ?_
  refine W.widen (k := 40) (n := 200) (Nat.le_of_ble_eq_true rfl) (Nat.le_of_ble_eq_true rfl) ?_
  exact W.vret hx hb hr (fun t9 ht9 hW9 => ⟨⟨w_5, rfl, ⟨k, hk, ek, ht, ⟨⟨⟨k, hk, ek, ht⟩, fun e => hk0 ((nI_eq (a := k) (b := 0) (by omega) (by decide)).mp (ek.symm.trans e))⟩, h2, h3⟩, pub_fld hp' hno hk ht rfl rfl (fun j i hj => ⟨rfl, (dNd_n (fun e => hj e.1)).trans (dNd_n (fun e => hj e.1))⟩) (by rw [ew_5, ew_4, hp_set_set]; unfold nC; rw [v0, v1, v2, v3, v4]; rfl)⟩, eWo ht9 hI⟩, hS.F ht9⟩) hS.2.2 d_Ea_place_29
set_option maxHeartbeats 4000000 in
set_option maxRecDepth 100000 in
theorem m_Ea_lay (l : Launch) (hlt : l.stackTraces = false) (G : EG) (S0 : Nat) (w : hp_M) (ms : MS) (d : DS) (hp' : ePic G ms d w) (hno : nOk ms d) (h00 : sTh d 0 = true) (n : Int32) (t st : Int32) : vx_Met l y_Ea_lay w_Ea_lay (rl 22 40 200) (eP G S0 w [.ref (mEo ms), .int n, .int t, .int st]) (va_Qv (fun z => ∃ k, k < 14 ∧ n = nI k ∧ sTh d k = true ∧ ((isN d n ∧ n ≠ 0) ∧ (0 ≤ t ∧ t ≤ 3) ∧ (-2 ≤ st ∧ st ≤ 2)) ∧ pubR G ms d w (dNi (dNi d k 3 t) k 4 st) z) (eW G S0) (hp_A S0)) (eX G S0 (pIA w (¬ ((isN d n ∧ n ≠ 0) ∧ (0 ≤ t ∧ t ≤ 3) ∧ (-2 ≤ st ∧ st ≤ 2))))) 40 200 (hp_A S0) := by
  refine vx_ofW (cc := b_Ea_lay) (maxL := 5) (ret := none) (by decide) rfl ?_
  intro p e s m args below meth c s₁ B hml hnx hv
  obtain ⟨rfl, hE, hI, hz⟩ := hv
  have hx := B.exec
  have hb := B.bytes
  have hr := B.returns
  have hts := atoms_spec (ws := w_Ea_lay) B.pre
  have hg : ∀ w ∈ gw, w.before _ s = true := fun w h => hts w (List.mem_cons_of_mem _ h)
  have hown : s.vm.findClass "SceneEasel" = some m.cls := findClass_of_methodNamed B.named
  have hlocks := B.notSynchronized
  have hK := hE.K
  have hS : va_S (hp_A S0) s.heap s.heap [] := va_S.rf
  have hl := lv_entry ([.ref (mEo ms), .int n, .int t, .int st]) (n := 5) (Nat.le_of_ble_eq_true rfl)
  rw [lg_entry_eq]
  generalize (lg_sl ([.ref (mEo ms), .int n, .int t, .int st]) ++ List.replicate (5 - (lg_sl ([.ref (mEo ms), .int n, .int t, .int st])).length) Slot.unset).toArray = ls at hl ⊢
  have hl : lv_has ls 5 [(0, .ref (mEo ms)), (1, .int n), (2, .int t), (3, .int st)] := hl
  have hob := hp'.1
  refine lv_aload_n hx hb d_Ea_lay_0 rfl (lv_at hl 0 rfl) ?_
  refine lv_iload_n hx hb d_Ea_lay_1 rfl (lv_at hl 1 rfl) ?_
  refine xc_o (vx_runV (As := [.int n]) (rest := []) ⟨hx, hb, hml, hown, hts⟩ (m_Ea_requireInner l hlt G S0 w ms d hp' hno h00 n) (cwV 1 hts (gw_V k_487 k_489 k_15 k_60 k_490) rfl rfl rfl (by decide +kernel) ⟨Nat.le_of_ble_eq_true rfl, Nat.le_of_ble_eq_true rfl⟩) (eB.preV hE hI hS hz rfl hob) rfl rfl hl.1 rfl (lv_room (Nat.le_of_ble_eq_true rfl)) d_Ea_lay_2 ⟨Nat.le_of_ble_eq_true rfl, Nat.le_of_ble_eq_true rfl⟩) hS (fun E9 ce9 q9 u9 H9 locs9 hpx9 hI9 hsz9 hS9 g1 g2 g3 => xc_out hnx hlocks g1 g2 g3 (⟨hpx9.1, hpx9.2.1, fun h => hpx9.2.2 h.1⟩) hI9 hS9 (Nat.le_of_ble_eq_true rfl) (Nat.le_of_ble_eq_true rfl)) (fun nd w_1 H locs ew_1 hI hsz hS => ?_)
  obtain ⟨ew_1, h1⟩ := ew_1
  have ew_1 := ew_1.symm
  subst ew_1
  obtain ⟨k, hk, ek, ht, hk0, end_⟩ := h1
  subst end_
  have hn := hp'.node hk ht
  refine lv_astore (lv' := [(4, .ref (mAd ms k 0)), (0, .ref (mEo ms)), (1, .int n), (2, .int t), (3, .int st)]) hx hb d_Ea_lay_5 hl (by decide) rfl (fun ls hl => ?_)
  refine lv_iload_n hx hb d_Ea_lay_7 rfl (lv_at hl 3 rfl) ?_
  refine lv_iconst (v := 0) hx hb d_Ea_lay_8 (by decide) ?_
  refine lv_iconst (v := 3) hx hb d_Ea_lay_9 (by decide) ?_
  refine xc_v (vx_runS (As := [.int t, .int 0, .int 3]) (rest := []) ⟨hx, hb, hml, hown, hts⟩ (m_Ea_requireWithin l hlt G S0 w t 0 3) (cwS 3 hts (gw_S k_373 k_374 k_60 k_375) rfl rfl rfl (by decide +kernel) ⟨Nat.le_of_ble_eq_true rfl, Nat.le_of_ble_eq_true rfl⟩) (eB.preS hE hI hS hz) rfl rfl hl.1 rfl (lv_room (Nat.le_of_ble_eq_true rfl)) d_Ea_lay_10 ⟨Nat.le_of_ble_eq_true rfl, Nat.le_of_ble_eq_true rfl⟩) hS (fun E9 ce9 q9 u9 H9 locs9 hpx9 hI9 hsz9 hS9 g1 g2 g3 => xc_out hnx hlocks g1 g2 g3 (⟨hpx9.1, hpx9.2.1, fun h => hpx9.2.2 h.2.1⟩) hI9 hS9 (Nat.le_of_ble_eq_true rfl) (Nat.le_of_ble_eq_true rfl)) (fun w_2 H locs ew_2 hI hsz hS => ?_)
  obtain ⟨ew_2, h2⟩ := ew_2
  have ew_2 := ew_2.symm
  subst ew_2
  refine lv_iload_n hx hb d_Ea_lay_13 rfl (lv_at hl 4 rfl) ?_
  refine lv_bipush (v := (-2)) hx hb d_Ea_lay_14 (by decide) ?_
  refine lv_iconst (v := 2) hx hb d_Ea_lay_16 (by decide) ?_
  refine xc_v (vx_runS (As := [.int st, .int (-2), .int 2]) (rest := []) ⟨hx, hb, hml, hown, hts⟩ (m_Ea_requireWithin l hlt G S0 w st (-2) 2) (cwS 3 hts (gw_S k_373 k_374 k_60 k_375) rfl rfl rfl (by decide +kernel) ⟨Nat.le_of_ble_eq_true rfl, Nat.le_of_ble_eq_true rfl⟩) (eB.preS hE hI hS hz) rfl rfl hl.1 rfl (lv_room (Nat.le_of_ble_eq_true rfl)) d_Ea_lay_17 ⟨Nat.le_of_ble_eq_true rfl, Nat.le_of_ble_eq_true rfl⟩) hS (fun E9 ce9 q9 u9 H9 locs9 hpx9 hI9 hsz9 hS9 g1 g2 g3 => xc_out hnx hlocks g1 g2 g3 (⟨hpx9.1, hpx9.2.1, fun h => hpx9.2.2 h.2.2⟩) hI9 hS9 (Nat.le_of_ble_eq_true rfl) (Nat.le_of_ble_eq_true rfl)) (fun w_3 H locs ew_3 hI hsz hS => ?_)
  obtain ⟨ew_3, h3⟩ := ew_3
  have ew_3 := ew_3.symm
  subst ew_3
  refine lv_aload hx hb d_Ea_lay_20 (lv_at hl 0 rfl) ?_
  refine lv_iload_n hx hb d_Ea_lay_22 rfl (lv_at hl 3 rfl) ?_
  refine hp_putN (ci := 1) (v := .int t) (ty := .int) (C := R_No) (T := F_No) (N := 20) hx hb hg i_No t_No t_No_ok n_No hown hK hI hS hn rfl 12 (by decide) (hE.N q_189) (fun _ h9 => h9) rfl (by decide +kernel) rfl rfl (Nat.le_of_ble_eq_true rfl) d_Ea_lay_23 (fun H locs hI hS hsz => ?_)
  obtain ⟨w_4, ew_4⟩ : ∃ z9, z9 = hp_set w (mAd ms k 0) (.inr (1, [.int (nI k), .int (sNi d k 0), .int (sNi d k 1), .ref (mAd ms k 1), .ref (mAd ms k 2), .ref (mAd ms k 3), va_rf (pAd ms d k), .int (sNi d k 2), .double (sNd d k 0), .double (sNd d k 1), .double (sNd d k 2), .double (sNd d k 3), .int t, .int (sNi d k 4), .int (sNi d k 5), .double (sNd d k 4), .double (mNx ms k 0), .double (mNx ms k 1), .int (mNi ms k 0), .int (mNi ms k 1)])) := ⟨_, rfl⟩
  have hI : eI G S0 w_4 H := by rw [ew_4]; exact hI
  have hob : w_4 (mEo ms) = some (.inr (3, [.ref (mAd ms 0 0), .ref (mNa ms), .ref (mCa ms), .int (sPt d)])) := by rw [ew_4, hp_set_ne (hp_ne_c (by decide) hob hn)]; exact hob
  have hn : w_4 (mAd ms k 0) = some (.inr (1, [.int (nI k), .int (sNi d k 0), .int (sNi d k 1), .ref (mAd ms k 1), .ref (mAd ms k 2), .ref (mAd ms k 3), va_rf (pAd ms d k), .int (sNi d k 2), .double (sNd d k 0), .double (sNd d k 1), .double (sNd d k 2), .double (sNd d k 3), .int t, .int (sNi d k 4), .int (sNi d k 5), .double (sNd d k 4), .double (mNx ms k 0), .double (mNx ms k 1), .int (mNi ms k 0), .int (mNi ms k 1)])) := by rw [ew_4]; exact hp_set_eq _ _ _
  refine lv_aload hx hb d_Ea_lay_26 (lv_at hl 0 rfl) ?_
  refine lv_iload_n hx hb d_Ea_lay_28 rfl (lv_at hl 4 rfl) ?_
  refine hp_putN (ci := 1) (v := .int st) (ty := .int) (C := R_No) (T := F_No) (N := 20) hx hb hg i_No t_No t_No_ok n_No hown hK hI hS hn rfl 13 (by decide) (hE.N q_191) (fun _ h9 => h9) rfl (by decide +kernel) rfl rfl (Nat.le_of_ble_eq_true rfl) d_Ea_lay_29 (fun H locs hI hS hsz => ?_)
  obtain ⟨w_5, ew_5⟩ : ∃ z9, z9 = hp_set w_4 (mAd ms k 0) (.inr (1, [.int (nI k), .int (sNi d k 0), .int (sNi d k 1), .ref (mAd ms k 1), .ref (mAd ms k 2), .ref (mAd ms k 3), va_rf (pAd ms d k), .int (sNi d k 2), .double (sNd d k 0), .double (sNd d k 1), .double (sNd d k 2), .double (sNd d k 3), .int t, .int st, .int (sNi d k 5), .double (sNd d k 4), .double (mNx ms k 0), .double (mNx ms k 1), .int (mNi ms k 0), .int (mNi ms k 1)])) := ⟨_, rfl⟩
  have hI : eI G S0 w_5 H := by rw [ew_5]; exact hI
  have hob : w_5 (mEo ms) = some (.inr (3, [.ref (mAd ms 0 0), .ref (mNa ms), .ref (mCa ms), .int (sPt d)])) := by rw [ew_5, hp_set_ne (hp_ne_c (by decide) hob hn)]; exact hob
  have hn : w_5 (mAd ms k 0) = some (.inr (1, [.int (nI k), .int (sNi d k 0), .int (sNi d k 1), .ref (mAd ms k 1), .ref (mAd ms k 2), .ref (mAd ms k 3), va_rf (pAd ms d k), .int (sNi d k 2), .double (sNd d k 0), .double (sNd d k 1), .double (sNd d k 2), .double (sNd d k 3), .int t, .int st, .int (sNi d k 5), .double (sNd d k 4), .double (mNx ms k 0), .double (mNx ms k 1), .int (mNi ms k 0), .int (mNi ms k 1)])) := by rw [ew_5]; exact hp_set_eq _ _ _
  have v0 : sNi (dNi (dNi d k 3 t) k 4 st) k 0 = sNi d k 0 := (dNi_n (by omega)).trans (dNi_n (by omega))
  have v1 : sNi (dNi (dNi d k 3 t) k 4 st) k 1 = sNi d k 1 := (dNi_n (by omega)).trans (dNi_n (by omega))
  have v2 : sNi (dNi (dNi d k 3 t) k 4 st) k 2 = sNi d k 2 := (dNi_n (by omega)).trans (dNi_n (by omega))
  have v3 : sNi (dNi (dNi d k 3 t) k 4 st) k 3 = t := (dNi_n (by omega)).trans (dNi_y _ _ _ _)
  have v4 : sNi (dNi (dNi d k 3 t) k 4 st) k 4 = st := dNi_y _ _ _ _
  have v5 : sNi (dNi (dNi d k 3 t) k 4 st) k 5 = sNi d k 5 := (dNi_n (by omega)).trans (dNi_n (by omega))
  refine vx_ret ?_
  refine W.widen (k := 40) (n := 200) (Nat.le_of_ble_eq_true rfl) (Nat.le_of_ble_eq_true rfl) ?_
  exact W.vret hx hb hr (fun t9 ht9 hW9 => ⟨⟨w_5, rfl, ⟨k, hk, ek, ht, ⟨⟨⟨k, hk, ek, ht⟩, fun e => hk0 ((nI_eq (a := k) (b := 0) (by omega) (by decide)).mp (ek.symm.trans e))⟩, h2, h3⟩, pub_fld hp' hno hk ht rfl rfl (fun j i hj => ⟨(dNi_n (fun e => hj e.1)).trans (dNi_n (fun e => hj e.1)), rfl⟩) (by rw [ew_5, ew_4, hp_set_set]; unfold nC; rw [v0, v1, v2, v3, v4, v5]; rfl)⟩, eWo ht9 hI⟩, hS.F ht9⟩) hS.2.2 d_Ea_lay_32
set_option maxHeartbeats 4000000 in
set_option maxRecDepth 100000 in
theorem m_Ea_mode (l : Launch) (hlt : l.stackTraces = false) (G : EG) (S0 : Nat) (w : hp_M) (ms : MS) (d : DS) (hp' : ePic G ms d w) (hno : nOk ms d) (h00 : sTh d 0 = true) (n : Int32) (mo : Int32) (st : UInt64) : vx_Met l y_Ea_mode w_Ea_mode (rl 22 40 200) (eP G S0 w [.ref (mEo ms), .int n, .int mo, .double st]) (va_Qv (fun z => ∃ k, k < 14 ∧ n = nI k ∧ sTh d k = true ∧ (isGroup d n ∧ (0 ≤ mo ∧ mo ≤ 2) ∧ (dge st FP.dconst1 ∧ dle st 4629700416936869888)) ∧ pubR G ms d w (dNd (dNi d k 5 mo) k 4 st) z) (eW G S0) (hp_A S0)) (eX G S0 (pIA w (¬ (isGroup d n ∧ (0 ≤ mo ∧ mo ≤ 2) ∧ (dge st FP.dconst1 ∧ dle st 4629700416936869888))))) 40 200 (hp_A S0) := by
  refine vx_ofW (cc := b_Ea_mode) (maxL := 6) (ret := none) (by decide) rfl ?_
  intro p e s m args below meth c s₁ B hml hnx hv
  obtain ⟨rfl, hE, hI, hz⟩ := hv
  have hx := B.exec
  have hb := B.bytes
  have hr := B.returns
  have hts := atoms_spec (ws := w_Ea_mode) B.pre
  have hg : ∀ w ∈ gw, w.before _ s = true := fun w h => hts w (List.mem_cons_of_mem _ h)
  have hown : s.vm.findClass "SceneEasel" = some m.cls := findClass_of_methodNamed B.named
  have hlocks := B.notSynchronized
  have hK := hE.K
  have hS : va_S (hp_A S0) s.heap s.heap [] := va_S.rf
  have hl := lv_entry ([.ref (mEo ms), .int n, .int mo, .double st]) (n := 6) (Nat.le_of_ble_eq_true rfl)
  rw [lg_entry_eq]
  generalize (lg_sl ([.ref (mEo ms), .int n, .int mo, .double st]) ++ List.replicate (6 - (lg_sl ([.ref (mEo ms), .int n, .int mo, .double st])).length) Slot.unset).toArray = ls at hl ⊢
  have hl : lv_has ls 6 [(0, .ref (mEo ms)), (1, .int n), (2, .int mo), (3, .double st)] := hl
  have hob := hp'.1
  refine lv_aload_n hx hb d_Ea_mode_0 rfl (lv_at hl 0 rfl) ?_
  refine lv_iload_n hx hb d_Ea_mode_1 rfl (lv_at hl 1 rfl) ?_
  refine xc_o (vx_runV (As := [.int n]) (rest := []) ⟨hx, hb, hml, hown, hts⟩ (m_Ea_requireGroup l hlt G S0 w ms d hp' hno n) (cwV 1 hts (gw_V k_296 k_298 k_6 k_60 k_299) rfl rfl rfl (by decide +kernel) ⟨Nat.le_of_ble_eq_true rfl, Nat.le_of_ble_eq_true rfl⟩) (eB.preV hE hI hS hz rfl hob) rfl rfl hl.1 rfl (lv_room (Nat.le_of_ble_eq_true rfl)) d_Ea_mode_2 ⟨Nat.le_of_ble_eq_true rfl, Nat.le_of_ble_eq_true rfl⟩) hS (fun E9 ce9 q9 u9 H9 locs9 hpx9 hI9 hsz9 hS9 g1 g2 g3 => xc_out hnx hlocks g1 g2 g3 (⟨hpx9.1, hpx9.2.1, fun h => hpx9.2.2 h.1⟩) hI9 hS9 (Nat.le_of_ble_eq_true rfl) (Nat.le_of_ble_eq_true rfl)) (fun nd w_1 H locs ew_1 hI hsz hS => ?_)
  obtain ⟨ew_1, h1⟩ := ew_1
  have ew_1 := ew_1.symm
  subst ew_1
  obtain ⟨k, hk, ek, ht, hk0, end_⟩ := h1
  subst end_
  have hn := hp'.node hk ht
  refine lv_astore (lv' := [(5, .ref (mAd ms k 0)), (0, .ref (mEo ms)), (1, .int n), (2, .int mo), (3, .double st)]) hx hb d_Ea_mode_5 hl (by decide) rfl (fun ls hl => ?_)
  refine lv_iload_n hx hb d_Ea_mode_7 rfl (lv_at hl 3 rfl) ?_
  refine lv_iconst (v := 0) hx hb d_Ea_mode_8 (by decide) ?_
  refine lv_iconst (v := 2) hx hb d_Ea_mode_9 (by decide) ?_
  refine xc_v (vx_runS (As := [.int mo, .int 0, .int 2]) (rest := []) ⟨hx, hb, hml, hown, hts⟩ (m_Ea_requireWithin l hlt G S0 w mo 0 2) (cwS 3 hts (gw_S k_373 k_374 k_60 k_375) rfl rfl rfl (by decide +kernel) ⟨Nat.le_of_ble_eq_true rfl, Nat.le_of_ble_eq_true rfl⟩) (eB.preS hE hI hS hz) rfl rfl hl.1 rfl (lv_room (Nat.le_of_ble_eq_true rfl)) d_Ea_mode_10 ⟨Nat.le_of_ble_eq_true rfl, Nat.le_of_ble_eq_true rfl⟩) hS (fun E9 ce9 q9 u9 H9 locs9 hpx9 hI9 hsz9 hS9 g1 g2 g3 => xc_out hnx hlocks g1 g2 g3 (⟨hpx9.1, hpx9.2.1, fun h => hpx9.2.2 h.2.1⟩) hI9 hS9 (Nat.le_of_ble_eq_true rfl) (Nat.le_of_ble_eq_true rfl)) (fun w_2 H locs ew_2 hI hsz hS => ?_)
  obtain ⟨ew_2, h2⟩ := ew_2
  have ew_2 := ew_2.symm
  subst ew_2
  refine lv_dload_n hx hb d_Ea_mode_13 rfl (lv_at hl 4 rfl) ?_
  refine lv_dconst1 hx hb d_Ea_mode_14 ?_
  refine lv_ldc2d (v := 4629700416936869888) hx hb hown (hg _ k_510) d_Ea_mode_15 ?_
  refine xc_v (vx_runS (As := [.double st, .double FP.dconst1, .double 4629700416936869888]) (rest := []) ⟨hx, hb, hml, hown, hts⟩ (m_Ea_requireBetween l hlt G S0 w st FP.dconst1 4629700416936869888) (cwS 3 hts (gw_S k_473 k_474 k_60 k_475) rfl rfl rfl (by decide +kernel) ⟨Nat.le_of_ble_eq_true rfl, Nat.le_of_ble_eq_true rfl⟩) (eB.preS hE hI hS hz) rfl rfl hl.1 rfl (lv_room (Nat.le_of_ble_eq_true rfl)) d_Ea_mode_18 ⟨Nat.le_of_ble_eq_true rfl, Nat.le_of_ble_eq_true rfl⟩) hS (fun E9 ce9 q9 u9 H9 locs9 hpx9 hI9 hsz9 hS9 g1 g2 g3 => xc_out hnx hlocks g1 g2 g3 (⟨hpx9.1, hpx9.2.1, fun h => hpx9.2.2 h.2.2⟩) hI9 hS9 (Nat.le_of_ble_eq_true rfl) (Nat.le_of_ble_eq_true rfl)) (fun w_3 H locs ew_3 hI hsz hS => ?_)
  obtain ⟨ew_3, h3⟩ := ew_3
  have ew_3 := ew_3.symm
  subst ew_3
  refine lv_aload hx hb d_Ea_mode_21 (lv_at hl 0 rfl) ?_
  refine lv_iload_n hx hb d_Ea_mode_23 rfl (lv_at hl 3 rfl) ?_
  refine hp_putN (ci := 1) (v := .int mo) (ty := .int) (C := R_No) (T := F_No) (N := 20) hx hb hg i_No t_No t_No_ok n_No hown hK hI hS hn rfl 14 (by decide) (hE.N q_193) (fun _ h9 => h9) rfl (by decide +kernel) rfl rfl (Nat.le_of_ble_eq_true rfl) d_Ea_mode_24 (fun H locs hI hS hsz => ?_)
  obtain ⟨w_4, ew_4⟩ : ∃ z9, z9 = hp_set w (mAd ms k 0) (.inr (1, [.int (nI k), .int (sNi d k 0), .int (sNi d k 1), .ref (mAd ms k 1), .ref (mAd ms k 2), .ref (mAd ms k 3), va_rf (pAd ms d k), .int (sNi d k 2), .double (sNd d k 0), .double (sNd d k 1), .double (sNd d k 2), .double (sNd d k 3), .int (sNi d k 3), .int (sNi d k 4), .int mo, .double (sNd d k 4), .double (mNx ms k 0), .double (mNx ms k 1), .int (mNi ms k 0), .int (mNi ms k 1)])) := ⟨_, rfl⟩
  have hI : eI G S0 w_4 H := by rw [ew_4]; exact hI
  have hob : w_4 (mEo ms) = some (.inr (3, [.ref (mAd ms 0 0), .ref (mNa ms), .ref (mCa ms), .int (sPt d)])) := by rw [ew_4, hp_set_ne (hp_ne_c (by decide) hob hn)]; exact hob
  have hn : w_4 (mAd ms k 0) = some (.inr (1, [.int (nI k), .int (sNi d k 0), .int (sNi d k 1), .ref (mAd ms k 1), .ref (mAd ms k 2), .ref (mAd ms k 3), va_rf (pAd ms d k), .int (sNi d k 2), .double (sNd d k 0), .double (sNd d k 1), .double (sNd d k 2), .double (sNd d k 3), .int (sNi d k 3), .int (sNi d k 4), .int mo, .double (sNd d k 4), .double (mNx ms k 0), .double (mNx ms k 1), .int (mNi ms k 0), .int (mNi ms k 1)])) := by rw [ew_4]; exact hp_set_eq _ _ _
  refine lv_aload hx hb d_Ea_mode_27 (lv_at hl 0 rfl) ?_
  refine lv_dload_n hx hb d_Ea_mode_29 rfl (lv_at hl 4 rfl) ?_
  refine hp_putN (ci := 1) (v := .double st) (ty := .double) (C := R_No) (T := F_No) (N := 20) hx hb hg i_No t_No t_No_ok n_No hown hK hI hS hn rfl 15 (by decide) (hE.N q_196) (fun _ h9 => h9) rfl (by decide +kernel) rfl rfl (Nat.le_of_ble_eq_true rfl) d_Ea_mode_30 (fun H locs hI hS hsz => ?_)
  obtain ⟨w_5, ew_5⟩ : ∃ z9, z9 = hp_set w_4 (mAd ms k 0) (.inr (1, [.int (nI k), .int (sNi d k 0), .int (sNi d k 1), .ref (mAd ms k 1), .ref (mAd ms k 2), .ref (mAd ms k 3), va_rf (pAd ms d k), .int (sNi d k 2), .double (sNd d k 0), .double (sNd d k 1), .double (sNd d k 2), .double (sNd d k 3), .int (sNi d k 3), .int (sNi d k 4), .int mo, .double st, .double (mNx ms k 0), .double (mNx ms k 1), .int (mNi ms k 0), .int (mNi ms k 1)])) := ⟨_, rfl⟩
  have hI : eI G S0 w_5 H := by rw [ew_5]; exact hI
  have hob : w_5 (mEo ms) = some (.inr (3, [.ref (mAd ms 0 0), .ref (mNa ms), .ref (mCa ms), .int (sPt d)])) := by rw [ew_5, hp_set_ne (hp_ne_c (by decide) hob hn)]; exact hob
  have hn : w_5 (mAd ms k 0) = some (.inr (1, [.int (nI k), .int (sNi d k 0), .int (sNi d k 1), .ref (mAd ms k 1), .ref (mAd ms k 2), .ref (mAd ms k 3), va_rf (pAd ms d k), .int (sNi d k 2), .double (sNd d k 0), .double (sNd d k 1), .double (sNd d k 2), .double (sNd d k 3), .int (sNi d k 3), .int (sNi d k 4), .int mo, .double st, .double (mNx ms k 0), .double (mNx ms k 1), .int (mNi ms k 0), .int (mNi ms k 1)])) := by rw [ew_5]; exact hp_set_eq _ _ _
  have v0 : sNi (dNd (dNi d k 5 mo) k 4 st) k 0 = sNi d k 0 := dNi_n (by omega)
  have v1 : sNi (dNd (dNi d k 5 mo) k 4 st) k 1 = sNi d k 1 := dNi_n (by omega)
  have v2 : sNi (dNd (dNi d k 5 mo) k 4 st) k 2 = sNi d k 2 := dNi_n (by omega)
  have v3 : sNi (dNd (dNi d k 5 mo) k 4 st) k 3 = sNi d k 3 := dNi_n (by omega)
  have v4 : sNi (dNd (dNi d k 5 mo) k 4 st) k 4 = sNi d k 4 := dNi_n (by omega)
  have v5 : sNi (dNd (dNi d k 5 mo) k 4 st) k 5 = mo := dNi_y _ _ _ _
  have v6 : sNd (dNd (dNi d k 5 mo) k 4 st) k 0 = sNd d k 0 := dNd_n (by omega)
  have v7 : sNd (dNd (dNi d k 5 mo) k 4 st) k 1 = sNd d k 1 := dNd_n (by omega)
  have v8 : sNd (dNd (dNi d k 5 mo) k 4 st) k 2 = sNd d k 2 := dNd_n (by omega)
  have v9 : sNd (dNd (dNi d k 5 mo) k 4 st) k 3 = sNd d k 3 := dNd_n (by omega)
  have v10 : sNd (dNd (dNi d k 5 mo) k 4 st) k 4 = st := dNd_y _ _ _ _
  refine vx_ret ?_
  refine W.widen (k := 40) (n := 200) (Nat.le_of_ble_eq_true rfl) (Nat.le_of_ble_eq_true rfl) ?_
  exact W.vret hx hb hr (fun t9 ht9 hW9 => ⟨⟨w_5, rfl, ⟨k, hk, ek, ht, ⟨⟨k, hk, ek, ht, hk0⟩, h2, h3⟩, pub_fld hp' hno hk ht rfl rfl (fun j i hj => ⟨dNi_n (fun e => hj e.1), dNd_n (fun e => hj e.1)⟩) (by rw [ew_5, ew_4, hp_set_set]; unfold nC; rw [v0, v1, v2, v3, v4, v5, v6, v7, v8, v9, v10]; rfl)⟩, eWo ht9 hI⟩, hS.F ht9⟩) hS.2.2 d_Ea_mode_33
set_option maxHeartbeats 4000000 in
set_option maxRecDepth 100000 in
theorem m_Ea_hide (l : Launch) (hlt : l.stackTraces = false) (G : EG) (S0 : Nat) (w : hp_M) (ms : MS) (d : DS) (hp' : ePic G ms d w) (hno : nOk ms d) (h00 : sTh d 0 = true) (n : Int32) (on : Int32) (hon : on = 0 ∨ on = 1) : vx_Met l y_Ea_hide w_Ea_hide (rl 22 40 200) (eP G S0 w [.ref (mEo ms), .int n, .int on]) (va_Qv (fun z => ∃ k, k < 14 ∧ n = nI k ∧ sTh d k = true ∧ ((isN d n ∧ n ≠ 0)) ∧ pubR G ms d w (dNi d k 2 on) z) (eW G S0) (hp_A S0)) (eX G S0 (pIA w (¬ ((isN d n ∧ n ≠ 0))))) 40 200 (hp_A S0) := by
  refine vx_ofW (cc := b_Ea_hide) (maxL := 3) (ret := none) (by decide) rfl ?_
  intro p e s m args below meth c s₁ B hml hnx hv
  obtain ⟨rfl, hE, hI, hz⟩ := hv
  have hx := B.exec
  have hb := B.bytes
  have hr := B.returns
  have hts := atoms_spec (ws := w_Ea_hide) B.pre
  have hg : ∀ w ∈ gw, w.before _ s = true := fun w h => hts w (List.mem_cons_of_mem _ h)
  have hown : s.vm.findClass "SceneEasel" = some m.cls := findClass_of_methodNamed B.named
  have hlocks := B.notSynchronized
  have hK := hE.K
  have hS : va_S (hp_A S0) s.heap s.heap [] := va_S.rf
  have hl := lv_entry ([.ref (mEo ms), .int n, .int on]) (n := 3) (Nat.le_of_ble_eq_true rfl)
  rw [lg_entry_eq]
  generalize (lg_sl ([.ref (mEo ms), .int n, .int on]) ++ List.replicate (3 - (lg_sl ([.ref (mEo ms), .int n, .int on])).length) Slot.unset).toArray = ls at hl ⊢
  have hl : lv_has ls 3 [(0, .ref (mEo ms)), (1, .int n), (2, .int on)] := hl
  have hob := hp'.1
  refine lv_aload_n hx hb d_Ea_hide_0 rfl (lv_at hl 0 rfl) ?_
  refine lv_iload_n hx hb d_Ea_hide_1 rfl (lv_at hl 1 rfl) ?_
  refine xc_o (vx_runV (As := [.int n]) (rest := []) ⟨hx, hb, hml, hown, hts⟩ (m_Ea_requireInner l hlt G S0 w ms d hp' hno h00 n) (cwV 1 hts (gw_V k_487 k_489 k_15 k_60 k_490) rfl rfl rfl (by decide +kernel) ⟨Nat.le_of_ble_eq_true rfl, Nat.le_of_ble_eq_true rfl⟩) (eB.preV hE hI hS hz rfl hob) rfl rfl hl.1 rfl (lv_room (Nat.le_of_ble_eq_true rfl)) d_Ea_hide_2 ⟨Nat.le_of_ble_eq_true rfl, Nat.le_of_ble_eq_true rfl⟩) hS (fun E9 ce9 q9 u9 H9 locs9 hpx9 hI9 hsz9 hS9 g1 g2 g3 => xc_out hnx hlocks g1 g2 g3 (⟨hpx9.1, hpx9.2.1, hpx9.2.2⟩) hI9 hS9 (Nat.le_of_ble_eq_true rfl) (Nat.le_of_ble_eq_true rfl)) (fun nd w_1 H locs ew_1 hI hsz hS => ?_)
  obtain ⟨ew_1, h1⟩ := ew_1
  have ew_1 := ew_1.symm
  subst ew_1
  obtain ⟨k, hk, ek, ht, hk0, end_⟩ := h1
  subst end_
  have hn := hp'.node hk ht
  refine lv_iload_n hx hb d_Ea_hide_5 rfl (lv_at hl 2 rfl) ?_
  refine hp_putN (ci := 1) (v := .int on) (ty := .boolean) (C := R_No) (T := F_No) (N := 20) hx hb hg i_No t_No t_No_ok n_No hown hK hI hS hn rfl 7 (by decide) (hE.N q_179) (fun _ h9 => h9) rfl (by decide +kernel) (hon.elim (fun h9 => by subst h9; rfl) (fun h9 => by subst h9; rfl)) (hon.elim (fun h9 => by subst h9; rfl) (fun h9 => by subst h9; rfl)) (Nat.le_of_ble_eq_true rfl) d_Ea_hide_6 (fun H locs hI hS hsz => ?_)
  obtain ⟨w_2, ew_2⟩ : ∃ z9, z9 = hp_set w (mAd ms k 0) (.inr (1, [.int (nI k), .int (sNi d k 0), .int (sNi d k 1), .ref (mAd ms k 1), .ref (mAd ms k 2), .ref (mAd ms k 3), va_rf (pAd ms d k), .int on, .double (sNd d k 0), .double (sNd d k 1), .double (sNd d k 2), .double (sNd d k 3), .int (sNi d k 3), .int (sNi d k 4), .int (sNi d k 5), .double (sNd d k 4), .double (mNx ms k 0), .double (mNx ms k 1), .int (mNi ms k 0), .int (mNi ms k 1)])) := ⟨_, rfl⟩
  have hI : eI G S0 w_2 H := by rw [ew_2]; exact hI
  have hob : w_2 (mEo ms) = some (.inr (3, [.ref (mAd ms 0 0), .ref (mNa ms), .ref (mCa ms), .int (sPt d)])) := by rw [ew_2, hp_set_ne (hp_ne_c (by decide) hob hn)]; exact hob
  have hn : w_2 (mAd ms k 0) = some (.inr (1, [.int (nI k), .int (sNi d k 0), .int (sNi d k 1), .ref (mAd ms k 1), .ref (mAd ms k 2), .ref (mAd ms k 3), va_rf (pAd ms d k), .int on, .double (sNd d k 0), .double (sNd d k 1), .double (sNd d k 2), .double (sNd d k 3), .int (sNi d k 3), .int (sNi d k 4), .int (sNi d k 5), .double (sNd d k 4), .double (mNx ms k 0), .double (mNx ms k 1), .int (mNi ms k 0), .int (mNi ms k 1)])) := by rw [ew_2]; exact hp_set_eq _ _ _
  have v0 : sNi (dNi d k 2 on) k 0 = sNi d k 0 := dNi_n (by omega)
  have v1 : sNi (dNi d k 2 on) k 1 = sNi d k 1 := dNi_n (by omega)
  have v2 : sNi (dNi d k 2 on) k 2 = on := dNi_y _ _ _ _
  have v3 : sNi (dNi d k 2 on) k 3 = sNi d k 3 := dNi_n (by omega)
  have v4 : sNi (dNi d k 2 on) k 4 = sNi d k 4 := dNi_n (by omega)
  have v5 : sNi (dNi d k 2 on) k 5 = sNi d k 5 := dNi_n (by omega)
  refine vx_ret ?_
  refine W.widen (k := 40) (n := 200) (Nat.le_of_ble_eq_true rfl) (Nat.le_of_ble_eq_true rfl) ?_
  exact W.vret hx hb hr (fun t9 ht9 hW9 => ⟨⟨w_2, rfl, ⟨k, hk, ek, ht, ⟨⟨k, hk, ek, ht⟩, fun e => hk0 ((nI_eq (a := k) (b := 0) (by omega) (by decide)).mp (ek.symm.trans e))⟩, pub_fld hp' hno hk ht rfl rfl (fun j i hj => ⟨dNi_n (fun e => hj e.1), rfl⟩) (by rw [ew_2]; unfold nC; rw [v0, v1, v2, v3, v4, v5]; rfl)⟩, eWo ht9 hI⟩, hS.F ht9⟩) hS.2.2 d_Ea_hide_9

/-! Easel's calls: key frames, what is told -/
def dTn (d : DS) (k i n : Nat) : DS := (d.1, d.2.1, d.2.2.1, d.2.2.2.1, d.2.2.2.2.1, fun j r => if j = k ∧ r = i then n else sTn d j r, d.2.2.2.2.2.2)
def dTt (d : DS) (k i : Nat) (f : Nat → UInt64) : DS := (d.1, d.2.1, d.2.2.1, d.2.2.2.1, d.2.2.2.2.1, d.2.2.2.2.2.1, fun j r => if j = k ∧ r = i then f else sTt d j r, d.2.2.2.2.2.2.2)
def dTv (d : DS) (k i : Nat) (f : Nat → UInt64) : DS := (d.1, d.2.1, d.2.2.1, d.2.2.2.1, d.2.2.2.2.1, d.2.2.2.2.2.1, d.2.2.2.2.2.2.1, fun j r => if j = k ∧ r = i then f else sTv d j r, d.2.2.2.2.2.2.2.2)
theorem dTn_y (d : DS) (k i n : Nat) : sTn (dTn d k i n) k i = n := if_pos ⟨rfl, rfl⟩
theorem dTn_n {d : DS} {k i n j r : Nat} (h : ¬ (j = k ∧ r = i)) : sTn (dTn d k i n) j r = sTn d j r := if_neg h
theorem dTt_y (d : DS) (k i : Nat) (f : Nat → UInt64) : sTt (dTt d k i f) k i = f := if_pos ⟨rfl, rfl⟩
theorem dTt_n {d : DS} {k i j r : Nat} {f : Nat → UInt64} (h : ¬ (j = k ∧ r = i)) : sTt (dTt d k i f) j r = sTt d j r := if_neg h
theorem dTv_y (d : DS) (k i : Nat) (f : Nat → UInt64) : sTv (dTv d k i f) k i = f := if_pos ⟨rfl, rfl⟩
theorem dTv_n {d : DS} {k i j r : Nat} {f : Nat → UInt64} (h : ¬ (j = k ∧ r = i)) : sTv (dTv d k i f) j r = sTv d j r := if_neg h
theorem ePic.tn {G : EG} {m : MS} {d : DS} {w : hp_M} (h : ePic G m d w) {k i : Nat} (hk : k < 14) (hi : i < 4) (ht : sTh d k = true) (n : Nat) (hn : n ≤ 4) : ePic G m (dTn d k i n) (hp_set w (mAd m k (5 + i)) (oTr (mAd m k (9 + i)) (mAd m k (13 + i)) n)) := by
  have hv : vR m k (5 + i) := ⟨by omega, fun e => by omega⟩
  have hc : cellOf G m (dTn d k i n) k (5 + i) = oTr (mAd m k (9 + i)) (mAd m k (13 + i)) n := by
    unfold cellOf
    rw [if_neg (by omega), if_neg (by omega), if_neg (by omega), if_neg (by omega), if_neg (by omega), if_pos (by omega), show 5 + i + 4 = 9 + i by omega, show 5 + i + 8 = 13 + i by omega, show 5 + i - 5 = i by omega]
    rw [dTn_y]
  rw [← hc]
  refine h.set1 (m' := m) (d' := dTn d k i n) hk ht hv rfl rfl rfl rfl rfl rfl (fun j r hj hjt hr hne => ?_) (fun j hj hjt => ⟨fun i' hi' => ?_, (nPic_iff.mp (h.2.2.2.1 j hj hjt)).2.2.1⟩)
  · unfold cellOf
    by_cases q0 : r = 0
    · rw [if_pos q0, if_pos q0]; rfl
    rw [if_neg q0, if_neg q0]
    by_cases q1 : r = 1
    · rw [if_pos q1, if_pos q1]; rfl
    rw [if_neg q1, if_neg q1]
    by_cases q2 : r = 2
    · rw [if_pos q2, if_pos q2]
    rw [if_neg q2, if_neg q2]
    by_cases q3 : r = 3
    · rw [if_pos q3, if_pos q3]
    rw [if_neg q3, if_neg q3]
    by_cases q4 : r = 4
    · rw [if_pos q4, if_pos q4]; rfl
    rw [if_neg q4, if_neg q4]
    by_cases q9 : r < 9
    · rw [if_pos q9, if_pos q9]
      rw [dTn_n (fun e => hne ⟨e.1, by omega⟩)]
    rw [if_neg q9, if_neg q9]
    by_cases q13 : r < 13
    · rw [if_pos q13, if_pos q13]
      rfl
    rw [if_neg q13, if_neg q13]
    rfl
  · by_cases e : j = k ∧ i' = i
    · rw [e.1, e.2, dTn_y]; exact hn
    · rw [dTn_n e]; exact (nPic_iff.mp (h.2.2.2.1 j hj hjt)).2.1 i' hi'
theorem ePic.tt {G : EG} {m : MS} {d : DS} {w : hp_M} (h : ePic G m d w) {k i : Nat} (hk : k < 14) (hi : i < 4) (ht : sTh d k = true) (f : Nat → UInt64) : ePic G m (dTt d k i f) (hp_set w (mAd m k (9 + i)) (aD G 4 f)) := by
  have hv : vR m k (9 + i) := ⟨by omega, fun e => by omega⟩
  have hc : cellOf G m (dTt d k i f) k (9 + i) = aD G 4 f := by
    unfold cellOf
    rw [if_neg (by omega), if_neg (by omega), if_neg (by omega), if_neg (by omega), if_neg (by omega), if_neg (by omega), if_pos (by omega), show 9 + i - 9 = i by omega]
    rw [dTt_y]
  rw [← hc]
  refine h.set1 (m' := m) (d' := dTt d k i f) hk ht hv rfl rfl rfl rfl rfl rfl (fun j r hj hjt hr hne => ?_) (fun j hj hjt => ⟨fun i' hi' => ?_, (nPic_iff.mp (h.2.2.2.1 j hj hjt)).2.2.1⟩)
  · unfold cellOf
    by_cases q0 : r = 0
    · rw [if_pos q0, if_pos q0]; rfl
    rw [if_neg q0, if_neg q0]
    by_cases q1 : r = 1
    · rw [if_pos q1, if_pos q1]; rfl
    rw [if_neg q1, if_neg q1]
    by_cases q2 : r = 2
    · rw [if_pos q2, if_pos q2]
    rw [if_neg q2, if_neg q2]
    by_cases q3 : r = 3
    · rw [if_pos q3, if_pos q3]
    rw [if_neg q3, if_neg q3]
    by_cases q4 : r = 4
    · rw [if_pos q4, if_pos q4]; rfl
    rw [if_neg q4, if_neg q4]
    by_cases q9 : r < 9
    · rw [if_pos q9, if_pos q9]
      rfl
    rw [if_neg q9, if_neg q9]
    by_cases q13 : r < 13
    · rw [if_pos q13, if_pos q13]
      rw [dTt_n (fun e => hne ⟨e.1, by omega⟩)]
    rw [if_neg q13, if_neg q13]
    rfl
  · exact (nPic_iff.mp (h.2.2.2.1 j hj hjt)).2.1 i' hi'
theorem ePic.tv {G : EG} {m : MS} {d : DS} {w : hp_M} (h : ePic G m d w) {k i : Nat} (hk : k < 14) (hi : i < 4) (ht : sTh d k = true) (f : Nat → UInt64) : ePic G m (dTv d k i f) (hp_set w (mAd m k (13 + i)) (aD G 4 f)) := by
  have hv : vR m k (13 + i) := ⟨by omega, fun e => by omega⟩
  have hc : cellOf G m (dTv d k i f) k (13 + i) = aD G 4 f := by
    unfold cellOf
    rw [if_neg (by omega), if_neg (by omega), if_neg (by omega), if_neg (by omega), if_neg (by omega), if_neg (by omega), if_neg (by omega), show 13 + i - 13 = i by omega]
    rw [dTv_y]
  rw [← hc]
  refine h.set1 (m' := m) (d' := dTv d k i f) hk ht hv rfl rfl rfl rfl rfl rfl (fun j r hj hjt hr hne => ?_) (fun j hj hjt => ⟨fun i' hi' => ?_, (nPic_iff.mp (h.2.2.2.1 j hj hjt)).2.2.1⟩)
  · unfold cellOf
    by_cases q0 : r = 0
    · rw [if_pos q0, if_pos q0]; rfl
    rw [if_neg q0, if_neg q0]
    by_cases q1 : r = 1
    · rw [if_pos q1, if_pos q1]; rfl
    rw [if_neg q1, if_neg q1]
    by_cases q2 : r = 2
    · rw [if_pos q2, if_pos q2]
    rw [if_neg q2, if_neg q2]
    by_cases q3 : r = 3
    · rw [if_pos q3, if_pos q3]
    rw [if_neg q3, if_neg q3]
    by_cases q4 : r = 4
    · rw [if_pos q4, if_pos q4]; rfl
    rw [if_neg q4, if_neg q4]
    by_cases q9 : r < 9
    · rw [if_pos q9, if_pos q9]
      rfl
    rw [if_neg q9, if_neg q9]
    by_cases q13 : r < 13
    · rw [if_pos q13, if_pos q13]
      rfl
    rw [if_neg q13, if_neg q13]
    rw [dTv_n (fun e => hne ⟨e.1, by omega⟩)]
  · exact (nPic_iff.mp (h.2.2.2.1 j hj hjt)).2.1 i' hi'
theorem i32_4 {n : Int32} (h0 : 0 ≤ n ∧ n ≤ 3) : ∃ k, k < 4 ∧ n = nI k := by
  obtain ⟨j, h1, h2⟩ := nI_of2 (M := 3) (n := 3) (by decide) (Int32.not_lt.mpr h0.1) h0.2
  exact ⟨j, by omega, h2⟩
noncomputable def dKey (d : DS) (k i : Nat) (u v : UInt64) : DS :=
  @ite DS (kSame (sTt d k i) (sTn d k i) u) (Classical.propDecidable _)
    (dTv (dTt d k i (vf_upd (sTt d k i) (kAt (sTt d k i) u (sTn d k i)) u)) k i (vf_upd (sTv d k i) (kAt (sTt d k i) u (sTn d k i)) v))
    (dTn (dTv (dTt d k i (vf_upd (kSh (sTt d k i) (kAt (sTt d k i) u (sTn d k i)) (sTn d k i)) (kAt (sTt d k i) u (sTn d k i)) u)) k i (vf_upd (kSh (sTv d k i) (kAt (sTt d k i) u (sTn d k i)) (sTn d k i)) (kAt (sTt d k i) u (sTn d k i)) v)) k i (sTn d k i + 1))
def okKey (d : DS) (n pr : Int32) (u v : UInt64) (k i : Nat) : Prop := k < 14 ∧ n = nI k ∧ sTh d k = true ∧ k ≠ 0 ∧ i < 4 ∧ pr = nI i ∧ inT u ∧ inV i v
theorem pub_d {G : EG} {m : MS} {d d' : DS} {w z : hp_M} (h : ePic G m d' z) (hno : nOk m d) (e : sTh d' = sTh d) (hf : fR m d w m d z) : pubR G m d w d' z :=
  ⟨m, rfl, h, fun j hj => by rw [hno j hj]; unfold noF; rw [e], hf.eq e⟩
set_option maxHeartbeats 4000000 in
set_option maxRecDepth 100000 in
theorem m_Ea_key (l : Launch) (hlt : l.stackTraces = false) (G : EG) (S0 : Nat) (w : hp_M) (ms : MS) (d : DS) (hp' : ePic G ms d w) (hno : nOk ms d) (h00 : sTh d 0 = true) (n pr : Int32) (u v : UInt64) (hfv : FP.Core.DFin v) : vx_Met l y_Ea_key w_Ea_key (rl 22 40 200) (eP G S0 w [.ref (mEo ms), .int n, .int pr, .double u, .double v]) (va_Qi (fun r z => ∃ k i, okKey d n pr u v k i ∧ (kSame (sTt d k i) (sTn d k i) u ∨ sTn d k i ≠ 4) ∧ r = nI (sTn (dKey d k i u v) k i) ∧ pubR G ms d w (dKey d k i u v) z) (eW G S0) (hp_A S0)) (eX G S0 (fun E z => z = w ∧ ((E = iae ∧ ¬ ∃ k i, okKey d n pr u v k i) ∨ (E = ise ∧ ∃ k i, okKey d n pr u v k i ∧ ¬ kSame (sTt d k i) (sTn d k i) u ∧ sTn d k i = 4)))) 40 200 (hp_A S0) := by
  refine vx_ofW (cc := b_Ea_key) (maxL := 9) (ret := (some .int)) (by decide) rfl ?_
  intro p e s m args below meth c s₁ B hml hnx hv
  obtain ⟨rfl, hE, hI, hz⟩ := hv
  have hx := B.exec
  have hb := B.bytes
  have hr := B.returns
  have hts := atoms_spec (ws := w_Ea_key) B.pre
  have hg : ∀ w ∈ gw, w.before _ s = true := fun w h => hts w (List.mem_cons_of_mem _ h)
  have hown : s.vm.findClass "SceneEasel" = some m.cls := findClass_of_methodNamed B.named
  have hlocks := B.notSynchronized
  have hK := hE.K
  have hS : va_S (hp_A S0) s.heap s.heap [] := va_S.rf
  have hl := lv_entry ([.ref (mEo ms), .int n, .int pr, .double u, .double v]) (n := 9) (Nat.le_of_ble_eq_true rfl)
  rw [lg_entry_eq]
  generalize (lg_sl ([.ref (mEo ms), .int n, .int pr, .double u, .double v]) ++ List.replicate (9 - (lg_sl ([.ref (mEo ms), .int n, .int pr, .double u, .double v])).length) Slot.unset).toArray = ls at hl ⊢
  have hl : lv_has ls 9 [(0, .ref (mEo ms)), (1, .int n), (2, .int pr), (3, .double u), (5, .double v)] := hl
  have hob := hp'.1
  refine lv_aload_n hx hb d_Ea_key_0 rfl (lv_at hl 0 rfl) ?_
  refine lv_iload_n hx hb d_Ea_key_1 rfl (lv_at hl 1 rfl) ?_
  refine xc_o (vx_runV (As := [.int n]) (rest := []) ⟨hx, hb, hml, hown, hts⟩ (m_Ea_requireInner l hlt G S0 w ms d hp' hno h00 n) (cwV 1 hts (gw_V k_487 k_489 k_15 k_60 k_490) rfl rfl rfl (by decide +kernel) ⟨Nat.le_of_ble_eq_true rfl, Nat.le_of_ble_eq_true rfl⟩) (eB.preV hE hI hS hz rfl hob) rfl rfl hl.1 rfl (lv_room (Nat.le_of_ble_eq_true rfl)) d_Ea_key_2 ⟨Nat.le_of_ble_eq_true rfl, Nat.le_of_ble_eq_true rfl⟩) hS (fun E9 ce9 q9 u9 H9 locs9 hpx9 hI9 hsz9 hS9 g1 g2 g3 => xc_out hnx hlocks g1 g2 g3 (⟨hpx9.2.1, Or.inl ⟨hpx9.1, fun ⟨k, i, q1, q2, q3, q4, _⟩ => hpx9.2.2 ⟨⟨k, q1, q2, q3⟩, fun e => q4 ((nI_eq (a := k) (b := 0) (by omega) (by decide)).mp (q2.symm.trans e))⟩⟩⟩) hI9 hS9 (Nat.le_of_ble_eq_true rfl) (Nat.le_of_ble_eq_true rfl)) (fun nd w_1 H locs ew_1 hI hsz hS => ?_)
  obtain ⟨ew_1, h1⟩ := ew_1
  have ew_1 := ew_1.symm
  subst ew_1
  obtain ⟨k, hk, ek, ht, hk0, end_⟩ := h1
  subst end_
  obtain ⟨hn, -, -, hta, -, htk, -, -⟩ := hp'.2.2.2.1 k hk ht
  refine lv_astore (lv' := [(7, .ref (mAd ms k 0)), (0, .ref (mEo ms)), (1, .int n), (2, .int pr), (3, .double u), (5, .double v)]) hx hb d_Ea_key_5 hl (by decide) rfl (fun ls hl => ?_)
  refine lv_iload_n hx hb d_Ea_key_7 rfl (lv_at hl 3 rfl) ?_
  refine lv_iconst (v := 0) hx hb d_Ea_key_8 (by decide) ?_
  refine lv_iconst (v := 3) hx hb d_Ea_key_9 (by decide) ?_
  refine xc_v (vx_runS (As := [.int pr, .int 0, .int 3]) (rest := []) ⟨hx, hb, hml, hown, hts⟩ (m_Ea_requireWithin l hlt G S0 w pr 0 3) (cwS 3 hts (gw_S k_373 k_374 k_60 k_375) rfl rfl rfl (by decide +kernel) ⟨Nat.le_of_ble_eq_true rfl, Nat.le_of_ble_eq_true rfl⟩) (eB.preS hE hI hS hz) rfl rfl hl.1 rfl (lv_room (Nat.le_of_ble_eq_true rfl)) d_Ea_key_10 ⟨Nat.le_of_ble_eq_true rfl, Nat.le_of_ble_eq_true rfl⟩) hS (fun E9 ce9 q9 u9 H9 locs9 hpx9 hI9 hsz9 hS9 g1 g2 g3 => xc_out hnx hlocks g1 g2 g3 (⟨hpx9.2.1, Or.inl ⟨hpx9.1, fun ⟨k, i, q1, q2, q3, q4, q5, q6, _⟩ => hpx9.2.2 (by rw [q6]; exact ⟨nI_pos' (by omega), (nI_leI (a := i) (b := 3) (by omega) (by omega)).mpr (by omega)⟩)⟩⟩) hI9 hS9 (Nat.le_of_ble_eq_true rfl) (Nat.le_of_ble_eq_true rfl)) (fun w_2 H locs ew_2 hI hsz hS => ?_)
  obtain ⟨ew_2, h2⟩ := ew_2
  have ew_2 := ew_2.symm
  subst ew_2
  obtain ⟨i, hi, ei⟩ := i32_4 h2
  refine lv_dload_n hx hb d_Ea_key_13 rfl (lv_at hl 4 rfl) ?_
  refine xc_v (vx_runS (As := [.double u]) (rest := []) ⟨hx, hb, hml, hown, hts⟩ (m_Ea_requireTime l hlt G S0 w u) (cwS 1 hts (gw_S k_525 k_526 k_60 k_527) rfl rfl rfl (by decide +kernel) ⟨Nat.le_of_ble_eq_true rfl, Nat.le_of_ble_eq_true rfl⟩) (eB.preS hE hI hS hz) rfl rfl hl.1 rfl (lv_room (Nat.le_of_ble_eq_true rfl)) d_Ea_key_14 ⟨Nat.le_of_ble_eq_true rfl, Nat.le_of_ble_eq_true rfl⟩) hS (fun E9 ce9 q9 u9 H9 locs9 hpx9 hI9 hsz9 hS9 g1 g2 g3 => xc_out hnx hlocks g1 g2 g3 (⟨hpx9.2.1, Or.inl ⟨hpx9.1, fun ⟨k, i, q1, q2, q3, q4, q5, q6, q7, _⟩ => hpx9.2.2 q7⟩⟩) hI9 hS9 (Nat.le_of_ble_eq_true rfl) (Nat.le_of_ble_eq_true rfl)) (fun w_3 H locs ew_3 hI hsz hS => ?_)
  obtain ⟨ew_3, h3⟩ := ew_3
  have ew_3 := ew_3.symm
  subst ew_3
  have hrv := m_Ea_requireValue l hlt G S0 w i hi v hfv
  rw [← ei] at hrv
  refine lv_iload_n hx hb d_Ea_key_17 rfl (lv_at hl 3 rfl) ?_
  refine lv_dload hx hb d_Ea_key_18 (lv_at hl 5 rfl) ?_
  refine xc_v (vx_runS (As := [.int pr, .double v]) (rest := []) ⟨hx, hb, hml, hown, hts⟩ (hrv) (cwS 2 hts (gw_S k_529 k_530 k_60 k_531) rfl rfl rfl (by decide +kernel) ⟨Nat.le_of_ble_eq_true rfl, Nat.le_of_ble_eq_true rfl⟩) (eB.preS hE hI hS hz) rfl rfl hl.1 rfl (lv_room (Nat.le_of_ble_eq_true rfl)) d_Ea_key_20 ⟨Nat.le_of_ble_eq_true rfl, Nat.le_of_ble_eq_true rfl⟩) hS (fun E9 ce9 q9 u9 H9 locs9 hpx9 hI9 hsz9 hS9 g1 g2 g3 => xc_out hnx hlocks g1 g2 g3 (⟨hpx9.2.1, Or.inl ⟨hpx9.1, fun ⟨k, i', q1, q2, q3, q4, q5, q6, q7, q8⟩ => hpx9.2.2 (by rw [show i = i' from (nI_eq (a := i) (b := i') (by omega) (by omega)).mp (ei.symm.trans q6)]; exact q8)⟩⟩) hI9 hS9 (Nat.le_of_ble_eq_true rfl) (Nat.le_of_ble_eq_true rfl)) (fun w_4 H locs ew_4 hI hsz hS => ?_)
  obtain ⟨ew_4, h4⟩ := ew_4
  have ew_4 := ew_4.symm
  subst ew_4
  have hok : okKey d n pr u v k i := ⟨hk, ek, ht, hk0, hi, ei, h3, h4⟩
  refine lv_aload hx hb d_Ea_key_23 (lv_at hl 0 rfl) ?_
  refine hp_getN (ci := 1) (v := .ref (mAd ms k 2)) (C := R_No) (T := F_No) (N := 20) hx hb hg i_No hown hK hI hn rfl 4 (by decide) (hE.N q_174) (fun _ h9 => h9) rfl d_Ea_key_25 ?_
  refine lv_iload_n hx hb d_Ea_key_28 rfl (lv_at hl 3 rfl) ?_
  refine hp_aald hx hb hK hI 5 hta rfl (by rw [ei]; exact vp_in_nI hi (by decide)) d_Ea_key_29 ?_
  rw [show pr.toNatClampNeg = i by rw [ei]; exact nI_clamp (by omega), trF_lt hi]
  obtain ⟨ht5, ht9, ht13, hn4⟩ := htk i hi
  have htv : mAd ms k (9 + i) ≠ mAd ms k (13 + i) := fun e => by
    have := (hp'.2.2.2.2 k (9 + i) k (13 + i) hk hk ht ht ⟨by omega, fun e => by omega⟩ ⟨by omega, fun e => by omega⟩ e).2
    omega
  refine lv_astore (lv' := [(8, .ref (mAd ms k (5 + i))), (7, .ref (mAd ms k 0)), (0, .ref (mEo ms)), (1, .int n), (2, .int pr), (3, .double u), (5, .double v)]) hx hb d_Ea_key_30 hl (by decide) rfl (fun ls hl => ?_)
  refine lv_aload hx hb d_Ea_key_32 (lv_at hl 0 rfl) ?_
  refine lv_dload_n hx hb d_Ea_key_34 rfl (lv_at hl 5 rfl) ?_
  refine lv_dload hx hb d_Ea_key_35 (lv_at hl 6 rfl) ?_
  refine ec_i (va_runVN (As := [.double u, .double v]) (rest := []) ⟨hx, hb, hml, hown, hts⟩ (m_Tr_put l G S0 w (mAd ms k (5 + i)) (mAd ms k (9 + i)) (mAd ms k (13 + i)) (sTn d k i) (sTt d k i) (sTv d k i) u v hn4 htv ht5 ht9 ht13) ⟨va_cnB 2 hts (gw_code k_538) rfl rfl rfl (hE.Nw q_535) (hg _ k_66) (by decide +kernel) ⟨Nat.le_of_ble_eq_true rfl, Nat.le_of_ble_eq_true rfl⟩, hg _ k_537, hg _ k_16⟩ (eB.preV hE hI hS hz rfl ht5) rfl rfl hl.1 rfl (lv_room (Nat.le_of_ble_eq_true rfl)) d_Ea_key_37 ⟨Nat.le_of_ble_eq_true rfl, Nat.le_of_ble_eq_true rfl⟩) hS (fun pt w2 H locs ew2 hI hsz hS => ?_)
  obtain ⟨p1, p2, p3⟩ := ew2
  have v9 : vR ms k (9 + i) := ⟨by omega, fun e => by omega⟩
  have v13 : vR ms k (13 + i) := ⟨by omega, fun e => by omega⟩
  have v5 : vR ms k (5 + i) := ⟨by omega, fun e => by omega⟩
  by_cases hsm : kSame (sTt d k i) (sTn d k i) u
  · obtain ⟨e1, e2⟩ := p1 hsm
    have edk : dKey d k i u v = dTv (dTt d k i (vf_upd (sTt d k i) (kAt (sTt d k i) u (sTn d k i)) u)) k i (vf_upd (sTv d k i) (kAt (sTt d k i) u (sTn d k i)) v) := if_pos hsm
    have hp2 := (hp'.tt hk hi ht (vf_upd (sTt d k i) (kAt (sTt d k i) u (sTn d k i)) u)).tv hk hi ht (vf_upd (sTv d k i) (kAt (sTt d k i) u (sTn d k i)) v)
    rw [← e2, ← edk] at hp2
    have hf2 : fR ms d w ms d w2 := by rw [e2]; exact (fR.st (d' := d) hk ht v9 rfl _).tr (fR.st (d' := d) hk ht v13 rfl _)
    have etn : sTn (dKey d k i u v) k i = sTn d k i := by rw [edk]; rfl
    have ht5' := (hp2.2.2.2.1 k hk (by rw [edk]; exact ht)).2.2.2.2.2.1 i hi
    have ht5' := ht5'.1
    rw [etn] at ht5'
    rw [e1]
    refine lv_if_ne (tgt := 53) hx hb d_Ea_key_40 (by decide) (fun c9 => ?_) (fun c9 => absurd c9 (by decide))
    refine lv_aload hx hb d_Ea_key_53 (lv_at hl 0 rfl) ?_
    refine hp_getN (ci := 2) (v := .int (nI (sTn d k i))) (C := R_Tr) (T := F_Tr) (N := 3) hx hb hg i_Tr hown hK hI ht5' rfl 2 (by decide) (hE.N q_157) (fun _ h9 => h9) rfl d_Ea_key_55 ?_
    refine vx_ret ?_
    refine W.widen (k := 40) (n := 200) (Nat.le_of_ble_eq_true rfl) (Nat.le_of_ble_eq_true rfl) ?_
    exact W.iret (v := (nI (sTn d k i))) hx hb hr (fun t9 ht9 hW9 => ⟨⟨(nI (sTn d k i)), w2, rfl, ⟨k, i, hok, Or.inl hsm, by rw [etn], pub_d hp2 hno (by rw [edk]; rfl) hf2⟩, eWo ht9 hI⟩, hS.F ht9⟩) hS.2.2 d_Ea_key_58
  · by_cases h44 : sTn d k i = 4
    · obtain ⟨e1, e2⟩ := p2 hsm h44
      rw [e2] at hI
      rw [e1]
      refine lv_if_ne (tgt := 53) hx hb d_Ea_key_40 (by decide) (fun c9 => absurd c9 ((fun h => h rfl))) (fun c9 => ?_)
      exact xt_throw (names := rte) (text := "no room for another key frame") k_381 k_72 (by decide +kernel) xf_ise x1_ise x2_ise x3_ise rfl hx hb hlt hown hg hE hI hS (hl.1.trans hml.symm) d_Ea_key_43 d_Ea_key_46 d_Ea_key_47 d_Ea_key_49 d_Ea_key_52 hnx hlocks (⟨rfl, Or.inr ⟨rfl, k, i, hok, hsm, h44⟩⟩) (Nat.le_of_ble_eq_true rfl) (Nat.le_of_ble_eq_true rfl) (Nat.le_of_ble_eq_true rfl) (Nat.le_of_ble_eq_true rfl) (Nat.le_of_ble_eq_true rfl) (Nat.le_of_ble_eq_true rfl)
    · obtain ⟨e1, e2⟩ := p3 hsm h44
      have edk : dKey d k i u v = dTn (dTv (dTt d k i (vf_upd (kSh (sTt d k i) (kAt (sTt d k i) u (sTn d k i)) (sTn d k i)) (kAt (sTt d k i) u (sTn d k i)) u)) k i (vf_upd (kSh (sTv d k i) (kAt (sTt d k i) u (sTn d k i)) (sTn d k i)) (kAt (sTt d k i) u (sTn d k i)) v)) k i (sTn d k i + 1) := if_neg hsm
      have hp2 := ((hp'.tt hk hi ht (vf_upd (kSh (sTt d k i) (kAt (sTt d k i) u (sTn d k i)) (sTn d k i)) (kAt (sTt d k i) u (sTn d k i)) u)).tv hk hi ht (vf_upd (kSh (sTv d k i) (kAt (sTt d k i) u (sTn d k i)) (sTn d k i)) (kAt (sTt d k i) u (sTn d k i)) v)).tn hk hi ht (sTn d k i + 1) (by omega)
      rw [← e2, ← edk] at hp2
      have hf2 : fR ms d w ms d w2 := by rw [e2]; exact ((fR.st (d' := d) hk ht v9 rfl _).tr (fR.st (d' := d) hk ht v13 rfl _)).tr (fR.st (d' := d) hk ht v5 rfl _)
      have etn : sTn (dKey d k i u v) k i = sTn d k i + 1 := by rw [edk]; exact dTn_y _ _ _ _
      have ht5' := (hp2.2.2.2.1 k hk (by rw [edk]; exact ht)).2.2.2.2.2.1 i hi
      have ht5' := ht5'.1
      rw [etn] at ht5'
      rw [e1]
      refine lv_if_ne (tgt := 53) hx hb d_Ea_key_40 (by decide) (fun c9 => ?_) (fun c9 => absurd c9 (by decide))
      refine lv_aload hx hb d_Ea_key_53 (lv_at hl 0 rfl) ?_
      refine hp_getN (ci := 2) (v := .int (nI (sTn d k i + 1))) (C := R_Tr) (T := F_Tr) (N := 3) hx hb hg i_Tr hown hK hI ht5' rfl 2 (by decide) (hE.N q_157) (fun _ h9 => h9) rfl d_Ea_key_55 ?_
      refine vx_ret ?_
      refine W.widen (k := 40) (n := 200) (Nat.le_of_ble_eq_true rfl) (Nat.le_of_ble_eq_true rfl) ?_
      exact W.iret (v := (nI (sTn d k i + 1))) hx hb hr (fun t9 ht9 hW9 => ⟨⟨(nI (sTn d k i + 1)), w2, rfl, ⟨k, i, hok, Or.inr h44, by rw [etn], pub_d hp2 hno (by rw [edk]; rfl) hf2⟩, eWo ht9 hI⟩, hS.F ht9⟩) hS.2.2 d_Ea_key_58
def okUn (d : DS) (n pr : Int32) (k i : Nat) : Prop := k < 14 ∧ n = nI k ∧ sTh d k = true ∧ k ≠ 0 ∧ i < 4 ∧ pr = nI i
set_option maxHeartbeats 4000000 in
set_option maxRecDepth 100000 in
theorem m_Ea_unkey (l : Launch) (hlt : l.stackTraces = false) (G : EG) (S0 : Nat) (w : hp_M) (ms : MS) (d : DS) (hp' : ePic G ms d w) (hno : nOk ms d) (h00 : sTh d 0 = true) (n pr : Int32) : vx_Met l y_Ea_unkey w_Ea_unkey (rl 22 40 200) (eP G S0 w [.ref (mEo ms), .int n, .int pr]) (va_Qv (fun z => ∃ k i, okUn d n pr k i ∧ sTn d k i ≠ 0 ∧ pubR G ms d w (dTn d k i 0) z) (eW G S0) (hp_A S0)) (eX G S0 (fun E z => z = w ∧ ((E = iae ∧ ¬ ∃ k i, okUn d n pr k i) ∨ (E = nse ∧ ∃ k i, okUn d n pr k i ∧ sTn d k i = 0)))) 40 200 (hp_A S0) := by
  refine vx_ofW (cc := b_Ea_unkey) (maxL := 5) (ret := none) (by decide) rfl ?_
  intro p e s m args below meth c s₁ B hml hnx hv
  obtain ⟨rfl, hE, hI, hz⟩ := hv
  have hx := B.exec
  have hb := B.bytes
  have hr := B.returns
  have hts := atoms_spec (ws := w_Ea_unkey) B.pre
  have hg : ∀ w ∈ gw, w.before _ s = true := fun w h => hts w (List.mem_cons_of_mem _ h)
  have hown : s.vm.findClass "SceneEasel" = some m.cls := findClass_of_methodNamed B.named
  have hlocks := B.notSynchronized
  have hK := hE.K
  have hS : va_S (hp_A S0) s.heap s.heap [] := va_S.rf
  have hl := lv_entry ([.ref (mEo ms), .int n, .int pr]) (n := 5) (Nat.le_of_ble_eq_true rfl)
  rw [lg_entry_eq]
  generalize (lg_sl ([.ref (mEo ms), .int n, .int pr]) ++ List.replicate (5 - (lg_sl ([.ref (mEo ms), .int n, .int pr])).length) Slot.unset).toArray = ls at hl ⊢
  have hl : lv_has ls 5 [(0, .ref (mEo ms)), (1, .int n), (2, .int pr)] := hl
  have hob := hp'.1
  refine lv_aload_n hx hb d_Ea_unkey_0 rfl (lv_at hl 0 rfl) ?_
  refine lv_iload_n hx hb d_Ea_unkey_1 rfl (lv_at hl 1 rfl) ?_
  refine xc_o (vx_runV (As := [.int n]) (rest := []) ⟨hx, hb, hml, hown, hts⟩ (m_Ea_requireInner l hlt G S0 w ms d hp' hno h00 n) (cwV 1 hts (gw_V k_487 k_489 k_15 k_60 k_490) rfl rfl rfl (by decide +kernel) ⟨Nat.le_of_ble_eq_true rfl, Nat.le_of_ble_eq_true rfl⟩) (eB.preV hE hI hS hz rfl hob) rfl rfl hl.1 rfl (lv_room (Nat.le_of_ble_eq_true rfl)) d_Ea_unkey_2 ⟨Nat.le_of_ble_eq_true rfl, Nat.le_of_ble_eq_true rfl⟩) hS (fun E9 ce9 q9 u9 H9 locs9 hpx9 hI9 hsz9 hS9 g1 g2 g3 => xc_out hnx hlocks g1 g2 g3 (⟨hpx9.2.1, Or.inl ⟨hpx9.1, fun ⟨k, i, q1, q2, q3, q4, _⟩ => hpx9.2.2 ⟨⟨k, q1, q2, q3⟩, fun e => q4 ((nI_eq (a := k) (b := 0) (by omega) (by decide)).mp (q2.symm.trans e))⟩⟩⟩) hI9 hS9 (Nat.le_of_ble_eq_true rfl) (Nat.le_of_ble_eq_true rfl)) (fun nd w_1 H locs ew_1 hI hsz hS => ?_)
  obtain ⟨ew_1, h1⟩ := ew_1
  have ew_1 := ew_1.symm
  subst ew_1
  obtain ⟨k, hk, ek, ht, hk0, end_⟩ := h1
  subst end_
  obtain ⟨hn, -, -, hta, -, htk, -, -⟩ := hp'.2.2.2.1 k hk ht
  refine lv_astore_n (lv' := [(3, .ref (mAd ms k 0)), (0, .ref (mEo ms)), (1, .int n), (2, .int pr)]) hx hb d_Ea_unkey_5 rfl hl (by decide) rfl (fun ls hl => ?_)
  refine lv_iload_n hx hb d_Ea_unkey_6 rfl (lv_at hl 3 rfl) ?_
  refine lv_iconst (v := 0) hx hb d_Ea_unkey_7 (by decide) ?_
  refine lv_iconst (v := 3) hx hb d_Ea_unkey_8 (by decide) ?_
  refine xc_v (vx_runS (As := [.int pr, .int 0, .int 3]) (rest := []) ⟨hx, hb, hml, hown, hts⟩ (m_Ea_requireWithin l hlt G S0 w pr 0 3) (cwS 3 hts (gw_S k_373 k_374 k_60 k_375) rfl rfl rfl (by decide +kernel) ⟨Nat.le_of_ble_eq_true rfl, Nat.le_of_ble_eq_true rfl⟩) (eB.preS hE hI hS hz) rfl rfl hl.1 rfl (lv_room (Nat.le_of_ble_eq_true rfl)) d_Ea_unkey_9 ⟨Nat.le_of_ble_eq_true rfl, Nat.le_of_ble_eq_true rfl⟩) hS (fun E9 ce9 q9 u9 H9 locs9 hpx9 hI9 hsz9 hS9 g1 g2 g3 => xc_out hnx hlocks g1 g2 g3 (⟨hpx9.2.1, Or.inl ⟨hpx9.1, fun ⟨k, i, q1, q2, q3, q4, q5, q6⟩ => hpx9.2.2 (by rw [q6]; exact ⟨nI_pos' (by omega), (nI_leI (a := i) (b := 3) (by omega) (by omega)).mpr (by omega)⟩)⟩⟩) hI9 hS9 (Nat.le_of_ble_eq_true rfl) (Nat.le_of_ble_eq_true rfl)) (fun w_2 H locs ew_2 hI hsz hS => ?_)
  obtain ⟨ew_2, h2⟩ := ew_2
  have ew_2 := ew_2.symm
  subst ew_2
  obtain ⟨i, hi, ei⟩ := i32_4 h2
  have hok : okUn d n pr k i := ⟨hk, ek, ht, hk0, hi, ei⟩
  refine lv_aload_n hx hb d_Ea_unkey_12 rfl (lv_at hl 0 rfl) ?_
  refine hp_getN (ci := 1) (v := .ref (mAd ms k 2)) (C := R_No) (T := F_No) (N := 20) hx hb hg i_No hown hK hI hn rfl 4 (by decide) (hE.N q_174) (fun _ h9 => h9) rfl d_Ea_unkey_13 ?_
  refine lv_iload_n hx hb d_Ea_unkey_16 rfl (lv_at hl 3 rfl) ?_
  refine hp_aald hx hb hK hI 5 hta rfl (by rw [ei]; exact vp_in_nI hi (by decide)) d_Ea_unkey_17 ?_
  rw [show pr.toNatClampNeg = i by rw [ei]; exact nI_clamp (by omega), trF_lt hi]
  obtain ⟨ht5, ht9, ht13, hn4⟩ := htk i hi
  refine lv_astore (lv' := [(4, .ref (mAd ms k (5 + i))), (3, .ref (mAd ms k 0)), (0, .ref (mEo ms)), (1, .int n), (2, .int pr)]) hx hb d_Ea_unkey_18 hl (by decide) rfl (fun ls hl => ?_)
  refine lv_aload hx hb d_Ea_unkey_20 (lv_at hl 0 rfl) ?_
  refine hp_getN (ci := 2) (v := .int (nI (sTn d k i))) (C := R_Tr) (T := F_Tr) (N := 3) hx hb hg i_Tr hown hK hI ht5 rfl 2 (by decide) (hE.N q_157) (fun _ h9 => h9) rfl d_Ea_unkey_22 ?_
  refine lv_if_ne (tgt := 38) hx hb d_Ea_unkey_25 (by decide) (fun c1 => ?_) (fun c1 => ?_)
  · have h0 : sTn d k i ≠ 0 := fun e => c1 (by rw [e]; rfl)
    refine lv_aload hx hb d_Ea_unkey_38 (lv_at hl 0 rfl) ?_
    refine lv_iconst (v := 0) hx hb d_Ea_unkey_40 (by decide) ?_
    refine hp_putN (ci := 2) (v := .int 0) (ty := .int) (C := R_Tr) (T := F_Tr) (N := 3) hx hb hg i_Tr t_Tr t_Tr_ok n_Tr hown hK hI hS ht5 rfl 2 (by decide) (hE.N q_157) (fun _ h9 => h9) rfl (by decide +kernel) rfl rfl (Nat.le_of_ble_eq_true rfl) d_Ea_unkey_41 (fun H locs hI hS hsz => ?_)
    obtain ⟨w_3, ew_3⟩ : ∃ z9, z9 = hp_set w (mAd ms k (5 + i)) (.inr (2, [.ref (mAd ms k (9 + i)), .ref (mAd ms k (13 + i)), .int 0])) := ⟨_, rfl⟩
    have hI : eI G S0 w_3 H := by rw [ew_3]; exact hI
    have ht5 : w_3 (mAd ms k (5 + i)) = some (.inr (2, [.ref (mAd ms k (9 + i)), .ref (mAd ms k (13 + i)), .int 0])) := by rw [ew_3]; exact hp_set_eq _ _ _
    have hp2 := hp'.tn hk hi ht 0 (by decide)
    refine vx_ret ?_
    refine W.widen (k := 40) (n := 200) (Nat.le_of_ble_eq_true rfl) (Nat.le_of_ble_eq_true rfl) ?_
    exact W.vret hx hb hr (fun t9 ht9 hW9 => ⟨⟨w_3, rfl, ⟨k, i, hok, h0, pub_d (by rw [ew_3]; exact hp2) hno rfl (by rw [ew_3]; exact fR.st (d' := d) hk ht ⟨by omega, fun e => by omega⟩ rfl _)⟩, eWo ht9 hI⟩, hS.F ht9⟩) hS.2.2 d_Ea_unkey_44
  · have h0 : sTn d k i = 0 := (nI_eq (a := sTn d k i) (b := 0) (by omega) (by decide)).mp c1
    exact xt_nse (text := "no key frames") (by decide +kernel) hx hb hlt hown hg hE hI hS (hl.1.trans hml.symm) d_Ea_unkey_28 d_Ea_unkey_31 d_Ea_unkey_32 d_Ea_unkey_34 d_Ea_unkey_37 hnx hlocks (⟨rfl, Or.inr ⟨rfl, k, i, hok, h0⟩⟩) (Nat.le_of_ble_eq_true rfl) (Nat.le_of_ble_eq_true rfl) (Nat.le_of_ble_eq_true rfl) (Nat.le_of_ble_eq_true rfl) (Nat.le_of_ble_eq_true rfl) (Nat.le_of_ble_eq_true rfl)
set_option maxHeartbeats 4000000 in
set_option maxRecDepth 100000 in
theorem m_Ea_cell (l : Launch) (hlt : l.stackTraces = false) (G : EG) (S0 : Nat) (w : hp_M) (ms : MS) (d : DS) (hp' : ePic G ms d w) (hno : nOk ms d) (a b : Int32) : vx_Met l y_Ea_cell w_Ea_cell (rl 22 40 200) (eP G S0 w [.ref (mEo ms), .int a, .int b]) (va_Qi (fun r z => z = w ∧ ∃ i j, i < 16 ∧ j < 12 ∧ a = nI i ∧ b = nI j ∧ r = sCl d (j * 16 + i)) (eW G S0) (hp_A S0)) (eX G S0 (pIA w (¬ ((0 ≤ a ∧ a ≤ 15) ∧ (0 ≤ b ∧ b ≤ 11))))) 40 200 (hp_A S0) := by
  refine vx_ofW (cc := b_Ea_cell) (maxL := 3) (ret := (some .int)) (by decide) rfl ?_
  intro p e s m args below meth c s₁ B hml hnx hv
  obtain ⟨rfl, hE, hI, hz⟩ := hv
  have hx := B.exec
  have hb := B.bytes
  have hr := B.returns
  have hts := atoms_spec (ws := w_Ea_cell) B.pre
  have hg : ∀ w ∈ gw, w.before _ s = true := fun w h => hts w (List.mem_cons_of_mem _ h)
  have hown : s.vm.findClass "SceneEasel" = some m.cls := findClass_of_methodNamed B.named
  have hlocks := B.notSynchronized
  have hK := hE.K
  have hS : va_S (hp_A S0) s.heap s.heap [] := va_S.rf
  have hl := lv_entry ([.ref (mEo ms), .int a, .int b]) (n := 3) (Nat.le_of_ble_eq_true rfl)
  rw [lg_entry_eq]
  generalize (lg_sl ([.ref (mEo ms), .int a, .int b]) ++ List.replicate (3 - (lg_sl ([.ref (mEo ms), .int a, .int b])).length) Slot.unset).toArray = ls at hl ⊢
  have hl : lv_has ls 3 [(0, .ref (mEo ms)), (1, .int a), (2, .int b)] := hl
  have hob := hp'.1
  have hca := hp'.2.2.1
  refine lv_iload_n hx hb d_Ea_cell_0 rfl (lv_at hl 1 rfl) ?_
  refine lv_iconst (v := 0) hx hb d_Ea_cell_1 (by decide) ?_
  refine lv_bipush (v := 15) hx hb d_Ea_cell_2 (by decide) ?_
  refine xc_v (vx_runS (As := [.int a, .int 0, .int 15]) (rest := []) ⟨hx, hb, hml, hown, hts⟩ (m_Ea_requireWithin l hlt G S0 w a 0 15) (cwS 3 hts (gw_S k_373 k_374 k_60 k_375) rfl rfl rfl (by decide +kernel) ⟨Nat.le_of_ble_eq_true rfl, Nat.le_of_ble_eq_true rfl⟩) (eB.preS hE hI hS hz) rfl rfl hl.1 rfl (lv_room (Nat.le_of_ble_eq_true rfl)) d_Ea_cell_4 ⟨Nat.le_of_ble_eq_true rfl, Nat.le_of_ble_eq_true rfl⟩) hS (fun E9 ce9 q9 u9 H9 locs9 hpx9 hI9 hsz9 hS9 g1 g2 g3 => xc_out hnx hlocks g1 g2 g3 (⟨hpx9.1, hpx9.2.1, fun h => hpx9.2.2 h.1⟩) hI9 hS9 (Nat.le_of_ble_eq_true rfl) (Nat.le_of_ble_eq_true rfl)) (fun w_1 H locs ew_1 hI hsz hS => ?_)
  obtain ⟨ew_1, h1⟩ := ew_1
  have ew_1 := ew_1.symm
  subst ew_1
  refine lv_iload_n hx hb d_Ea_cell_7 rfl (lv_at hl 2 rfl) ?_
  refine lv_iconst (v := 0) hx hb d_Ea_cell_8 (by decide) ?_
  refine lv_bipush (v := 11) hx hb d_Ea_cell_9 (by decide) ?_
  refine xc_v (vx_runS (As := [.int b, .int 0, .int 11]) (rest := []) ⟨hx, hb, hml, hown, hts⟩ (m_Ea_requireWithin l hlt G S0 w b 0 11) (cwS 3 hts (gw_S k_373 k_374 k_60 k_375) rfl rfl rfl (by decide +kernel) ⟨Nat.le_of_ble_eq_true rfl, Nat.le_of_ble_eq_true rfl⟩) (eB.preS hE hI hS hz) rfl rfl hl.1 rfl (lv_room (Nat.le_of_ble_eq_true rfl)) d_Ea_cell_11 ⟨Nat.le_of_ble_eq_true rfl, Nat.le_of_ble_eq_true rfl⟩) hS (fun E9 ce9 q9 u9 H9 locs9 hpx9 hI9 hsz9 hS9 g1 g2 g3 => xc_out hnx hlocks g1 g2 g3 (⟨hpx9.1, hpx9.2.1, fun h => hpx9.2.2 h.2⟩) hI9 hS9 (Nat.le_of_ble_eq_true rfl) (Nat.le_of_ble_eq_true rfl)) (fun w_2 H locs ew_2 hI hsz hS => ?_)
  obtain ⟨ew_2, h2⟩ := ew_2
  have ew_2 := ew_2.symm
  subst ew_2
  obtain ⟨i, hi, ei⟩ := nI_of2 (M := 15) (n := 15) (by decide) (Int32.not_lt.mpr h1.1) h1.2
  obtain ⟨j, hj, ej⟩ := nI_of2 (M := 11) (n := 11) (by decide) (Int32.not_lt.mpr h2.1) h2.2
  have eix : b * 16 + a = nI (j * 16 + i) := by rw [ei, ej, show (16 : Int32) = nI 16 from rfl, pk_mul, nI_add]
  refine lv_aload_n hx hb d_Ea_cell_14 rfl (lv_at hl 0 rfl) ?_
  refine hp_get (ci := 3) (v := .ref (mCa ms)) (C := R_Ea) (T := F_Ea) (N := 4) hx hb hg i_Ea hown hK hI hob rfl 2 (by decide) (hg _ k_245) (fun _ h9 => h9) rfl d_Ea_cell_15 ?_
  refine lv_iload_n hx hb d_Ea_cell_18 rfl (lv_at hl 2 rfl) ?_
  refine lv_bipush (v := 16) hx hb d_Ea_cell_19 (by decide) ?_
  refine lv_imul hx hb d_Ea_cell_21 ?_
  refine lv_iload_n hx hb d_Ea_cell_22 rfl (lv_at hl 1 rfl) ?_
  refine lv_iadd hx hb d_Ea_cell_23 ?_
  refine hp_iald hx hb hK hI 0 hca rfl (by rw [eix]; exact vp_in_nI (by omega) (by decide)) d_Ea_cell_24 ?_
  rw [show (b * 16 + a).toNatClampNeg = j * 16 + i by rw [eix]; exact nI_clamp (by omega)]
  refine vx_ret ?_
  refine W.widen (k := 40) (n := 200) (Nat.le_of_ble_eq_true rfl) (Nat.le_of_ble_eq_true rfl) ?_
  exact W.iret (v := (sCl d (j * 16 + i))) hx hb hr (fun t9 ht9 hW9 => ⟨⟨(sCl d (j * 16 + i)), w, rfl, ⟨rfl, i, j, by omega, by omega, ei, ej, rfl⟩, eWo ht9 hI⟩, hS.F ht9⟩) hS.2.2 d_Ea_cell_25
def tolF (d : DS) (k j : Nat) : Int32 := if j = 0 then sNi d k 0 else if j = 1 then (match sPa d k with | none => -1 | some g => nI g) else if j = 2 then nI (sCh d k).length else if j = 3 then nI (rkF d k) else nI (frS d k 4)
set_option maxHeartbeats 4000000 in
set_option maxRecDepth 100000 in
theorem m_Ea_told (l : Launch) (hlt : l.stackTraces = false) (G : EG) (S0 : Nat) (w : hp_M) (ms : MS) (d : DS) (hp' : ePic G ms d w) (hno : nOk ms d) (dp : Nat → Nat) (htr : tOk d dp) (n wh : Int32) : vx_Met l y_Ea_told w_Ea_told (rl 22 40 200) (eP G S0 w [.ref (mEo ms), .int n, .int wh]) (va_Qi (fun r z => z = w ∧ ∃ k j, k < 14 ∧ n = nI k ∧ sTh d k = true ∧ j < 5 ∧ wh = nI j ∧ r = tolF d k j) (eW G S0) (hp_A S0)) (eX G S0 (pIA w (¬ (isN d n ∧ (0 ≤ wh ∧ wh ≤ 4))))) 40 200 (hp_A S0) := by
  refine vx_ofW (cc := b_Ea_told) (maxL := 4) (ret := (some .int)) (by decide) rfl ?_
  intro p e s m args below meth c s₁ B hml hnx hv
  obtain ⟨rfl, hE, hI, hz⟩ := hv
  have hx := B.exec
  have hb := B.bytes
  have hr := B.returns
  have hts := atoms_spec (ws := w_Ea_told) B.pre
  have hg : ∀ w ∈ gw, w.before _ s = true := fun w h => hts w (List.mem_cons_of_mem _ h)
  have hown : s.vm.findClass "SceneEasel" = some m.cls := findClass_of_methodNamed B.named
  have hlocks := B.notSynchronized
  have hK := hE.K
  have hS : va_S (hp_A S0) s.heap s.heap [] := va_S.rf
  have hl := lv_entry ([.ref (mEo ms), .int n, .int wh]) (n := 4) (Nat.le_of_ble_eq_true rfl)
  rw [lg_entry_eq]
  generalize (lg_sl ([.ref (mEo ms), .int n, .int wh]) ++ List.replicate (4 - (lg_sl ([.ref (mEo ms), .int n, .int wh])).length) Slot.unset).toArray = ls at hl ⊢
  have hl : lv_has ls 4 [(0, .ref (mEo ms)), (1, .int n), (2, .int wh)] := hl
  have hob := hp'.1
  refine lv_aload_n hx hb d_Ea_told_0 rfl (lv_at hl 0 rfl) ?_
  refine lv_iload_n hx hb d_Ea_told_1 rfl (lv_at hl 1 rfl) ?_
  refine xc_o (vx_runV (As := [.int n]) (rest := []) ⟨hx, hb, hml, hown, hts⟩ (m_Ea_requireNode l hlt G S0 w ms d hp' hno n) (cwV 1 hts (gw_V k_300 k_302 k_7 k_60 k_303) rfl rfl rfl (by decide +kernel) ⟨Nat.le_of_ble_eq_true rfl, Nat.le_of_ble_eq_true rfl⟩) (eB.preV hE hI hS hz rfl hob) rfl rfl hl.1 rfl (lv_room (Nat.le_of_ble_eq_true rfl)) d_Ea_told_2 ⟨Nat.le_of_ble_eq_true rfl, Nat.le_of_ble_eq_true rfl⟩) hS (fun E9 ce9 q9 u9 H9 locs9 hpx9 hI9 hsz9 hS9 g1 g2 g3 => xc_out hnx hlocks g1 g2 g3 (⟨hpx9.1, hpx9.2.1, fun h => hpx9.2.2 h.1⟩) hI9 hS9 (Nat.le_of_ble_eq_true rfl) (Nat.le_of_ble_eq_true rfl)) (fun nd w_1 H locs ew_1 hI hsz hS => ?_)
  obtain ⟨ew_1, h1⟩ := ew_1
  have ew_1 := ew_1.symm
  subst ew_1
  obtain ⟨k, hk, ek, ht, end_⟩ := h1
  subst end_
  have hn := hp'.node hk ht
  obtain ⟨-, hal, -, -, -, -, -, -⟩ := hp'.2.2.2.1 k hk ht
  refine lv_astore_n (lv' := [(3, .ref (mAd ms k 0)), (0, .ref (mEo ms)), (1, .int n), (2, .int wh)]) hx hb d_Ea_told_5 rfl hl (by decide) rfl (fun ls hl => ?_)
  refine lv_iload_n hx hb d_Ea_told_6 rfl (lv_at hl 3 rfl) ?_
  refine lv_iconst (v := 0) hx hb d_Ea_told_7 (by decide) ?_
  refine lv_iconst (v := 4) hx hb d_Ea_told_8 (by decide) ?_
  refine xc_v (vx_runS (As := [.int wh, .int 0, .int 4]) (rest := []) ⟨hx, hb, hml, hown, hts⟩ (m_Ea_requireWithin l hlt G S0 w wh 0 4) (cwS 3 hts (gw_S k_373 k_374 k_60 k_375) rfl rfl rfl (by decide +kernel) ⟨Nat.le_of_ble_eq_true rfl, Nat.le_of_ble_eq_true rfl⟩) (eB.preS hE hI hS hz) rfl rfl hl.1 rfl (lv_room (Nat.le_of_ble_eq_true rfl)) d_Ea_told_9 ⟨Nat.le_of_ble_eq_true rfl, Nat.le_of_ble_eq_true rfl⟩) hS (fun E9 ce9 q9 u9 H9 locs9 hpx9 hI9 hsz9 hS9 g1 g2 g3 => xc_out hnx hlocks g1 g2 g3 (⟨hpx9.1, hpx9.2.1, fun h => hpx9.2.2 h.2⟩) hI9 hS9 (Nat.le_of_ble_eq_true rfl) (Nat.le_of_ble_eq_true rfl)) (fun w_2 H locs ew_2 hI hsz hS => ?_)
  obtain ⟨ew_2, h2⟩ := ew_2
  have ew_2 := ew_2.symm
  subst ew_2
  obtain ⟨j, hj, ej⟩ := nI_of2 (M := 4) (n := 4) (by decide) (Int32.not_lt.mpr h2.1) h2.2
  have hti : wh.toInt = (j : Int) := by rw [ej]; exact nI_toInt (by omega)
  refine lv_iload_n hx hb d_Ea_told_12 rfl (lv_at hl 3 rfl) ?_
  rcases (show j = 0 ∨ j = 1 ∨ j = 2 ∨ j = 3 ∨ j = 4 by omega) with h | h | h | h | h
  · refine lv_tableIn (tgt := 44) hx hb d_Ea_told_13 (by rw [hti]; omega) (by rw [hti]; omega) (off := 31) (by rw [hti, h]; rfl) (by decide) ?_
    refine lv_aload_n hx hb d_Ea_told_44 rfl (lv_at hl 0 rfl) ?_
    refine hp_getN (ci := 1) (v := .int (sNi d k 0)) (C := R_No) (T := F_No) (N := 20) hx hb hg i_No hown hK hI hn rfl 1 (by decide) (hE.N q_169) (fun _ h9 => h9) rfl d_Ea_told_45 ?_
    refine vx_ret ?_
    refine W.widen (k := 40) (n := 200) (Nat.le_of_ble_eq_true rfl) (Nat.le_of_ble_eq_true rfl) ?_
    exact W.iret (v := (sNi d k 0)) hx hb hr (fun t9 ht9 hW9 => ⟨⟨(sNi d k 0), w, rfl, ⟨rfl, k, j, hk, ek, ht, by omega, ej, by rw [h]; rfl⟩, eWo ht9 hI⟩, hS.F ht9⟩) hS.2.2 d_Ea_told_48
  · refine lv_tableIn (tgt := 49) hx hb d_Ea_told_13 (by rw [hti]; omega) (by rw [hti]; omega) (off := 36) (by rw [hti, h]; rfl) (by decide) ?_
    have htol : tolF d k j = (match sPa d k with | none => -1 | some g => nI g) := by rw [h]; rfl
    have hn' := hn
    unfold nC pAd at hn'
    rcases htr.up hk ht with ⟨-, ho, -⟩ | ⟨g, hg1, ho, hgt, -, -, hkg⟩
    · rw [ho] at hn' htol
      refine lv_aload_n hx hb d_Ea_told_49 rfl (lv_at hl 0 rfl) ?_
      refine hp_getN (ci := 1) (v := .null) (C := R_No) (T := F_No) (N := 20) hx hb hg i_No hown hK hI hn' rfl 6 (by decide) (hE.N q_178) (fun _ h9 => h9) rfl d_Ea_told_50 ?_
      refine lv_ifnonnullN hx hb d_Ea_told_53 ?_
      refine lv_iconst (v := (-1)) hx hb d_Ea_told_56 (by decide) ?_
      refine lv_goto (tgt := 67) hx hb d_Ea_told_57 (by decide) ?_
      refine vx_ret ?_
      refine W.widen (k := 40) (n := 200) (Nat.le_of_ble_eq_true rfl) (Nat.le_of_ble_eq_true rfl) ?_
      exact W.iret (v := (-1)) hx hb hr (fun t9 ht9 hW9 => ⟨⟨(-1), w, rfl, ⟨rfl, k, j, hk, ek, ht, by omega, ej, by rw [htol]⟩, eWo ht9 hI⟩, hS.F ht9⟩) hS.2.2 d_Ea_told_67
    · rw [ho] at hn' htol
      dsimp only [Option.map] at hn'
      have hng := hp'.node hg1 hgt
      refine lv_aload_n hx hb d_Ea_told_49 rfl (lv_at hl 0 rfl) ?_
      refine hp_getN (ci := 1) (v := .ref (mAd ms g 0)) (C := R_No) (T := F_No) (N := 20) hx hb hg i_No hown hK hI hn' rfl 6 (by decide) (hE.N q_178) (fun _ h9 => h9) rfl d_Ea_told_50 ?_
      refine lv_ifnonnull (tgt := 60) hx hb d_Ea_told_53 (by decide) ?_
      refine lv_aload_n hx hb d_Ea_told_60 rfl (lv_at hl 0 rfl) ?_
      refine hp_getN (ci := 1) (v := .ref (mAd ms g 0)) (C := R_No) (T := F_No) (N := 20) hx hb hg i_No hown hK hI hn' rfl 6 (by decide) (hE.N q_178) (fun _ h9 => h9) rfl d_Ea_told_61 ?_
      refine hp_getN (ci := 1) (v := .int (nI g)) (C := R_No) (T := F_No) (N := 20) hx hb hg i_No hown hK hI hng rfl 0 (by decide) (hE.N q_167) (fun _ h9 => h9) rfl d_Ea_told_64 ?_
      refine vx_ret ?_
      refine W.widen (k := 40) (n := 200) (Nat.le_of_ble_eq_true rfl) (Nat.le_of_ble_eq_true rfl) ?_
      exact W.iret (v := (nI g)) hx hb hr (fun t9 ht9 hW9 => ⟨⟨(nI g), w, rfl, ⟨rfl, k, j, hk, ek, ht, by omega, ej, by rw [htol]⟩, eWo ht9 hI⟩, hS.F ht9⟩) hS.2.2 d_Ea_told_67
  · refine lv_tableIn (tgt := 68) hx hb d_Ea_told_13 (by rw [hti]; omega) (by rw [hti]; omega) (off := 55) (by rw [hti, h]; rfl) (by decide) ?_
    refine lv_aload_n hx hb d_Ea_told_68 rfl (lv_at hl 0 rfl) ?_
    refine hp_getN (ci := 1) (v := .ref (mAd ms k 1)) (C := R_No) (T := F_No) (N := 20) hx hb hg i_No hown hK hI hn rfl 3 (by decide) (hE.N q_172) (fun _ h9 => h9) rfl d_Ea_told_69 ?_
    refine ec_i (va_runV (As := []) (rest := []) ⟨hx, hb, hml, hown, hts⟩ (m_Al_size l G S0 w (mAd ms k 1) (elA G ms k) (sCh d k).length hal) (cwV 0 hts (gw_V k_761 k_589 k_590 k_64 k_591) rfl rfl rfl (by decide +kernel) ⟨Nat.le_of_ble_eq_true rfl, Nat.le_of_ble_eq_true rfl⟩) (eB.preV hE hI hS hz rfl hal) rfl rfl hl.1 rfl (lv_room (Nat.le_of_ble_eq_true rfl)) d_Ea_told_72 ⟨Nat.le_of_ble_eq_true rfl, Nat.le_of_ble_eq_true rfl⟩) hS (fun sz w_5 H locs ew_5 hI hsz hS => ?_)
    obtain ⟨esz, ew_5⟩ := ew_5
    have ew_5 := ew_5.symm
    subst ew_5
    refine vx_ret ?_
    refine W.widen (k := 40) (n := 200) (Nat.le_of_ble_eq_true rfl) (Nat.le_of_ble_eq_true rfl) ?_
    exact W.iret (v := sz) hx hb hr (fun t9 ht9 hW9 => ⟨⟨sz, w, rfl, ⟨rfl, k, j, hk, ek, ht, by omega, ej, by rw [h, esz]; rfl⟩, eWo ht9 hI⟩, hS.F ht9⟩) hS.2.2 d_Ea_told_75
  · refine lv_tableIn (tgt := 76) hx hb d_Ea_told_13 (by rw [hti]; omega) (by rw [hti]; omega) (off := 63) (by rw [hti, h]; rfl) (by decide) ?_
    refine lv_aload_n hx hb d_Ea_told_76 rfl (lv_at hl 0 rfl) ?_
    refine ec_i (va_runVN (As := []) (rest := []) ⟨hx, hb, hml, hown, hts⟩ (m_No_rank l G S0 w ms d dp hp' htr k hk ht) ⟨va_cnB 0 hts (gw_code k_587) rfl rfl rfl (hE.Nw q_762) (hg _ k_61) (by decide +kernel) ⟨Nat.le_of_ble_eq_true rfl, Nat.le_of_ble_eq_true rfl⟩, hg _ k_586, hg _ k_20⟩ (eB.preV hE hI hS hz rfl hn) rfl rfl hl.1 rfl (lv_room (Nat.le_of_ble_eq_true rfl)) d_Ea_told_77 ⟨Nat.le_of_ble_eq_true rfl, Nat.le_of_ble_eq_true rfl⟩) hS (fun rk w_6 H locs ew_6 hI hsz hS => ?_)
    obtain ⟨erk, ew_6⟩ := ew_6
    have ew_6 := ew_6.symm
    subst ew_6
    refine vx_ret ?_
    refine W.widen (k := 40) (n := 200) (Nat.le_of_ble_eq_true rfl) (Nat.le_of_ble_eq_true rfl) ?_
    exact W.iret (v := rk) hx hb hr (fun t9 ht9 hW9 => ⟨⟨rk, w, rfl, ⟨rfl, k, j, hk, ek, ht, by omega, ej, by rw [h, erk]; rfl⟩, eWo ht9 hI⟩, hS.F ht9⟩) hS.2.2 d_Ea_told_80
  · refine lv_tableOut (tgt := 81) hx hb d_Ea_told_13 (Or.inr (by rw [hti]; omega)) (by decide) ?_
    refine lv_aload_n hx hb d_Ea_told_81 rfl (lv_at hl 0 rfl) ?_
    refine ec_i (va_runVN (As := []) (rest := []) ⟨hx, hb, hml, hown, hts⟩ (m_No_frames l G S0 w ms d hp' k hk ht) ⟨va_cnB 0 hts (gw_code k_271) rfl rfl rfl (hE.Nw q_268) (hg _ k_61) (by decide +kernel) ⟨Nat.le_of_ble_eq_true rfl, Nat.le_of_ble_eq_true rfl⟩, hg _ k_270, hg _ k_2⟩ (eB.preV hE hI hS hz rfl hn) rfl rfl hl.1 rfl (lv_room (Nat.le_of_ble_eq_true rfl)) d_Ea_told_82 ⟨Nat.le_of_ble_eq_true rfl, Nat.le_of_ble_eq_true rfl⟩) hS (fun fr w_7 H locs ew_7 hI hsz hS => ?_)
    obtain ⟨efr, ew_7⟩ := ew_7
    have ew_7 := ew_7.symm
    subst ew_7
    refine vx_ret ?_
    refine W.widen (k := 40) (n := 200) (Nat.le_of_ble_eq_true rfl) (Nat.le_of_ble_eq_true rfl) ?_
    exact W.iret (v := fr) hx hb hr (fun t9 ht9 hW9 => ⟨⟨fr, w, rfl, ⟨rfl, k, j, hk, ek, ht, by omega, ej, by rw [h, efr]; rfl⟩, eWo ht9 hI⟩, hS.F ht9⟩) hS.2.2 d_Ea_told_85
noncomputable def cntF (d : DS) (dp : Nat → Nat) (wh : Int32) : Int32 := if wh = nI 0 then nI (nTh d 14) else if wh = nI 1 then nI (fTh d 14) else if wh = nI 2 then sPt d else if wh = nI 3 then nI (mxD d dp 0 14) else -1
set_option maxHeartbeats 4000000 in
set_option maxRecDepth 100000 in
theorem m_Ea_count (l : Launch) (G : EG) (S0 : Nat) (w : hp_M) (ms : MS) (d : DS) (hp' : ePic G ms d w) (hno : nOk ms d) (dp : Nat → Nat) (htr : tOk d dp) (wh : Int32) : Met l y_Ea_count w_Ea_count (rl 22 40 200) (eP G S0 w [.ref (mEo ms), .int wh]) (va_Qi (fun r z => z = w ∧ r = cntF d dp wh) (eW G S0) (hp_A S0)) 40 200 (hp_A S0) := by
  refine Met.ofW (cc := b_Ea_count) (maxL := 2) (ret := (some .int)) (by decide) rfl ?_
  intro p e s m args below meth c s₁ B hml hv
  obtain ⟨rfl, hE, hI, hz⟩ := hv
  have hx := B.exec
  have hb := B.bytes
  have hr := B.returns
  have hts := atoms_spec (ws := w_Ea_count) B.pre
  have hg : ∀ w ∈ gw, w.before _ s = true := fun w h => hts w (List.mem_cons_of_mem _ h)
  have hown : s.vm.findClass "SceneEasel" = some m.cls := findClass_of_methodNamed B.named
  have hlocks := B.notSynchronized
  have hK := hE.K
  have hS : va_S (hp_A S0) s.heap s.heap [] := va_S.rf
  have hl := lv_entry ([.ref (mEo ms), .int wh]) (n := 2) (Nat.le_of_ble_eq_true rfl)
  rw [lg_entry_eq]
  generalize (lg_sl ([.ref (mEo ms), .int wh]) ++ List.replicate (2 - (lg_sl ([.ref (mEo ms), .int wh])).length) Slot.unset).toArray = ls at hl ⊢
  have hl : lv_has ls 2 [(0, .ref (mEo ms)), (1, .int wh)] := hl
  have hob := hp'.1
  refine lv_iload_n hx hb d_Ea_count_0 rfl (lv_at hl 1 rfl) ?_
  have hin : ∀ j : Nat, j < 4 → (wh = nI j ↔ wh.toInt = (j : Int)) := fun j hj => ⟨fun h => by rw [h]; exact nI_toInt (by omega), fun h => Int32.toInt.inj (by rw [h]; exact (nI_toInt (by omega)).symm)⟩
  by_cases h0 : wh = nI 0
  · refine lv_tableIn (tgt := 32) hx hb d_Ea_count_1 (by rw [(hin 0 (by decide)).mp h0]; decide) (by rw [(hin 0 (by decide)).mp h0]; decide) (off := 31) (by rw [(hin 0 (by decide)).mp h0]; rfl) (by decide) ?_
    refine lv_aload_n hx hb d_Ea_count_32 rfl (lv_at hl 0 rfl) ?_
    refine ec_i (va_runV (As := []) (rest := []) ⟨hx, hb, hml, hown, hts⟩ (m_Ea_nodesThere l G S0 w ms d hp' hno) (cwV 0 hts (gw_V k_260 k_262 k_0 k_60 k_263) rfl rfl rfl (by decide +kernel) ⟨Nat.le_of_ble_eq_true rfl, Nat.le_of_ble_eq_true rfl⟩) (eB.preV hE hI hS hz rfl hob) rfl rfl hl.1 rfl (lv_room (Nat.le_of_ble_eq_true rfl)) d_Ea_count_33 ⟨Nat.le_of_ble_eq_true rfl, Nat.le_of_ble_eq_true rfl⟩) hS (fun rr w_1 H locs ew_1 hI hsz hS => ?_)
    obtain ⟨err, ew_1⟩ := ew_1
    have ew_1 := ew_1.symm
    subst ew_1
    refine W.widen (k := 40) (n := 200) (Nat.le_of_ble_eq_true rfl) (Nat.le_of_ble_eq_true rfl) ?_
    exact W.iret (v := rr) hx hb hr (fun t9 ht9 hW9 => ⟨⟨rr, w, rfl, ⟨rfl, by rw [err, h0]; rfl⟩, eWo ht9 hI⟩, hS.F ht9⟩) hS.2.2 d_Ea_count_36
  · by_cases h1 : wh = nI 1
    · refine lv_tableIn (tgt := 37) hx hb d_Ea_count_1 (by rw [(hin 1 (by decide)).mp h1]; decide) (by rw [(hin 1 (by decide)).mp h1]; decide) (off := 36) (by rw [(hin 1 (by decide)).mp h1]; rfl) (by decide) ?_
      refine lv_aload_n hx hb d_Ea_count_37 rfl (lv_at hl 0 rfl) ?_
      refine ec_i (va_runV (As := []) (rest := []) ⟨hx, hb, hml, hown, hts⟩ (m_Ea_framesThere l G S0 w ms d hp' hno) (cwV 0 hts (gw_V k_264 k_266 k_1 k_60 k_267) rfl rfl rfl (by decide +kernel) ⟨Nat.le_of_ble_eq_true rfl, Nat.le_of_ble_eq_true rfl⟩) (eB.preV hE hI hS hz rfl hob) rfl rfl hl.1 rfl (lv_room (Nat.le_of_ble_eq_true rfl)) d_Ea_count_38 ⟨Nat.le_of_ble_eq_true rfl, Nat.le_of_ble_eq_true rfl⟩) hS (fun rr w_2 H locs ew_2 hI hsz hS => ?_)
      obtain ⟨err, ew_2⟩ := ew_2
      have ew_2 := ew_2.symm
      subst ew_2
      refine W.widen (k := 40) (n := 200) (Nat.le_of_ble_eq_true rfl) (Nat.le_of_ble_eq_true rfl) ?_
      exact W.iret (v := rr) hx hb hr (fun t9 ht9 hW9 => ⟨⟨rr, w, rfl, ⟨rfl, by rw [err, h1]; rfl⟩, eWo ht9 hI⟩, hS.F ht9⟩) hS.2.2 d_Ea_count_41
    · by_cases h2 : wh = nI 2
      · refine lv_tableIn (tgt := 42) hx hb d_Ea_count_1 (by rw [(hin 2 (by decide)).mp h2]; decide) (by rw [(hin 2 (by decide)).mp h2]; decide) (off := 41) (by rw [(hin 2 (by decide)).mp h2]; rfl) (by decide) ?_
        refine lv_aload_n hx hb d_Ea_count_42 rfl (lv_at hl 0 rfl) ?_
        refine hp_get (ci := 3) (v := .int (sPt d)) (C := R_Ea) (T := F_Ea) (N := 4) hx hb hg i_Ea hown hK hI hob rfl 3 (by decide) (hg _ k_246) (fun _ h9 => h9) rfl d_Ea_count_43 ?_
        refine W.widen (k := 40) (n := 200) (Nat.le_of_ble_eq_true rfl) (Nat.le_of_ble_eq_true rfl) ?_
        exact W.iret (v := (sPt d)) hx hb hr (fun t9 ht9 hW9 => ⟨⟨(sPt d), w, rfl, ⟨rfl, by rw [h2]; rfl⟩, eWo ht9 hI⟩, hS.F ht9⟩) hS.2.2 d_Ea_count_46
      · by_cases h3 : wh = nI 3
        · refine lv_tableIn (tgt := 47) hx hb d_Ea_count_1 (by rw [(hin 3 (by decide)).mp h3]; decide) (by rw [(hin 3 (by decide)).mp h3]; decide) (off := 46) (by rw [(hin 3 (by decide)).mp h3]; rfl) (by decide) ?_
          refine lv_aload_n hx hb d_Ea_count_47 rfl (lv_at hl 0 rfl) ?_
          refine lv_aload_n hx hb d_Ea_count_48 rfl (lv_at hl 0 rfl) ?_
          refine hp_get (ci := 3) (v := .ref (mAd ms 0 0)) (C := R_Ea) (T := F_Ea) (N := 4) hx hb hg i_Ea hown hK hI hob rfl 0 (by decide) (hg _ k_243) (fun _ h9 => h9) rfl d_Ea_count_49 ?_
          refine ec_i (va_runV (As := [.ref (mAd ms 0 0)]) (rest := []) ⟨hx, hb, hml, hown, hts⟩ (m_Ea_deepestIn l G S0 w ms d dp hp' hno htr 0 (by decide) htr.1) (cwV 1 hts (gw_V k_272 k_274 k_3 k_60 k_275) rfl rfl rfl (by decide +kernel) ⟨Nat.le_of_ble_eq_true rfl, Nat.le_of_ble_eq_true rfl⟩) (eB.preV hE hI hS hz rfl hob) rfl rfl hl.1 rfl (lv_room (Nat.le_of_ble_eq_true rfl)) d_Ea_count_52 ⟨Nat.le_of_ble_eq_true rfl, Nat.le_of_ble_eq_true rfl⟩) hS (fun rr w_3 H locs ew_3 hI hsz hS => ?_)
          obtain ⟨err, ew_3⟩ := ew_3
          have ew_3 := ew_3.symm
          subst ew_3
          refine W.widen (k := 40) (n := 200) (Nat.le_of_ble_eq_true rfl) (Nat.le_of_ble_eq_true rfl) ?_
          exact W.iret (v := rr) hx hb hr (fun t9 ht9 hW9 => ⟨⟨rr, w, rfl, ⟨rfl, by rw [err, h3]; rfl⟩, eWo ht9 hI⟩, hS.F ht9⟩) hS.2.2 d_Ea_count_55
        · refine lv_tableOut (tgt := 56) hx hb d_Ea_count_1 ?_ (by decide) ?_
          · rcases Int.lt_or_le wh.toInt 0 with q | q
            · exact Or.inl q
            · refine Or.inr ?_
              have a0 : ¬ wh.toInt = ((0 : Nat) : Int) := fun e => h0 ((hin 0 (by decide)).mpr e)
              have a1 : ¬ wh.toInt = ((1 : Nat) : Int) := fun e => h1 ((hin 1 (by decide)).mpr e)
              have a2 : ¬ wh.toInt = ((2 : Nat) : Int) := fun e => h2 ((hin 2 (by decide)).mpr e)
              have a3 : ¬ wh.toInt = ((3 : Nat) : Int) := fun e => h3 ((hin 3 (by decide)).mpr e)
              omega
          refine lv_iconst (v := (-1)) hx hb d_Ea_count_56 (by decide) ?_
          refine W.widen (k := 40) (n := 200) (Nat.le_of_ble_eq_true rfl) (Nat.le_of_ble_eq_true rfl) ?_
          exact W.iret (v := (-1)) hx hb hr (fun t9 ht9 hW9 => ⟨⟨(-1), w, rfl, ⟨rfl, by unfold cntF; rw [if_neg h0, if_neg h1, if_neg h2, if_neg h3]⟩, eWo ht9 hI⟩, hS.F ht9⟩) hS.2.2 d_Ea_count_57

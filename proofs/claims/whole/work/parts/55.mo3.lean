/-! the model: what sets a row -/
theorem i32_lt {t : Int32} (a b : Int32) (h : a.toInt = b.toInt + 1) : t < a ↔ t ≤ b := by
  rw [Int32.lt_iff_toInt_lt, Int32.le_iff_toInt_le]; omega
theorem i32_gt {t : Int32} (a b : Int32) (h : b.toInt = a.toInt + 1) : a < t ↔ b ≤ t := by
  rw [Int32.lt_iff_toInt_lt, Int32.le_iff_toInt_le]; omega
theorem bI_nar (b : Bool) : narrow .boolean (.int (bI b)) = .int (bI b) := by cases b <;> rfl
theorem bI_01 (b : Bool) : bI b = 0 ∨ bI b = 1 := by cases b <;> decide
def mFit (i : Nat) (v : UInt64) : Prop := (i < 2 ∧ dIn v cm100 c100 = true) ∨ (2 ≤ i ∧ FP.dcmp v (fx_mfl v) = some .eq ∧ (i = 2 → dIn v cm2 c2 = true) ∧ (i = 3 → dIn v FP.dconst1 c15 = true))
set_option maxHeartbeats 4000000 in
set_option maxRecDepth 100000 in
theorem m_Mo_fits (l : Launch) (G : EG) (S0 : Nat) (w : hp_M) (i : Nat) (hi : i < 4) (v : UInt64) : Met l y_Mo_fits w_Mo_fits (rl 1 0 0) (eP G S0 w [.int (nI i), .double v]) (va_Qi (fun r z => z = w ∧ ∃ b, r = bI b ∧ (b = true ↔ mFit i v)) (eW G S0) (hp_A S0)) 0 0 (hp_A S0) := by
  refine Met.ofW (cc := b_Mo_fits) (maxL := 3) (ret := (some .boolean)) (by decide) rfl ?_
  intro p e s m args below meth c s₁ B hml hv
  obtain ⟨rfl, hE, hI, hz⟩ := hv
  have hx := B.exec
  have hb := B.bytes
  have hr := B.returns
  have hts := atoms_spec (ws := w_Mo_fits) B.pre
  have hg : ∀ w ∈ gw, w.before _ s = true := fun w h => hts w (List.mem_cons_of_mem _ h)
  have hown : s.vm.findClass "SceneEaselModel" = some m.cls := findClass_of_methodNamed B.named
  have hlocks := B.notSynchronized
  have hK := hE.K
  have hS : va_S (hp_A S0) s.heap s.heap [] := va_S.rf
  have hl := lv_entry ([.int (nI i), .double v]) (n := 3) (Nat.le_of_ble_eq_true rfl)
  rw [lg_entry_eq]
  generalize (lg_sl ([.int (nI i), .double v]) ++ List.replicate (3 - (lg_sl ([.int (nI i), .double v])).length) Slot.unset).toArray = ls at hl ⊢
  have hl : lv_has ls 3 [(0, .int (nI i)), (1, .double v)] := hl
  refine lv_iload_n hx hb d_Mo_fits_0 rfl (lv_at hl 0 rfl) ?_
  refine lv_iconst (v := 2) hx hb d_Mo_fits_1 (by decide) ?_
  refine mv_cge (tgt := 16) hx hb i 2 rfl rfl (by omega) (by omega) d_Mo_fits_2 (by decide) (fun c1 => ?_) (fun c1 => ?_)
  · refine lv_dload_n hx hb d_Mo_fits_16 rfl (lv_at hl 1 rfl) ?_
    refine lv_dload_n hx hb d_Mo_fits_17 rfl (lv_at hl 1 rfl) ?_
    refine ec_d (va_runS (As := [.double v]) (rest := [.double v]) ⟨hx, hb, hml, hown, hts⟩ (m_Mo_floor l G S0 w v) (cwS 1 hts (gw_S k_922 k_923 k_67 k_924) rfl rfl rfl (by decide +kernel) ⟨Nat.le_of_ble_eq_true rfl, Nat.le_of_ble_eq_true rfl⟩) (eB.preS hE hI hS hz) rfl rfl hl.1 rfl (lv_room (Nat.le_of_ble_eq_true rfl)) d_Mo_fits_18 ⟨Nat.le_of_ble_eq_true rfl, Nat.le_of_ble_eq_true rfl⟩) hS (fun fl w_1 H locs ew_1 hI hsz hS => ?_)
    obtain ⟨efl, ew_1⟩ := ew_1
    have ew_1 := ew_1.symm
    subst ew_1
    subst efl
    refine lv_dcmp hx hb d_Mo_fits_21 ?_
    refine lv_if_eq (tgt := 27) hx hb d_Mo_fits_22 (by decide) (fun k2 => ?_) (fun k2 => ?_)
    · have c2' := cv_l_eq.mp k2
      refine lv_iload_n hx hb d_Mo_fits_27 rfl (lv_at hl 0 rfl) ?_
      refine lv_iconst (v := 2) hx hb d_Mo_fits_28 (by decide) ?_
      refine mv_cne (tgt := 45) hx hb i 2 rfl rfl (by omega) (by omega) d_Mo_fits_29 (by decide) (fun c3 => ?_) (fun c3 => ?_)
      · refine lv_dload_n hx hb d_Mo_fits_45 rfl (lv_at hl 1 rfl) ?_
        refine lv_dconst1 hx hb d_Mo_fits_46 ?_
        refine lv_ldc2d (v := 4624633867356078080) hx hb hown (hg _ k_927) d_Mo_fits_47 ?_
        refine ec_i (va_runS (As := [.double v, .double FP.dconst1, .double 4624633867356078080]) (rest := []) ⟨hx, hb, hml, hown, hts⟩ (m_Mo_in l G S0 w v FP.dconst1 c15) (cwS 3 hts (gw_S k_889 k_890 k_67 k_891) rfl rfl rfl (by decide +kernel) ⟨Nat.le_of_ble_eq_true rfl, Nat.le_of_ble_eq_true rfl⟩) (eB.preS hE hI hS hz) rfl rfl hl.1 rfl (lv_room (Nat.le_of_ble_eq_true rfl)) d_Mo_fits_50 ⟨Nat.le_of_ble_eq_true rfl, Nat.le_of_ble_eq_true rfl⟩) hS (fun q1 w_2 H locs ew_2 hI hsz hS => ?_)
        obtain ⟨eq1, ew_2⟩ := ew_2
        have ew_2 := ew_2.symm
        subst ew_2
        subst eq1
        exact W.zret (v := (bI (dIn v FP.dconst1 c15))) hx hb hr (bI_nar _) (fun t9 ht9 hW9 => ⟨⟨(bI (dIn v FP.dconst1 c15)), w, rfl, ⟨rfl, dIn v FP.dconst1 c15, rfl, ⟨fun h => Or.inr ⟨c1, c2', fun e => absurd e c3, fun _ => h⟩, fun h => h.elim (fun h => by omega) (fun h => h.2.2.2 (by omega))⟩⟩, eWo ht9 hI⟩, hS.F ht9⟩) hS.2.2 d_Mo_fits_53
      · refine lv_dload_n hx hb d_Mo_fits_32 rfl (lv_at hl 1 rfl) ?_
        refine lv_ldc2d (v := 13835058055282163712) hx hb hown (hg _ k_925) d_Mo_fits_33 ?_
        refine lv_ldc2d (v := 4611686018427387904) hx hb hown (hg _ k_926) d_Mo_fits_36 ?_
        refine ec_i (va_runS (As := [.double v, .double 13835058055282163712, .double 4611686018427387904]) (rest := []) ⟨hx, hb, hml, hown, hts⟩ (m_Mo_in l G S0 w v cm2 c2) (cwS 3 hts (gw_S k_889 k_890 k_67 k_891) rfl rfl rfl (by decide +kernel) ⟨Nat.le_of_ble_eq_true rfl, Nat.le_of_ble_eq_true rfl⟩) (eB.preS hE hI hS hz) rfl rfl hl.1 rfl (lv_room (Nat.le_of_ble_eq_true rfl)) d_Mo_fits_39 ⟨Nat.le_of_ble_eq_true rfl, Nat.le_of_ble_eq_true rfl⟩) hS (fun q1 w_3 H locs ew_3 hI hsz hS => ?_)
        obtain ⟨eq1, ew_3⟩ := ew_3
        have ew_3 := ew_3.symm
        subst ew_3
        subst eq1
        refine lv_goto (tgt := 53) hx hb d_Mo_fits_42 (by decide) ?_
        exact W.zret (v := (bI (dIn v cm2 c2))) hx hb hr (bI_nar _) (fun t9 ht9 hW9 => ⟨⟨(bI (dIn v cm2 c2)), w, rfl, ⟨rfl, dIn v cm2 c2, rfl, ⟨fun h => Or.inr ⟨c1, c2', fun _ => h, fun e => by omega⟩, fun h => h.elim (fun h => by omega) (fun h => h.2.2.1 c3)⟩⟩, eWo ht9 hI⟩, hS.F ht9⟩) hS.2.2 d_Mo_fits_53
    · refine lv_iconst (v := 0) hx hb d_Mo_fits_25 (by decide) ?_
      exact W.zret (v := 0) hx hb hr rfl (fun t9 ht9 hW9 => ⟨⟨0, w, rfl, ⟨rfl, false, rfl, ⟨fun h => (by cases h), fun h => h.elim (fun h => by omega) (fun h => absurd (cv_l_eq.mpr h.2.1) k2)⟩⟩, eWo ht9 hI⟩, hS.F ht9⟩) hS.2.2 d_Mo_fits_26
  · refine lv_dload_n hx hb d_Mo_fits_5 rfl (lv_at hl 1 rfl) ?_
    refine lv_ldc2d (v := 13860109328209412096) hx hb hown (hg _ k_900) d_Mo_fits_6 ?_
    refine lv_ldc2d (v := 4636737291354636288) hx hb hown (hg _ k_888) d_Mo_fits_9 ?_
    refine ec_i (va_runS (As := [.double v, .double 13860109328209412096, .double 4636737291354636288]) (rest := []) ⟨hx, hb, hml, hown, hts⟩ (m_Mo_in l G S0 w v cm100 c100) (cwS 3 hts (gw_S k_889 k_890 k_67 k_891) rfl rfl rfl (by decide +kernel) ⟨Nat.le_of_ble_eq_true rfl, Nat.le_of_ble_eq_true rfl⟩) (eB.preS hE hI hS hz) rfl rfl hl.1 rfl (lv_room (Nat.le_of_ble_eq_true rfl)) d_Mo_fits_12 ⟨Nat.le_of_ble_eq_true rfl, Nat.le_of_ble_eq_true rfl⟩) hS (fun q1 w_4 H locs ew_4 hI hsz hS => ?_)
    obtain ⟨eq1, ew_4⟩ := ew_4
    have ew_4 := ew_4.symm
    subst ew_4
    subst eq1
    exact W.zret (v := (bI (dIn v cm100 c100))) hx hb hr (bI_nar _) (fun t9 ht9 hW9 => ⟨⟨(bI (dIn v cm100 c100)), w, rfl, ⟨rfl, dIn v cm100 c100, rfl, ⟨fun h => Or.inl ⟨c1, h⟩, fun h => h.elim (fun h => h.2) (fun h => by omega)⟩⟩, eWo ht9 hI⟩, hS.F ht9⟩) hS.2.2 d_Mo_fits_15
set_option maxHeartbeats 4000000 in
set_option maxRecDepth 100000 in
theorem m_Mo_hide (l : Launch) (G : EG) (S0 : Nat) (Q : Nat → Nat) (hQ : qInj Q) (X : XS) (w0 : hp_M) (d : DS) (hM : mN X d) (n : Int32) (on : Bool) : Met l y_Mo_hide w_Mo_hide (rl 2 0 0) (eP G S0 (mW G Q X w0) [.ref (Q 25), .int n, .int (bI on)]) (va_Qv (fun z => (¬ (isN d n ∧ n ≠ 0) ∧ z = mW G Q (xsT X 1) w0) ∨ ∃ k, k < 14 ∧ n = nI k ∧ sTh d k = true ∧ (isN d n ∧ n ≠ 0) ∧ z = mW G Q (xsI (xsT X 0) 1 (upd (X.1 1) k (bI on))) w0) (eW G S0) (hp_A S0)) 0 0 (hp_A S0) := by
  refine Met.ofW (cc := b_Mo_hide) (maxL := 3) (ret := none) (by decide) rfl ?_
  intro p e s m args below meth c s₁ B hml hv
  obtain ⟨rfl, hE, hI, hz⟩ := hv
  have hx := B.exec
  have hb := B.bytes
  have hr := B.returns
  have hts := atoms_spec (ws := w_Mo_hide) B.pre
  have hg : ∀ w ∈ gw, w.before _ s = true := fun w h => hts w (List.mem_cons_of_mem _ h)
  have hown : s.vm.findClass "SceneEaselModel" = some m.cls := findClass_of_methodNamed B.named
  have hlocks := B.notSynchronized
  have hK := hE.K
  have hS : va_S (hp_A S0) s.heap s.heap [] := va_S.rf
  have hl := lv_entry ([.ref (Q 25), .int n, .int (bI on)]) (n := 3) (Nat.le_of_ble_eq_true rfl)
  rw [lg_entry_eq]
  generalize (lg_sl ([.ref (Q 25), .int n, .int (bI on)]) ++ List.replicate (3 - (lg_sl ([.ref (Q 25), .int n, .int (bI on)])).length) Slot.unset).toArray = ls at hl ⊢
  have hl : lv_has ls 3 [(0, .ref (Q 25)), (1, .int n), (2, .int (bI on))] := hl
  refine lv_aload_n hx hb d_Mo_hide_0 rfl (lv_at hl 0 rfl) ?_
  refine lv_aload_n hx hb d_Mo_hide_1 rfl (lv_at hl 0 rfl) ?_
  refine lv_iload_n hx hb d_Mo_hide_2 rfl (lv_at hl 1 rfl) ?_
  refine ec_i (va_runV (As := [.int n]) (rest := [.ref (Q 25)]) ⟨hx, hb, hml, hown, hts⟩ (m_Mo_isOther l G S0 Q hQ X w0 d hM n) (cwV 1 hts (gw_V k_896 k_898 k_47 k_67 k_899) rfl rfl rfl (by decide +kernel) ⟨Nat.le_of_ble_eq_true rfl, Nat.le_of_ble_eq_true rfl⟩) (eB.preV hE hI hS hz rfl (mw_o hQ)) rfl rfl hl.1 rfl (lv_room (Nat.le_of_ble_eq_true rfl)) d_Mo_hide_3 ⟨Nat.le_of_ble_eq_true rfl, Nat.le_of_ble_eq_true rfl⟩) hS (fun r_2 w_1 H locs ew_1 hI hsz hS => ?_)
  obtain ⟨ew_1, h1⟩ := ew_1
  have ew_1 := ew_1.symm
  subst ew_1
  obtain ⟨b, eb, h1⟩ := h1
  subst eb
  refine ec_i (va_runV (As := [.int (bI b)]) (rest := []) ⟨hx, hb, hml, hown, hts⟩ (m_Mo_bad l G S0 Q hQ X w0 b) (cwV 1 hts (gw_V k_875 k_877 k_45 k_67 k_878) rfl rfl rfl (by decide +kernel) ⟨Nat.le_of_ble_eq_true rfl, Nat.le_of_ble_eq_true rfl⟩) (eB.preV hE hI hS hz rfl (mw_o hQ)) rfl rfl hl.1 rfl (lv_room (Nat.le_of_ble_eq_true rfl)) d_Mo_hide_6 ⟨Nat.le_of_ble_eq_true rfl, Nat.le_of_ble_eq_true rfl⟩) hS (fun rb w_3 H locs ew_3 hI hsz hS => ?_)
  obtain ⟨erb, ew_3⟩ := ew_3
  subst ew_3
  subst erb
  refine mv_zeq (tgt := 13) hx hb (!b) rfl d_Mo_hide_9 (by decide) (fun cb => ?_) (fun cb => ?_)
  · have hbt : b = true := by cases b with | true => rfl | false => cases cb
    obtain ⟨⟨k, hk, ek, ht⟩, hn0⟩ := h1.mp hbt
    refine lv_aload_n hx hb d_Mo_hide_13 rfl (lv_at hl 0 rfl) ?_
    refine hp_get (ci := 5) (v := .ref (Q 1)) (C := R_Mo) (T := F_Mo) (N := 28) hx hb hg i_Mo hown hK hI (mw_o hQ) rfl 1 (by decide) (hg _ k_774) (fun _ h9 => h9) rfl d_Mo_hide_14 ?_
    refine lv_iload_n hx hb d_Mo_hide_17 rfl (lv_at hl 1 rfl) ?_
    refine lv_iload_n hx hb d_Mo_hide_18 rfl (lv_at hl 2 rfl) ?_
    refine mv_zast hx hb hK hI hS 2 (X.1 1) (mw_1 hQ) rfl k (bI_01 on) (fun f9 => mW G Q (xsI (xsT X (bI (!b))) 1 f9) w0) (fun _ => mws_1 hQ) (ek) (by omega) (by decide) d_Mo_hide_19 (fun H locs f_1 ef_1 hI hS hsz => ?_)
    try dsimp only at hI
    exact W.vret hx hb hr (fun t9 ht9 hW9 => ⟨⟨(mW G Q (xsI (xsT X (bI (!b))) 1 f_1) w0), rfl, Or.inr ⟨k, hk, ek, ht, h1.mp hbt, by rw [ef_1, hbt]; rfl⟩, eWo ht9 hI⟩, hS.F ht9⟩) hS.2.2 d_Mo_hide_20
  · have hbt : b = false := by cases b with | true => cases cb | false => rfl
    exact W.vret hx hb hr (fun t9 ht9 hW9 => ⟨⟨(mW G Q (xsT X (bI (!b))) w0), rfl, Or.inl ⟨fun h => (by rw [h1.mpr h] at hbt; cases hbt), by rw [hbt]; rfl⟩, eWo ht9 hI⟩, hS.F ht9⟩) hS.2.2 d_Mo_hide_12
set_option maxHeartbeats 4000000 in
set_option maxRecDepth 100000 in
theorem m_Mo_lay (l : Launch) (G : EG) (S0 : Nat) (Q : Nat → Nat) (hQ : qInj Q) (X : XS) (w0 : hp_M) (d : DS) (hM : mN X d) (n t st : Int32) : Met l y_Mo_lay w_Mo_lay (rl 2 0 0) (eP G S0 (mW G Q X w0) [.ref (Q 25), .int n, .int t, .int st]) (va_Qv (fun z => (¬ ((isN d n ∧ n ≠ 0) ∧ (0 ≤ t ∧ t ≤ 3) ∧ (-2 ≤ st ∧ st ≤ 2)) ∧ z = mW G Q (xsT X 1) w0) ∨ ∃ k, k < 14 ∧ n = nI k ∧ sTh d k = true ∧ ((isN d n ∧ n ≠ 0) ∧ (0 ≤ t ∧ t ≤ 3) ∧ (-2 ≤ st ∧ st ≤ 2)) ∧ z = mW G Q (xsD (xsI (xsT X 0) 9 (upd (X.1 9) k t)) 17 (vf_upd (X.2.1 17) (k * 4 + 2) (FP.i2d st))) w0) (eW G S0) (hp_A S0)) 0 0 (hp_A S0) := by
  refine Met.ofW (cc := b_Mo_lay) (maxL := 4) (ret := none) (by decide) rfl ?_
  intro p e s m args below meth c s₁ B hml hv
  obtain ⟨rfl, hE, hI, hz⟩ := hv
  have hx := B.exec
  have hb := B.bytes
  have hr := B.returns
  have hts := atoms_spec (ws := w_Mo_lay) B.pre
  have hg : ∀ w ∈ gw, w.before _ s = true := fun w h => hts w (List.mem_cons_of_mem _ h)
  have hown : s.vm.findClass "SceneEaselModel" = some m.cls := findClass_of_methodNamed B.named
  have hlocks := B.notSynchronized
  have hK := hE.K
  have hS : va_S (hp_A S0) s.heap s.heap [] := va_S.rf
  have hl := lv_entry ([.ref (Q 25), .int n, .int t, .int st]) (n := 4) (Nat.le_of_ble_eq_true rfl)
  rw [lg_entry_eq]
  generalize (lg_sl ([.ref (Q 25), .int n, .int t, .int st]) ++ List.replicate (4 - (lg_sl ([.ref (Q 25), .int n, .int t, .int st])).length) Slot.unset).toArray = ls at hl ⊢
  have hl : lv_has ls 4 [(0, .ref (Q 25)), (1, .int n), (2, .int t), (3, .int st)] := hl
  refine lv_aload_n hx hb d_Mo_lay_0 rfl (lv_at hl 0 rfl) ?_
  refine lv_aload_n hx hb d_Mo_lay_1 rfl (lv_at hl 0 rfl) ?_
  refine lv_iload_n hx hb d_Mo_lay_2 rfl (lv_at hl 1 rfl) ?_
  refine W.midw (G := G) (S0 := S0) (fun (b : Bool) => b = true ↔ (isN d n ∧ n ≠ 0) ∧ (0 ≤ t ∧ t ≤ 3) ∧ (-2 ≤ st ∧ st ≤ 2)) (fun (b : Bool) => (mW G Q X w0)) (fun (b : Bool) => [(0, .ref (Q 25)), (1, .int n), (2, .int t), (3, .int st)]) (fun (b : Bool) => 0) (fun (b : Bool) => 0) 4 34 (fun (b : Bool) => [.int (bI b), .ref (Q 25)]) ?_ (fun K => ?_)
  · rintro b ls H locs hP hl hI hS
    try dsimp only at hP hl hI ⊢
    refine ec_i (va_runV (As := [.int (bI b)]) (rest := []) ⟨hx, hb, hml, hown, hts⟩ (m_Mo_bad l G S0 Q hQ X w0 b) (cwV 1 hts (gw_V k_875 k_877 k_45 k_67 k_878) rfl rfl rfl (by decide +kernel) ⟨Nat.le_of_ble_eq_true rfl, Nat.le_of_ble_eq_true rfl⟩) (eB.preV hE hI hS hz rfl (mw_o hQ)) rfl rfl hl.1 rfl (lv_room (Nat.le_of_ble_eq_true rfl)) d_Mo_lay_34 ⟨Nat.le_of_ble_eq_true rfl, Nat.le_of_ble_eq_true rfl⟩) hS (fun rb w_1 H locs ew_1 hI hsz hS => ?_)
    obtain ⟨erb, ew_1⟩ := ew_1
    subst ew_1
    subst erb
    refine mv_zeq (tgt := 41) hx hb (!b) rfl d_Mo_lay_37 (by decide) (fun cb => ?_) (fun cb => ?_)
    · have hbt : b = true := by cases b with | true => rfl | false => cases cb
      obtain ⟨⟨⟨k, hk, ek, ht⟩, hn0⟩, -⟩ := hP.mp hbt
      subst ek
      refine lv_aload_n hx hb d_Mo_lay_41 rfl (lv_at hl 0 rfl) ?_
      refine hp_get (ci := 5) (v := .ref (Q 9)) (C := R_Mo) (T := F_Mo) (N := 28) hx hb hg i_Mo hown hK hI (mw_o hQ) rfl 9 (by decide) (hg _ k_782) (fun _ h9 => h9) rfl d_Mo_lay_42 ?_
      refine lv_iload_n hx hb d_Mo_lay_45 rfl (lv_at hl 1 rfl) ?_
      refine lv_iload_n hx hb d_Mo_lay_46 rfl (lv_at hl 2 rfl) ?_
      refine mv_iast hx hb hK hI hS 0 (X.1 9) (mw_9 hQ) rfl k (fun f9 => mW G Q (xsI (xsT X (bI (!b))) 9 f9) w0) (fun _ => mws_9 hQ) (rfl) (by omega) (by decide) d_Mo_lay_47 (fun H locs f_1 ef_1 hI hS hsz => ?_)
      try dsimp only at hI
      refine lv_aload_n hx hb d_Mo_lay_48 rfl (lv_at hl 0 rfl) ?_
      refine hp_get (ci := 5) (v := .ref (Q 17)) (C := R_Mo) (T := F_Mo) (N := 28) hx hb hg i_Mo hown hK hI (mw_o hQ) rfl 17 (by decide) (hg _ k_790) (fun _ h9 => h9) rfl d_Mo_lay_49 ?_
      refine lv_iload_n hx hb d_Mo_lay_52 rfl (lv_at hl 1 rfl) ?_
      refine lv_iconst (v := 4) hx hb d_Mo_lay_53 (by decide) ?_
      refine mv_imul hx hb k 4 rfl rfl d_Mo_lay_54 ?_
      refine lv_iconst (v := 2) hx hb d_Mo_lay_55 (by decide) ?_
      refine mv_iadd hx hb (k * 4) 2 rfl rfl d_Mo_lay_56 ?_
      refine lv_iload_n hx hb d_Mo_lay_57 rfl (lv_at hl 3 rfl) ?_
      refine lv_i2d hx hb d_Mo_lay_58 ?_
      refine mv_dast hx hb hK hI hS 1 (X.2.1 17) (mw_17 hQ) rfl (k * 4 + 2) (fun f9 => mW G Q (xsD (xsI (xsT X (bI (!b))) 9 f_1) 17 f9) w0) (fun _ => mws_17 hQ) (rfl) (by omega) (by decide) d_Mo_lay_59 (fun H locs f_2 ef_2 hI hS hsz => ?_)
      try dsimp only at hI
      exact W.vret hx hb hr (fun t9 ht9 hW9 => ⟨⟨(mW G Q (xsD (xsI (xsT X (bI (!b))) 9 f_1) 17 f_2) w0), rfl, Or.inr ⟨k, hk, rfl, ht, hP.mp hbt, by rw [ef_1, ef_2, hbt]; rfl⟩, eWo ht9 hI⟩, hS.F ht9⟩) hS.2.2 d_Mo_lay_60
    · have hbt : b = false := by cases b with | true => cases cb | false => rfl
      exact W.vret hx hb hr (fun t9 ht9 hW9 => ⟨⟨(mW G Q (xsT X (bI (!b))) w0), rfl, Or.inl ⟨fun h => (by rw [hP.mpr h] at hbt; cases hbt), by rw [hbt]; rfl⟩, eWo ht9 hI⟩, hS.F ht9⟩) hS.2.2 d_Mo_lay_40
  · refine ec_i (va_runV (As := [.int n]) (rest := [.ref (Q 25)]) ⟨hx, hb, hml, hown, hts⟩ (m_Mo_isOther l G S0 Q hQ X w0 d hM n) (cwV 1 hts (gw_V k_896 k_898 k_47 k_67 k_899) rfl rfl rfl (by decide +kernel) ⟨Nat.le_of_ble_eq_true rfl, Nat.le_of_ble_eq_true rfl⟩) (eB.preV hE hI hS hz rfl (mw_o hQ)) rfl rfl hl.1 rfl (lv_room (Nat.le_of_ble_eq_true rfl)) d_Mo_lay_3 ⟨Nat.le_of_ble_eq_true rfl, Nat.le_of_ble_eq_true rfl⟩) hS (fun r_3 w_2 H locs ew_2 hI hsz hS => ?_)
    obtain ⟨ew_2, h1⟩ := ew_2
    have ew_2 := ew_2.symm
    subst ew_2
    obtain ⟨b, eb, h1⟩ := h1
    subst eb
    refine mv_zeq (tgt := 33) hx hb b rfl d_Mo_lay_6 (by decide) (fun c1 => ?_) (fun c1 => ?_)
    · refine lv_iconst (v := 0) hx hb d_Mo_lay_33 (by decide) ?_
      exact K (false) _ _ _ (⟨fun h => (by cases h), fun h => absurd (h1.mpr h.1) (by rw [c1]; decide)⟩) (lv_sub hl [0, 1, 2, 3] rfl) hI hS
    refine lv_iload_n hx hb d_Mo_lay_9 rfl (lv_at hl 2 rfl) ?_
    refine lv_if_lt (tgt := 33) hx hb d_Mo_lay_10 (by decide) (fun c2 => ?_) (fun c2 => ?_)
    · refine lv_iconst (v := 0) hx hb d_Mo_lay_33 (by decide) ?_
      exact K (false) _ _ _ (⟨fun h => (by cases h), fun h => absurd h.2.1.1 (Int32.not_le.mpr c2)⟩) (lv_sub hl [0, 1, 2, 3] rfl) hI hS
    refine lv_iload_n hx hb d_Mo_lay_13 rfl (lv_at hl 2 rfl) ?_
    refine lv_iconst (v := 4) hx hb d_Mo_lay_14 (by decide) ?_
    refine lv_icmp_ge (tgt := 33) hx hb d_Mo_lay_15 (by decide) (fun c3 => ?_) (fun c3 => ?_)
    · refine lv_iconst (v := 0) hx hb d_Mo_lay_33 (by decide) ?_
      exact K (false) _ _ _ (⟨fun h => (by cases h), fun h => absurd ((i32_lt 4 3 (by decide)).mpr h.2.1.2) (Int32.not_lt.mpr c3)⟩) (lv_sub hl [0, 1, 2, 3] rfl) hI hS
    refine lv_iload_n hx hb d_Mo_lay_18 rfl (lv_at hl 3 rfl) ?_
    refine lv_bipush (v := (-2)) hx hb d_Mo_lay_19 (by decide) ?_
    refine lv_icmp_lt (tgt := 33) hx hb d_Mo_lay_21 (by decide) (fun c4 => ?_) (fun c4 => ?_)
    · refine lv_iconst (v := 0) hx hb d_Mo_lay_33 (by decide) ?_
      exact K (false) _ _ _ (⟨fun h => (by cases h), fun h => absurd h.2.2.1 (Int32.not_le.mpr c4)⟩) (lv_sub hl [0, 1, 2, 3] rfl) hI hS
    refine lv_iload_n hx hb d_Mo_lay_24 rfl (lv_at hl 3 rfl) ?_
    refine lv_iconst (v := 2) hx hb d_Mo_lay_25 (by decide) ?_
    refine lv_icmp_gt (tgt := 33) hx hb d_Mo_lay_26 (by decide) (fun c5 => ?_) (fun c5 => ?_)
    · refine lv_iconst (v := 0) hx hb d_Mo_lay_33 (by decide) ?_
      exact K (false) _ _ _ (⟨fun h => (by cases h), fun h => absurd h.2.2.2 (Int32.not_le.mpr c5)⟩) (lv_sub hl [0, 1, 2, 3] rfl) hI hS
    refine lv_iconst (v := 1) hx hb d_Mo_lay_29 (by decide) ?_
    refine lv_goto (tgt := 34) hx hb d_Mo_lay_30 (by decide) ?_
    exact K (true) _ _ _ (⟨fun _ => ⟨h1.mp c1, ⟨Int32.not_lt.mp c2, (i32_lt 4 3 (by decide)).mp (Int32.not_le.mp c3)⟩, Int32.not_lt.mp c4, Int32.not_lt.mp c5⟩, fun _ => rfl⟩) (lv_sub hl [0, 1, 2, 3] rfl) hI hS
set_option maxHeartbeats 4000000 in
set_option maxRecDepth 100000 in
theorem m_Mo_mode (l : Launch) (G : EG) (S0 : Nat) (Q : Nat → Nat) (hQ : qInj Q) (X : XS) (w0 : hp_M) (d : DS) (hM : mN X d) (n mo : Int32) (st : UInt64) : Met l y_Mo_mode w_Mo_mode (rl 2 0 0) (eP G S0 (mW G Q X w0) [.ref (Q 25), .int n, .int mo, .double st]) (va_Qv (fun z => (¬ (isGroup d n ∧ (0 ≤ mo ∧ mo ≤ 2) ∧ dge st FP.dconst1 ∧ dle st 4629700416936869888) ∧ z = mW G Q (xsT X 1) w0) ∨ ∃ k, k < 14 ∧ n = nI k ∧ sTh d k = true ∧ (isGroup d n ∧ (0 ≤ mo ∧ mo ≤ 2) ∧ dge st FP.dconst1 ∧ dle st 4629700416936869888) ∧ z = mW G Q (xsD (xsI (xsT X 0) 5 (upd (X.1 5) k mo)) 14 (vf_upd (X.2.1 14) k st)) w0) (eW G S0) (hp_A S0)) 0 0 (hp_A S0) := by
  refine Met.ofW (cc := b_Mo_mode) (maxL := 5) (ret := none) (by decide) rfl ?_
  intro p e s m args below meth c s₁ B hml hv
  obtain ⟨rfl, hE, hI, hz⟩ := hv
  have hx := B.exec
  have hb := B.bytes
  have hr := B.returns
  have hts := atoms_spec (ws := w_Mo_mode) B.pre
  have hg : ∀ w ∈ gw, w.before _ s = true := fun w h => hts w (List.mem_cons_of_mem _ h)
  have hown : s.vm.findClass "SceneEaselModel" = some m.cls := findClass_of_methodNamed B.named
  have hlocks := B.notSynchronized
  have hK := hE.K
  have hS : va_S (hp_A S0) s.heap s.heap [] := va_S.rf
  have hl := lv_entry ([.ref (Q 25), .int n, .int mo, .double st]) (n := 5) (Nat.le_of_ble_eq_true rfl)
  rw [lg_entry_eq]
  generalize (lg_sl ([.ref (Q 25), .int n, .int mo, .double st]) ++ List.replicate (5 - (lg_sl ([.ref (Q 25), .int n, .int mo, .double st])).length) Slot.unset).toArray = ls at hl ⊢
  have hl : lv_has ls 5 [(0, .ref (Q 25)), (1, .int n), (2, .int mo), (3, .double st)] := hl
  refine lv_aload_n hx hb d_Mo_mode_0 rfl (lv_at hl 0 rfl) ?_
  refine lv_aload_n hx hb d_Mo_mode_1 rfl (lv_at hl 0 rfl) ?_
  refine lv_iload_n hx hb d_Mo_mode_2 rfl (lv_at hl 1 rfl) ?_
  refine W.midw (G := G) (S0 := S0) (fun (b : Bool) => b = true ↔ isGroup d n ∧ (0 ≤ mo ∧ mo ≤ 2) ∧ dge st FP.dconst1 ∧ dle st 4629700416936869888) (fun (b : Bool) => (mW G Q X w0)) (fun (b : Bool) => [(0, .ref (Q 25)), (1, .int n), (2, .int mo), (3, .double st)]) (fun (b : Bool) => 0) (fun (b : Bool) => 0) 5 34 (fun (b : Bool) => [.int (bI b), .ref (Q 25)]) ?_ (fun K => ?_)
  · rintro b ls H locs hP hl hI hS
    try dsimp only at hP hl hI ⊢
    refine ec_i (va_runV (As := [.int (bI b)]) (rest := []) ⟨hx, hb, hml, hown, hts⟩ (m_Mo_bad l G S0 Q hQ X w0 b) (cwV 1 hts (gw_V k_875 k_877 k_45 k_67 k_878) rfl rfl rfl (by decide +kernel) ⟨Nat.le_of_ble_eq_true rfl, Nat.le_of_ble_eq_true rfl⟩) (eB.preV hE hI hS hz rfl (mw_o hQ)) rfl rfl hl.1 rfl (lv_room (Nat.le_of_ble_eq_true rfl)) d_Mo_mode_34 ⟨Nat.le_of_ble_eq_true rfl, Nat.le_of_ble_eq_true rfl⟩) hS (fun rb w_1 H locs ew_1 hI hsz hS => ?_)
    obtain ⟨erb, ew_1⟩ := ew_1
    subst ew_1
    subst erb
    refine mv_zeq (tgt := 41) hx hb (!b) rfl d_Mo_mode_37 (by decide) (fun cb => ?_) (fun cb => ?_)
    · have hbt : b = true := by cases b with | true => rfl | false => cases cb
      obtain ⟨⟨k, hk, ek, ht, -⟩, -⟩ := hP.mp hbt
      subst ek
      refine lv_aload_n hx hb d_Mo_mode_41 rfl (lv_at hl 0 rfl) ?_
      refine hp_get (ci := 5) (v := .ref (Q 5)) (C := R_Mo) (T := F_Mo) (N := 28) hx hb hg i_Mo hown hK hI (mw_o hQ) rfl 5 (by decide) (hg _ k_778) (fun _ h9 => h9) rfl d_Mo_mode_42 ?_
      refine lv_iload_n hx hb d_Mo_mode_45 rfl (lv_at hl 1 rfl) ?_
      refine lv_iload_n hx hb d_Mo_mode_46 rfl (lv_at hl 2 rfl) ?_
      refine mv_iast hx hb hK hI hS 0 (X.1 5) (mw_5 hQ) rfl k (fun f9 => mW G Q (xsI (xsT X (bI (!b))) 5 f9) w0) (fun _ => mws_5 hQ) (rfl) (by omega) (by decide) d_Mo_mode_47 (fun H locs f_1 ef_1 hI hS hsz => ?_)
      try dsimp only at hI
      refine lv_aload_n hx hb d_Mo_mode_48 rfl (lv_at hl 0 rfl) ?_
      refine hp_get (ci := 5) (v := .ref (Q 14)) (C := R_Mo) (T := F_Mo) (N := 28) hx hb hg i_Mo hown hK hI (mw_o hQ) rfl 14 (by decide) (hg _ k_787) (fun _ h9 => h9) rfl d_Mo_mode_49 ?_
      refine lv_iload_n hx hb d_Mo_mode_52 rfl (lv_at hl 1 rfl) ?_
      refine lv_dload_n hx hb d_Mo_mode_53 rfl (lv_at hl 3 rfl) ?_
      refine mv_dast hx hb hK hI hS 1 (X.2.1 14) (mw_14 hQ) rfl k (fun f9 => mW G Q (xsD (xsI (xsT X (bI (!b))) 5 f_1) 14 f9) w0) (fun _ => mws_14 hQ) (rfl) (by omega) (by decide) d_Mo_mode_54 (fun H locs f_2 ef_2 hI hS hsz => ?_)
      try dsimp only at hI
      exact W.vret hx hb hr (fun t9 ht9 hW9 => ⟨⟨(mW G Q (xsD (xsI (xsT X (bI (!b))) 5 f_1) 14 f_2) w0), rfl, Or.inr ⟨k, hk, rfl, ht, hP.mp hbt, by rw [ef_1, ef_2, hbt]; rfl⟩, eWo ht9 hI⟩, hS.F ht9⟩) hS.2.2 d_Mo_mode_55
    · have hbt : b = false := by cases b with | true => cases cb | false => rfl
      exact W.vret hx hb hr (fun t9 ht9 hW9 => ⟨⟨(mW G Q (xsT X (bI (!b))) w0), rfl, Or.inl ⟨fun h => (by rw [hP.mpr h] at hbt; cases hbt), by rw [hbt]; rfl⟩, eWo ht9 hI⟩, hS.F ht9⟩) hS.2.2 d_Mo_mode_40
  · refine ec_i (va_runV (As := [.int n]) (rest := [.ref (Q 25)]) ⟨hx, hb, hml, hown, hts⟩ (m_Mo_isGroup l G S0 Q hQ X w0 d hM n) (cwV 1 hts (gw_V k_867 k_869 k_43 k_67 k_870) rfl rfl rfl (by decide +kernel) ⟨Nat.le_of_ble_eq_true rfl, Nat.le_of_ble_eq_true rfl⟩) (eB.preV hE hI hS hz rfl (mw_o hQ)) rfl rfl hl.1 rfl (lv_room (Nat.le_of_ble_eq_true rfl)) d_Mo_mode_3 ⟨Nat.le_of_ble_eq_true rfl, Nat.le_of_ble_eq_true rfl⟩) hS (fun r_3 w_2 H locs ew_2 hI hsz hS => ?_)
    obtain ⟨ew_2, h1⟩ := ew_2
    have ew_2 := ew_2.symm
    subst ew_2
    obtain ⟨b, eb, h1⟩ := h1
    subst eb
    refine mv_zeq (tgt := 33) hx hb b rfl d_Mo_mode_6 (by decide) (fun c1 => ?_) (fun c1 => ?_)
    · refine lv_iconst (v := 0) hx hb d_Mo_mode_33 (by decide) ?_
      exact K (false) _ _ _ (⟨fun h => (by cases h), fun h => absurd (h1.mpr h.1) (by rw [c1]; decide)⟩) (lv_sub hl [0, 1, 2, 3] rfl) hI hS
    refine lv_iload_n hx hb d_Mo_mode_9 rfl (lv_at hl 2 rfl) ?_
    refine lv_if_lt (tgt := 33) hx hb d_Mo_mode_10 (by decide) (fun c2 => ?_) (fun c2 => ?_)
    · refine lv_iconst (v := 0) hx hb d_Mo_mode_33 (by decide) ?_
      exact K (false) _ _ _ (⟨fun h => (by cases h), fun h => absurd h.2.1.1 (Int32.not_le.mpr c2)⟩) (lv_sub hl [0, 1, 2, 3] rfl) hI hS
    refine lv_iload_n hx hb d_Mo_mode_13 rfl (lv_at hl 2 rfl) ?_
    refine lv_iconst (v := 3) hx hb d_Mo_mode_14 (by decide) ?_
    refine lv_icmp_ge (tgt := 33) hx hb d_Mo_mode_15 (by decide) (fun c3 => ?_) (fun c3 => ?_)
    · refine lv_iconst (v := 0) hx hb d_Mo_mode_33 (by decide) ?_
      exact K (false) _ _ _ (⟨fun h => (by cases h), fun h => absurd ((i32_lt 3 2 (by decide)).mpr h.2.1.2) (Int32.not_lt.mpr c3)⟩) (lv_sub hl [0, 1, 2, 3] rfl) hI hS
    refine lv_dload_n hx hb d_Mo_mode_18 rfl (lv_at hl 3 rfl) ?_
    refine lv_dconst1 hx hb d_Mo_mode_19 ?_
    refine lv_ldc2d (v := 4629700416936869888) hx hb hown (hg _ k_909) d_Mo_mode_20 ?_
    refine ec_i (va_runS (As := [.double st, .double FP.dconst1, .double 4629700416936869888]) (rest := [.ref (Q 25)]) ⟨hx, hb, hml, hown, hts⟩ (m_Mo_in l G S0 (mW G Q X w0) st FP.dconst1 4629700416936869888) (cwS 3 hts (gw_S k_889 k_890 k_67 k_891) rfl rfl rfl (by decide +kernel) ⟨Nat.le_of_ble_eq_true rfl, Nat.le_of_ble_eq_true rfl⟩) (eB.preS hE hI hS hz) rfl rfl hl.1 rfl (lv_room (Nat.le_of_ble_eq_true rfl)) d_Mo_mode_23 ⟨Nat.le_of_ble_eq_true rfl, Nat.le_of_ble_eq_true rfl⟩) hS (fun q1 w_4 H locs ew_4 hI hsz hS => ?_)
    obtain ⟨eq1, ew_4⟩ := ew_4
    have ew_4 := ew_4.symm
    subst ew_4
    subst eq1
    refine mv_zeq (tgt := 33) hx hb (dIn st FP.dconst1 4629700416936869888) rfl d_Mo_mode_26 (by decide) (fun c4 => ?_) (fun c4 => ?_)
    · refine lv_iconst (v := 0) hx hb d_Mo_mode_33 (by decide) ?_
      exact K (false) _ _ _ (⟨fun h => (by cases h), fun h => absurd (dIn_iff.mpr h.2.2) (by rw [c4]; decide)⟩) (lv_sub hl [0, 1, 2, 3] rfl) hI hS
    refine lv_iconst (v := 1) hx hb d_Mo_mode_29 (by decide) ?_
    refine lv_goto (tgt := 34) hx hb d_Mo_mode_30 (by decide) ?_
    exact K (true) _ _ _ (⟨fun _ => ⟨h1.mp c1, ⟨Int32.not_lt.mp c2, (i32_lt 3 2 (by decide)).mp (Int32.not_le.mp c3)⟩, dIn_iff.mp c4⟩, fun _ => rfl⟩) (lv_sub hl [0, 1, 2, 3] rfl) hI hS
set_option maxHeartbeats 4000000 in
set_option maxRecDepth 100000 in
theorem m_Mo_place (l : Launch) (G : EG) (S0 : Nat) (Q : Nat → Nat) (hQ : qInj Q) (X : XS) (w0 : hp_M) (d : DS) (hM : mN X d) (n : Int32) (x y : UInt64) : Met l y_Mo_place w_Mo_place (rl 2 0 0) (eP G S0 (mW G Q X w0) [.ref (Q 25), .int n, .double x, .double y]) (va_Qv (fun z => (¬ ((isN d n ∧ n ≠ 0) ∧ (dge x cm100 ∧ dle x c100) ∧ dge y cm100 ∧ dle y c100) ∧ z = mW G Q (xsT X 1) w0) ∨ ∃ k, k < 14 ∧ n = nI k ∧ sTh d k = true ∧ ((isN d n ∧ n ≠ 0) ∧ (dge x cm100 ∧ dle x c100) ∧ dge y cm100 ∧ dle y c100) ∧ z = mW G Q (xsD (xsD (xsT X 0) 17 (vf_upd (X.2.1 17) (k * 4) x)) 17 (vf_upd (vf_upd (X.2.1 17) (k * 4) x) (k * 4 + 1) y)) w0) (eW G S0) (hp_A S0)) 0 0 (hp_A S0) := by
  refine Met.ofW (cc := b_Mo_place) (maxL := 6) (ret := none) (by decide) rfl ?_
  intro p e s m args below meth c s₁ B hml hv
  obtain ⟨rfl, hE, hI, hz⟩ := hv
  have hx := B.exec
  have hb := B.bytes
  have hr := B.returns
  have hts := atoms_spec (ws := w_Mo_place) B.pre
  have hg : ∀ w ∈ gw, w.before _ s = true := fun w h => hts w (List.mem_cons_of_mem _ h)
  have hown : s.vm.findClass "SceneEaselModel" = some m.cls := findClass_of_methodNamed B.named
  have hlocks := B.notSynchronized
  have hK := hE.K
  have hS : va_S (hp_A S0) s.heap s.heap [] := va_S.rf
  have hl := lv_entry ([.ref (Q 25), .int n, .double x, .double y]) (n := 6) (Nat.le_of_ble_eq_true rfl)
  rw [lg_entry_eq]
  generalize (lg_sl ([.ref (Q 25), .int n, .double x, .double y]) ++ List.replicate (6 - (lg_sl ([.ref (Q 25), .int n, .double x, .double y])).length) Slot.unset).toArray = ls at hl ⊢
  have hl : lv_has ls 6 [(0, .ref (Q 25)), (1, .int n), (2, .double x), (4, .double y)] := hl
  refine lv_aload_n hx hb d_Mo_place_0 rfl (lv_at hl 0 rfl) ?_
  refine lv_aload_n hx hb d_Mo_place_1 rfl (lv_at hl 0 rfl) ?_
  refine lv_iload_n hx hb d_Mo_place_2 rfl (lv_at hl 1 rfl) ?_
  refine W.midw (G := G) (S0 := S0) (fun (b : Bool) => b = true ↔ (isN d n ∧ n ≠ 0) ∧ (dge x cm100 ∧ dle x c100) ∧ dge y cm100 ∧ dle y c100) (fun (b : Bool) => (mW G Q X w0)) (fun (b : Bool) => [(0, .ref (Q 25)), (1, .int n), (2, .double x), (4, .double y)]) (fun (b : Bool) => 0) (fun (b : Bool) => 0) 6 41 (fun (b : Bool) => [.int (bI b), .ref (Q 25)]) ?_ (fun K => ?_)
  · rintro b ls H locs hP hl hI hS
    try dsimp only at hP hl hI ⊢
    refine ec_i (va_runV (As := [.int (bI b)]) (rest := []) ⟨hx, hb, hml, hown, hts⟩ (m_Mo_bad l G S0 Q hQ X w0 b) (cwV 1 hts (gw_V k_875 k_877 k_45 k_67 k_878) rfl rfl rfl (by decide +kernel) ⟨Nat.le_of_ble_eq_true rfl, Nat.le_of_ble_eq_true rfl⟩) (eB.preV hE hI hS hz rfl (mw_o hQ)) rfl rfl hl.1 rfl (lv_room (Nat.le_of_ble_eq_true rfl)) d_Mo_place_41 ⟨Nat.le_of_ble_eq_true rfl, Nat.le_of_ble_eq_true rfl⟩) hS (fun rb w_1 H locs ew_1 hI hsz hS => ?_)
    obtain ⟨erb, ew_1⟩ := ew_1
    subst ew_1
    subst erb
    refine mv_zeq (tgt := 48) hx hb (!b) rfl d_Mo_place_44 (by decide) (fun cb => ?_) (fun cb => ?_)
    · have hbt : b = true := by cases b with | true => rfl | false => cases cb
      obtain ⟨⟨⟨k, hk, ek, ht⟩, -⟩, -⟩ := hP.mp hbt
      subst ek
      refine lv_aload_n hx hb d_Mo_place_48 rfl (lv_at hl 0 rfl) ?_
      refine hp_get (ci := 5) (v := .ref (Q 17)) (C := R_Mo) (T := F_Mo) (N := 28) hx hb hg i_Mo hown hK hI (mw_o hQ) rfl 17 (by decide) (hg _ k_790) (fun _ h9 => h9) rfl d_Mo_place_49 ?_
      refine lv_iload_n hx hb d_Mo_place_52 rfl (lv_at hl 1 rfl) ?_
      refine lv_iconst (v := 4) hx hb d_Mo_place_53 (by decide) ?_
      refine mv_imul hx hb k 4 rfl rfl d_Mo_place_54 ?_
      refine lv_dload_n hx hb d_Mo_place_55 rfl (lv_at hl 2 rfl) ?_
      refine mv_dast hx hb hK hI hS 1 (X.2.1 17) (mw_17 hQ) rfl (k * 4) (fun f9 => mW G Q (xsD (xsT X (bI (!b))) 17 f9) w0) (fun _ => mws_17 hQ) (rfl) (by omega) (by decide) d_Mo_place_56 (fun H locs f_1 ef_1 hI hS hsz => ?_)
      try dsimp only at hI
      refine lv_aload_n hx hb d_Mo_place_57 rfl (lv_at hl 0 rfl) ?_
      refine hp_get (ci := 5) (v := .ref (Q 17)) (C := R_Mo) (T := F_Mo) (N := 28) hx hb hg i_Mo hown hK hI (mw_o hQ) rfl 17 (by decide) (hg _ k_790) (fun _ h9 => h9) rfl d_Mo_place_58 ?_
      refine lv_iload_n hx hb d_Mo_place_61 rfl (lv_at hl 1 rfl) ?_
      refine lv_iconst (v := 4) hx hb d_Mo_place_62 (by decide) ?_
      refine mv_imul hx hb k 4 rfl rfl d_Mo_place_63 ?_
      refine lv_iconst (v := 1) hx hb d_Mo_place_64 (by decide) ?_
      refine mv_iadd hx hb (k * 4) 1 rfl rfl d_Mo_place_65 ?_
      refine lv_dload hx hb d_Mo_place_66 (lv_at hl 3 rfl) ?_
      refine mv_dast hx hb hK hI hS 1 f_1 (mw_17 hQ) rfl (k * 4 + 1) (fun f9 => mW G Q (xsD (xsD (xsT X (bI (!b))) 17 f_1) 17 f9) w0) (fun _ => mws_17 hQ) (rfl) (by omega) (by decide) d_Mo_place_68 (fun H locs f_2 ef_2 hI hS hsz => ?_)
      try dsimp only at hI
      exact W.vret hx hb hr (fun t9 ht9 hW9 => ⟨⟨(mW G Q (xsD (xsD (xsT X (bI (!b))) 17 f_1) 17 f_2) w0), rfl, Or.inr ⟨k, hk, rfl, ht, hP.mp hbt, by rw [ef_2, ef_1, hbt]; rfl⟩, eWo ht9 hI⟩, hS.F ht9⟩) hS.2.2 d_Mo_place_69
    · have hbt : b = false := by cases b with | true => cases cb | false => rfl
      exact W.vret hx hb hr (fun t9 ht9 hW9 => ⟨⟨(mW G Q (xsT X (bI (!b))) w0), rfl, Or.inl ⟨fun h => (by rw [hP.mpr h] at hbt; cases hbt), by rw [hbt]; rfl⟩, eWo ht9 hI⟩, hS.F ht9⟩) hS.2.2 d_Mo_place_47
  · refine ec_i (va_runV (As := [.int n]) (rest := [.ref (Q 25)]) ⟨hx, hb, hml, hown, hts⟩ (m_Mo_isOther l G S0 Q hQ X w0 d hM n) (cwV 1 hts (gw_V k_896 k_898 k_47 k_67 k_899) rfl rfl rfl (by decide +kernel) ⟨Nat.le_of_ble_eq_true rfl, Nat.le_of_ble_eq_true rfl⟩) (eB.preV hE hI hS hz rfl (mw_o hQ)) rfl rfl hl.1 rfl (lv_room (Nat.le_of_ble_eq_true rfl)) d_Mo_place_3 ⟨Nat.le_of_ble_eq_true rfl, Nat.le_of_ble_eq_true rfl⟩) hS (fun r_3 w_2 H locs ew_2 hI hsz hS => ?_)
    obtain ⟨ew_2, h1⟩ := ew_2
    have ew_2 := ew_2.symm
    subst ew_2
    obtain ⟨b, eb, h1⟩ := h1
    subst eb
    refine mv_zeq (tgt := 40) hx hb b rfl d_Mo_place_6 (by decide) (fun c1 => ?_) (fun c1 => ?_)
    · refine lv_iconst (v := 0) hx hb d_Mo_place_40 (by decide) ?_
      exact K (false) _ _ _ (⟨fun h => (by cases h), fun h => absurd (h1.mpr h.1) (by rw [c1]; decide)⟩) (lv_sub hl [0, 1, 2, 3] rfl) hI hS
    refine lv_dload_n hx hb d_Mo_place_9 rfl (lv_at hl 2 rfl) ?_
    refine lv_ldc2d (v := 13860109328209412096) hx hb hown (hg _ k_900) d_Mo_place_10 ?_
    refine lv_ldc2d (v := 4636737291354636288) hx hb hown (hg _ k_888) d_Mo_place_13 ?_
    refine ec_i (va_runS (As := [.double x, .double 13860109328209412096, .double 4636737291354636288]) (rest := [.ref (Q 25)]) ⟨hx, hb, hml, hown, hts⟩ (m_Mo_in l G S0 (mW G Q X w0) x cm100 c100) (cwS 3 hts (gw_S k_889 k_890 k_67 k_891) rfl rfl rfl (by decide +kernel) ⟨Nat.le_of_ble_eq_true rfl, Nat.le_of_ble_eq_true rfl⟩) (eB.preS hE hI hS hz) rfl rfl hl.1 rfl (lv_room (Nat.le_of_ble_eq_true rfl)) d_Mo_place_16 ⟨Nat.le_of_ble_eq_true rfl, Nat.le_of_ble_eq_true rfl⟩) hS (fun q1 w_4 H locs ew_4 hI hsz hS => ?_)
    obtain ⟨eq1, ew_4⟩ := ew_4
    have ew_4 := ew_4.symm
    subst ew_4
    subst eq1
    refine mv_zeq (tgt := 40) hx hb (dIn x cm100 c100) rfl d_Mo_place_19 (by decide) (fun c2 => ?_) (fun c2 => ?_)
    · refine lv_iconst (v := 0) hx hb d_Mo_place_40 (by decide) ?_
      exact K (false) _ _ _ (⟨fun h => (by cases h), fun h => absurd (dIn_iff.mpr h.2.1) (by rw [c2]; decide)⟩) (lv_sub hl [0, 1, 2, 3] rfl) hI hS
    refine lv_dload hx hb d_Mo_place_22 (lv_at hl 3 rfl) ?_
    refine lv_ldc2d (v := 13860109328209412096) hx hb hown (hg _ k_900) d_Mo_place_24 ?_
    refine lv_ldc2d (v := 4636737291354636288) hx hb hown (hg _ k_888) d_Mo_place_27 ?_
    refine ec_i (va_runS (As := [.double y, .double 13860109328209412096, .double 4636737291354636288]) (rest := [.ref (Q 25)]) ⟨hx, hb, hml, hown, hts⟩ (m_Mo_in l G S0 (mW G Q X w0) y cm100 c100) (cwS 3 hts (gw_S k_889 k_890 k_67 k_891) rfl rfl rfl (by decide +kernel) ⟨Nat.le_of_ble_eq_true rfl, Nat.le_of_ble_eq_true rfl⟩) (eB.preS hE hI hS hz) rfl rfl hl.1 rfl (lv_room (Nat.le_of_ble_eq_true rfl)) d_Mo_place_30 ⟨Nat.le_of_ble_eq_true rfl, Nat.le_of_ble_eq_true rfl⟩) hS (fun q2 w_5 H locs ew_5 hI hsz hS => ?_)
    obtain ⟨eq2, ew_5⟩ := ew_5
    have ew_5 := ew_5.symm
    subst ew_5
    subst eq2
    refine mv_zeq (tgt := 40) hx hb (dIn y cm100 c100) rfl d_Mo_place_33 (by decide) (fun c3 => ?_) (fun c3 => ?_)
    · refine lv_iconst (v := 0) hx hb d_Mo_place_40 (by decide) ?_
      exact K (false) _ _ _ (⟨fun h => (by cases h), fun h => absurd (dIn_iff.mpr h.2.2) (by rw [c3]; decide)⟩) (lv_sub hl [0, 1, 2, 3] rfl) hI hS
    refine lv_iconst (v := 1) hx hb d_Mo_place_36 (by decide) ?_
    refine lv_goto (tgt := 41) hx hb d_Mo_place_37 (by decide) ?_
    exact K (true) _ _ _ (⟨fun _ => ⟨h1.mp c1, dIn_iff.mp c2, dIn_iff.mp c3⟩, fun _ => rfl⟩) (lv_sub hl [0, 1, 2, 3] rfl) hI hS
set_option maxHeartbeats 4000000 in
set_option maxRecDepth 100000 in
theorem m_Mo_lengths (l : Launch) (G : EG) (S0 : Nat) (Q : Nat → Nat) (hQ : qInj Q) (X : XS) (w0 : hp_M) (d : DS) (hM : mN X d) (hv : vOk d) (n : Int32) (x y : UInt64) : Met l y_Mo_lengths w_Mo_lengths (rl 2 0 0) (eP G S0 (mW G Q X w0) [.ref (Q 25), .int n, .double x, .double y]) (va_Qv (fun z => (¬ (isShape d n ∧ (dge x c0125 ∧ dle x c100) ∧ dge y c0125 ∧ dle y c100) ∧ z = mW G Q (xsT X 1) w0) ∨ ∃ k, k < 14 ∧ n = nI k ∧ sTh d k = true ∧ (isShape d n ∧ (dge x c0125 ∧ dle x c100) ∧ dge y c0125 ∧ dle y c100) ∧ z = mW G Q (xsD (xsD (xsT X 0) 15 (vf_upd (X.2.1 15) k x)) 16 (vf_upd (X.2.1 16) k y)) w0) (eW G S0) (hp_A S0)) 0 0 (hp_A S0) := by
  refine Met.ofW (cc := b_Mo_lengths) (maxL := 6) (ret := none) (by decide) rfl ?_
  intro p e s m args below meth c s₁ B hml hv
  obtain ⟨rfl, hE, hI, hz⟩ := hv
  have hx := B.exec
  have hb := B.bytes
  have hr := B.returns
  have hts := atoms_spec (ws := w_Mo_lengths) B.pre
  have hg : ∀ w ∈ gw, w.before _ s = true := fun w h => hts w (List.mem_cons_of_mem _ h)
  have hown : s.vm.findClass "SceneEaselModel" = some m.cls := findClass_of_methodNamed B.named
  have hlocks := B.notSynchronized
  have hK := hE.K
  have hS : va_S (hp_A S0) s.heap s.heap [] := va_S.rf
  have hl := lv_entry ([.ref (Q 25), .int n, .double x, .double y]) (n := 6) (Nat.le_of_ble_eq_true rfl)
  rw [lg_entry_eq]
  generalize (lg_sl ([.ref (Q 25), .int n, .double x, .double y]) ++ List.replicate (6 - (lg_sl ([.ref (Q 25), .int n, .double x, .double y])).length) Slot.unset).toArray = ls at hl ⊢
  have hl : lv_has ls 6 [(0, .ref (Q 25)), (1, .int n), (2, .double x), (4, .double y)] := hl
  refine lv_aload_n hx hb d_Mo_lengths_0 rfl (lv_at hl 0 rfl) ?_
  refine lv_aload_n hx hb d_Mo_lengths_1 rfl (lv_at hl 0 rfl) ?_
  refine lv_iload_n hx hb d_Mo_lengths_2 rfl (lv_at hl 1 rfl) ?_
  refine W.midw (G := G) (S0 := S0) (fun (b : Bool) => b = true ↔ isShape d n ∧ (dge x c0125 ∧ dle x c100) ∧ dge y c0125 ∧ dle y c100) (fun (b : Bool) => (mW G Q X w0)) (fun (b : Bool) => [(0, .ref (Q 25)), (1, .int n), (2, .double x), (4, .double y)]) (fun (b : Bool) => 0) (fun (b : Bool) => 0) 6 50 (fun (b : Bool) => [.int (bI b), .ref (Q 25)]) ?_ (fun K => ?_)
  · rintro b ls H locs hP hl hI hS
    try dsimp only at hP hl hI ⊢
    refine ec_i (va_runV (As := [.int (bI b)]) (rest := []) ⟨hx, hb, hml, hown, hts⟩ (m_Mo_bad l G S0 Q hQ X w0 b) (cwV 1 hts (gw_V k_875 k_877 k_45 k_67 k_878) rfl rfl rfl (by decide +kernel) ⟨Nat.le_of_ble_eq_true rfl, Nat.le_of_ble_eq_true rfl⟩) (eB.preV hE hI hS hz rfl (mw_o hQ)) rfl rfl hl.1 rfl (lv_room (Nat.le_of_ble_eq_true rfl)) d_Mo_lengths_50 ⟨Nat.le_of_ble_eq_true rfl, Nat.le_of_ble_eq_true rfl⟩) hS (fun rb w_1 H locs ew_1 hI hsz hS => ?_)
    obtain ⟨erb, ew_1⟩ := ew_1
    subst ew_1
    subst erb
    refine mv_zeq (tgt := 57) hx hb (!b) rfl d_Mo_lengths_53 (by decide) (fun cb => ?_) (fun cb => ?_)
    · have hbt : b = true := by cases b with | true => rfl | false => cases cb
      obtain ⟨⟨k, hk, ek, ht, -⟩, -⟩ := hP.mp hbt
      subst ek
      refine lv_aload_n hx hb d_Mo_lengths_57 rfl (lv_at hl 0 rfl) ?_
      refine hp_get (ci := 5) (v := .ref (Q 15)) (C := R_Mo) (T := F_Mo) (N := 28) hx hb hg i_Mo hown hK hI (mw_o hQ) rfl 15 (by decide) (hg _ k_788) (fun _ h9 => h9) rfl d_Mo_lengths_58 ?_
      refine lv_iload_n hx hb d_Mo_lengths_61 rfl (lv_at hl 1 rfl) ?_
      refine lv_dload_n hx hb d_Mo_lengths_62 rfl (lv_at hl 2 rfl) ?_
      refine mv_dast hx hb hK hI hS 1 (X.2.1 15) (mw_15 hQ) rfl k (fun f9 => mW G Q (xsD (xsT X (bI (!b))) 15 f9) w0) (fun _ => mws_15 hQ) (rfl) (by omega) (by decide) d_Mo_lengths_63 (fun H locs f_1 ef_1 hI hS hsz => ?_)
      try dsimp only at hI
      refine lv_aload_n hx hb d_Mo_lengths_64 rfl (lv_at hl 0 rfl) ?_
      refine hp_get (ci := 5) (v := .ref (Q 16)) (C := R_Mo) (T := F_Mo) (N := 28) hx hb hg i_Mo hown hK hI (mw_o hQ) rfl 16 (by decide) (hg _ k_789) (fun _ h9 => h9) rfl d_Mo_lengths_65 ?_
      refine lv_iload_n hx hb d_Mo_lengths_68 rfl (lv_at hl 1 rfl) ?_
      refine lv_dload hx hb d_Mo_lengths_69 (lv_at hl 3 rfl) ?_
      refine mv_dast hx hb hK hI hS 1 (X.2.1 16) (mw_16 hQ) rfl k (fun f9 => mW G Q (xsD (xsD (xsT X (bI (!b))) 15 f_1) 16 f9) w0) (fun _ => mws_16 hQ) (rfl) (by omega) (by decide) d_Mo_lengths_71 (fun H locs f_2 ef_2 hI hS hsz => ?_)
      try dsimp only at hI
      exact W.vret hx hb hr (fun t9 ht9 hW9 => ⟨⟨(mW G Q (xsD (xsD (xsT X (bI (!b))) 15 f_1) 16 f_2) w0), rfl, Or.inr ⟨k, hk, rfl, ht, hP.mp hbt, by rw [ef_1, ef_2, hbt]; rfl⟩, eWo ht9 hI⟩, hS.F ht9⟩) hS.2.2 d_Mo_lengths_72
    · have hbt : b = false := by cases b with | true => cases cb | false => rfl
      exact W.vret hx hb hr (fun t9 ht9 hW9 => ⟨⟨(mW G Q (xsT X (bI (!b))) w0), rfl, Or.inl ⟨fun h => (by rw [hP.mpr h] at hbt; cases hbt), by rw [hbt]; rfl⟩, eWo ht9 hI⟩, hS.F ht9⟩) hS.2.2 d_Mo_lengths_56
  · refine ec_i (va_runV (As := [.int n]) (rest := [.ref (Q 25)]) ⟨hx, hb, hml, hown, hts⟩ (m_Mo_is l G S0 Q hQ X w0 d hM n) (cwV 1 hts (gw_V k_871 k_873 k_44 k_67 k_874) rfl rfl rfl (by decide +kernel) ⟨Nat.le_of_ble_eq_true rfl, Nat.le_of_ble_eq_true rfl⟩) (eB.preV hE hI hS hz rfl (mw_o hQ)) rfl rfl hl.1 rfl (lv_room (Nat.le_of_ble_eq_true rfl)) d_Mo_lengths_3 ⟨Nat.le_of_ble_eq_true rfl, Nat.le_of_ble_eq_true rfl⟩) hS (fun r_3 w_2 H locs ew_2 hI hsz hS => ?_)
    obtain ⟨ew_2, h1⟩ := ew_2
    have ew_2 := ew_2.symm
    subst ew_2
    obtain ⟨b, eb, h1⟩ := h1
    subst eb
    refine mv_zeq (tgt := 49) hx hb b rfl d_Mo_lengths_6 (by decide) (fun c1 => ?_) (fun c1 => ?_)
    · refine lv_iconst (v := 0) hx hb d_Mo_lengths_49 (by decide) ?_
      exact K (false) _ _ _ (⟨fun h => (by cases h), fun h => absurd (h1.mpr (by obtain ⟨k, q1, q2, q3, -⟩ := h.1; exact ⟨k, q1, q2, q3⟩)) (by rw [c1]; decide)⟩) (lv_sub hl [0, 1, 2, 3] rfl) hI hS
    obtain ⟨k, hk, ek, ht⟩ := h1.mp c1
    obtain ⟨kc, hkc, ekc⟩ := (hv k hk ht).1
    refine lv_aload_n hx hb d_Mo_lengths_9 rfl (lv_at hl 0 rfl) ?_
    refine hp_get (ci := 5) (v := .ref (Q 4)) (C := R_Mo) (T := F_Mo) (N := 28) hx hb hg i_Mo hown hK hI (mw_o hQ) rfl 4 (by decide) (hg _ k_777) (fun _ h9 => h9) rfl d_Mo_lengths_10 ?_
    refine lv_iload_n hx hb d_Mo_lengths_13 rfl (lv_at hl 1 rfl) ?_
    refine mv_iald hx hb hK hI 0 (X.1 4) (mw_4 hQ) rfl k (ek) (by omega) (by decide) d_Mo_lengths_14 ?_
    refine mv_i (y := nI kc) ((hM.ki hk ht).trans ekc) ?_
    refine mv_ile (tgt := 49) hx hb kc rfl (by omega) d_Mo_lengths_15 (by decide) (fun c0 => ?_) (fun c0 => ?_)
    · refine lv_iconst (v := 0) hx hb d_Mo_lengths_49 (by decide) ?_
      exact K (false) _ _ _ (⟨fun h => (by cases h), fun h => by obtain ⟨⟨k', q1, q2, q3, q4⟩, -⟩ := h; rw [show k' = k from (nI_eq (a := k') (b := k) (by omega) (by omega)).mp (q2.symm.trans ek), ekc, c0] at q4; exact absurd rfl q4⟩) (lv_sub hl [0, 1, 2, 3] rfl) hI hS
    refine lv_dload_n hx hb d_Mo_lengths_18 rfl (lv_at hl 2 rfl) ?_
    refine lv_ldc2d (v := 4593671619917905920) hx hb hown (hg _ k_887) d_Mo_lengths_19 ?_
    refine lv_ldc2d (v := 4636737291354636288) hx hb hown (hg _ k_888) d_Mo_lengths_22 ?_
    refine ec_i (va_runS (As := [.double x, .double 4593671619917905920, .double 4636737291354636288]) (rest := [.ref (Q 25)]) ⟨hx, hb, hml, hown, hts⟩ (m_Mo_in l G S0 (mW G Q X w0) x c0125 c100) (cwS 3 hts (gw_S k_889 k_890 k_67 k_891) rfl rfl rfl (by decide +kernel) ⟨Nat.le_of_ble_eq_true rfl, Nat.le_of_ble_eq_true rfl⟩) (eB.preS hE hI hS hz) rfl rfl hl.1 rfl (lv_room (Nat.le_of_ble_eq_true rfl)) d_Mo_lengths_25 ⟨Nat.le_of_ble_eq_true rfl, Nat.le_of_ble_eq_true rfl⟩) hS (fun q1 w_4 H locs ew_4 hI hsz hS => ?_)
    obtain ⟨eq1, ew_4⟩ := ew_4
    have ew_4 := ew_4.symm
    subst ew_4
    subst eq1
    refine mv_zeq (tgt := 49) hx hb (dIn x c0125 c100) rfl d_Mo_lengths_28 (by decide) (fun c2 => ?_) (fun c2 => ?_)
    · refine lv_iconst (v := 0) hx hb d_Mo_lengths_49 (by decide) ?_
      exact K (false) _ _ _ (⟨fun h => (by cases h), fun h => absurd (dIn_iff.mpr h.2.1) (by rw [c2]; decide)⟩) (lv_sub hl [0, 1, 2, 3] rfl) hI hS
    refine lv_dload hx hb d_Mo_lengths_31 (lv_at hl 3 rfl) ?_
    refine lv_ldc2d (v := 4593671619917905920) hx hb hown (hg _ k_887) d_Mo_lengths_33 ?_
    refine lv_ldc2d (v := 4636737291354636288) hx hb hown (hg _ k_888) d_Mo_lengths_36 ?_
    refine ec_i (va_runS (As := [.double y, .double 4593671619917905920, .double 4636737291354636288]) (rest := [.ref (Q 25)]) ⟨hx, hb, hml, hown, hts⟩ (m_Mo_in l G S0 (mW G Q X w0) y c0125 c100) (cwS 3 hts (gw_S k_889 k_890 k_67 k_891) rfl rfl rfl (by decide +kernel) ⟨Nat.le_of_ble_eq_true rfl, Nat.le_of_ble_eq_true rfl⟩) (eB.preS hE hI hS hz) rfl rfl hl.1 rfl (lv_room (Nat.le_of_ble_eq_true rfl)) d_Mo_lengths_39 ⟨Nat.le_of_ble_eq_true rfl, Nat.le_of_ble_eq_true rfl⟩) hS (fun q2 w_5 H locs ew_5 hI hsz hS => ?_)
    obtain ⟨eq2, ew_5⟩ := ew_5
    have ew_5 := ew_5.symm
    subst ew_5
    subst eq2
    refine mv_zeq (tgt := 49) hx hb (dIn y c0125 c100) rfl d_Mo_lengths_42 (by decide) (fun c3 => ?_) (fun c3 => ?_)
    · refine lv_iconst (v := 0) hx hb d_Mo_lengths_49 (by decide) ?_
      exact K (false) _ _ _ (⟨fun h => (by cases h), fun h => absurd (dIn_iff.mpr h.2.2) (by rw [c3]; decide)⟩) (lv_sub hl [0, 1, 2, 3] rfl) hI hS
    refine lv_iconst (v := 1) hx hb d_Mo_lengths_45 (by decide) ?_
    refine lv_goto (tgt := 50) hx hb d_Mo_lengths_46 (by decide) ?_
    exact K (true) _ _ _ (⟨fun _ => ⟨⟨k, hk, ek, ht, by rw [ekc]; exact fun e9 => absurd ((nI_eq (a := kc) (b := 0) (by omega) (by omega)).mp e9) (by omega)⟩, dIn_iff.mp c2, dIn_iff.mp c3⟩, fun _ => rfl⟩) (lv_sub hl [0, 1, 2, 3] rfl) hI hS

/-! the model: key frames away, cells, what is told -/
set_option maxHeartbeats 4000000 in
set_option maxRecDepth 100000 in
theorem m_Mo_unkey (l : Launch) (G : EG) (S0 : Nat) (Q : Nat → Nat) (hQ : qInj Q) (X : XS) (w0 : hp_M) (d : DS) (hM : mN X d) (n pr : Int32) : Met l y_Mo_unkey w_Mo_unkey (rl 2 0 0) (eP G S0 (mW G Q X w0) [.ref (Q 25), .int n, .int pr]) (va_Qv (fun z => (¬ (∃ k i, okUn d n pr k i) ∧ z = mW G Q (xsT X 1) w0) ∨ ∃ k i, okUn d n pr k i ∧ ((sTn d k i = 0 ∧ z = mW G Q (xsI (xsT X 2) 10 (upd (X.1 10) (k * 4 + i) 0)) w0) ∨ (sTn d k i ≠ 0 ∧ z = mW G Q (xsI (xsT X 0) 10 (upd (X.1 10) (k * 4 + i) 0)) w0))) (eW G S0) (hp_A S0)) 0 0 (hp_A S0) := by
  refine Met.ofW (cc := b_Mo_unkey) (maxL := 3) (ret := none) (by decide) rfl ?_
  intro p e s m args below meth c s₁ B hml hv
  obtain ⟨rfl, hE, hI, hz⟩ := hv
  have hx := B.exec
  have hb := B.bytes
  have hr := B.returns
  have hts := atoms_spec (ws := w_Mo_unkey) B.pre
  have hg : ∀ w ∈ gw, w.before _ s = true := fun w h => hts w (List.mem_cons_of_mem _ h)
  have hown : s.vm.findClass "SceneEaselModel" = some m.cls := findClass_of_methodNamed B.named
  have hlocks := B.notSynchronized
  have hK := hE.K
  have hS : va_S (hp_A S0) s.heap s.heap [] := va_S.rf
  have hl := lv_entry ([.ref (Q 25), .int n, .int pr]) (n := 3) (Nat.le_of_ble_eq_true rfl)
  rw [lg_entry_eq]
  generalize (lg_sl ([.ref (Q 25), .int n, .int pr]) ++ List.replicate (3 - (lg_sl ([.ref (Q 25), .int n, .int pr])).length) Slot.unset).toArray = ls at hl ⊢
  have hl : lv_has ls 3 [(0, .ref (Q 25)), (1, .int n), (2, .int pr)] := hl
  refine lv_aload_n hx hb d_Mo_unkey_0 rfl (lv_at hl 0 rfl) ?_
  refine lv_aload_n hx hb d_Mo_unkey_1 rfl (lv_at hl 0 rfl) ?_
  refine lv_iload_n hx hb d_Mo_unkey_2 rfl (lv_at hl 1 rfl) ?_
  refine W.midw (G := G) (S0 := S0) (fun (b : Bool) => b = true ↔ ∃ k i, okUn d n pr k i) (fun (b : Bool) => (mW G Q X w0)) (fun (b : Bool) => [(0, .ref (Q 25)), (1, .int n), (2, .int pr)]) (fun (b : Bool) => 0) (fun (b : Bool) => 0) 3 23 (fun (b : Bool) => [.int (bI b), .ref (Q 25)]) ?_ (fun K => ?_)
  · rintro b ls H locs hP hl hI hS
    try dsimp only at hP hl hI ⊢
    refine ec_i (va_runV (As := [.int (bI b)]) (rest := []) ⟨hx, hb, hml, hown, hts⟩ (m_Mo_bad l G S0 Q hQ X w0 b) (cwV 1 hts (gw_V k_875 k_877 k_45 k_67 k_878) rfl rfl rfl (by decide +kernel) ⟨Nat.le_of_ble_eq_true rfl, Nat.le_of_ble_eq_true rfl⟩) (eB.preV hE hI hS hz rfl (mw_o hQ)) rfl rfl hl.1 rfl (lv_room (Nat.le_of_ble_eq_true rfl)) d_Mo_unkey_23 ⟨Nat.le_of_ble_eq_true rfl, Nat.le_of_ble_eq_true rfl⟩) hS (fun rb w_1 H locs ew_1 hI hsz hS => ?_)
    obtain ⟨erb, ew_1⟩ := ew_1
    subst ew_1
    subst erb
    refine mv_zeq (tgt := 30) hx hb (!b) rfl d_Mo_unkey_26 (by decide) (fun cb => ?_) (fun cb => ?_)
    · have hbt : b = true := by cases b with | true => rfl | false => cases cb
      obtain ⟨k, i, hok⟩ := hP.mp hbt
      obtain ⟨hk, ek, ht, hk0, hi, ei⟩ := hok
      have hok : okUn d n pr k i := ⟨hk, ek, ht, hk0, hi, ei⟩
      have hk4 := hM.k4 hk ht hi
      rw [ek, ei] at hl
      refine lv_aload_n hx hb d_Mo_unkey_30 rfl (lv_at hl 0 rfl) ?_
      refine hp_get (ci := 5) (v := .ref (Q 10)) (C := R_Mo) (T := F_Mo) (N := 28) hx hb hg i_Mo hown hK hI (mw_o hQ) rfl 10 (by decide) (hg _ k_783) (fun _ h9 => h9) rfl d_Mo_unkey_31 ?_
      refine lv_iload_n hx hb d_Mo_unkey_34 rfl (lv_at hl 1 rfl) ?_
      refine lv_iconst (v := 4) hx hb d_Mo_unkey_35 (by decide) ?_
      refine mv_imul hx hb k 4 rfl rfl d_Mo_unkey_36 ?_
      refine lv_iload_n hx hb d_Mo_unkey_37 rfl (lv_at hl 2 rfl) ?_
      refine mv_iadd hx hb (k * 4) i rfl rfl d_Mo_unkey_38 ?_
      refine mv_iald hx hb hK hI 0 (X.1 10) (mw_10 hQ) rfl (k * 4 + i) (rfl) (by omega) (by decide) d_Mo_unkey_39 ?_
      refine mv_i (y := nI (sTn d k i)) (hM.kn hk ht hi) ?_
      refine mv_ine (tgt := 48) hx hb (sTn d k i) rfl (by omega) d_Mo_unkey_40 (by decide) (fun c1 => ?_) (fun c1 => ?_)
      · refine lv_aload_n hx hb d_Mo_unkey_48 rfl (lv_at hl 0 rfl) ?_
        refine hp_get (ci := 5) (v := .ref (Q 10)) (C := R_Mo) (T := F_Mo) (N := 28) hx hb hg i_Mo hown hK hI (mw_o hQ) rfl 10 (by decide) (hg _ k_783) (fun _ h9 => h9) rfl d_Mo_unkey_49 ?_
        refine lv_iload_n hx hb d_Mo_unkey_52 rfl (lv_at hl 1 rfl) ?_
        refine lv_iconst (v := 4) hx hb d_Mo_unkey_53 (by decide) ?_
        refine mv_imul hx hb k 4 rfl rfl d_Mo_unkey_54 ?_
        refine lv_iload_n hx hb d_Mo_unkey_55 rfl (lv_at hl 2 rfl) ?_
        refine mv_iadd hx hb (k * 4) i rfl rfl d_Mo_unkey_56 ?_
        refine lv_iconst (v := 0) hx hb d_Mo_unkey_57 (by decide) ?_
        refine mv_iast hx hb hK hI hS 0 (X.1 10) (mw_10 hQ) rfl (k * 4 + i) (fun f9 => mW G Q (xsI (xsT X (bI (!b))) 10 f9) w0) (fun _ => mws_10 hQ) (rfl) (by omega) (by decide) d_Mo_unkey_58 (fun H locs f_1 ef_1 hI hS hsz => ?_)
        try dsimp only at hI
        exact W.vret hx hb hr (fun t9 ht9 hW9 => ⟨⟨(mW G Q (xsI (xsT X (bI (!b))) 10 f_1) w0), rfl, Or.inr ⟨k, i, hok, Or.inr ⟨c1, by rw [ef_1, hbt]; rfl⟩⟩, eWo ht9 hI⟩, hS.F ht9⟩) hS.2.2 d_Mo_unkey_59
      · refine lv_aload_n hx hb d_Mo_unkey_43 rfl (lv_at hl 0 rfl) ?_
        refine lv_iconst (v := 2) hx hb d_Mo_unkey_44 (by decide) ?_
        refine hp_putC (ci := 5) (v := .int 2) (ty := .int) (C := R_Mo) (T := F_Mo) (N := 28) hx hb hg i_Mo t_Mo t_Mo_ok n_Mo hown hK hI hS (mw_o hQ) rfl 27 (by decide) (hg _ k_800) (fun _ h9 => h9) rfl (by decide +kernel) rfl rfl (Nat.le_of_ble_eq_true rfl) d_Mo_unkey_45 (fun H locs hI hS hsz => ?_)
        have hI : eI G S0 (mW G Q (xsT (xsT X (bI (!b))) 2) w0) H := by rw [← mws_T hQ]; exact hI
        refine lv_aload_n hx hb d_Mo_unkey_48 rfl (lv_at hl 0 rfl) ?_
        refine hp_get (ci := 5) (v := .ref (Q 10)) (C := R_Mo) (T := F_Mo) (N := 28) hx hb hg i_Mo hown hK hI (mw_o hQ) rfl 10 (by decide) (hg _ k_783) (fun _ h9 => h9) rfl d_Mo_unkey_49 ?_
        refine lv_iload_n hx hb d_Mo_unkey_52 rfl (lv_at hl 1 rfl) ?_
        refine lv_iconst (v := 4) hx hb d_Mo_unkey_53 (by decide) ?_
        refine mv_imul hx hb k 4 rfl rfl d_Mo_unkey_54 ?_
        refine lv_iload_n hx hb d_Mo_unkey_55 rfl (lv_at hl 2 rfl) ?_
        refine mv_iadd hx hb (k * 4) i rfl rfl d_Mo_unkey_56 ?_
        refine lv_iconst (v := 0) hx hb d_Mo_unkey_57 (by decide) ?_
        refine mv_iast hx hb hK hI hS 0 (X.1 10) (mw_10 hQ) rfl (k * 4 + i) (fun f9 => mW G Q (xsI (xsT (xsT X (bI (!b))) 2) 10 f9) w0) (fun _ => mws_10 hQ) (rfl) (by omega) (by decide) d_Mo_unkey_58 (fun H locs f_2 ef_2 hI hS hsz => ?_)
        try dsimp only at hI
        exact W.vret hx hb hr (fun t9 ht9 hW9 => ⟨⟨(mW G Q (xsI (xsT (xsT X (bI (!b))) 2) 10 f_2) w0), rfl, Or.inr ⟨k, i, hok, Or.inl ⟨c1, by rw [ef_2]; rfl⟩⟩, eWo ht9 hI⟩, hS.F ht9⟩) hS.2.2 d_Mo_unkey_59
    · have hbt : b = false := by cases b with | true => cases cb | false => rfl
      exact W.vret hx hb hr (fun t9 ht9 hW9 => ⟨⟨(mW G Q (xsT X (bI (!b))) w0), rfl, Or.inl ⟨fun h => (by rw [hP.mpr h] at hbt; cases hbt), by rw [hbt]; rfl⟩, eWo ht9 hI⟩, hS.F ht9⟩) hS.2.2 d_Mo_unkey_29
  · refine ec_i (va_runV (As := [.int n]) (rest := [.ref (Q 25)]) ⟨hx, hb, hml, hown, hts⟩ (m_Mo_isOther l G S0 Q hQ X w0 d hM n) (cwV 1 hts (gw_V k_896 k_898 k_47 k_67 k_899) rfl rfl rfl (by decide +kernel) ⟨Nat.le_of_ble_eq_true rfl, Nat.le_of_ble_eq_true rfl⟩) (eB.preV hE hI hS hz rfl (mw_o hQ)) rfl rfl hl.1 rfl (lv_room (Nat.le_of_ble_eq_true rfl)) d_Mo_unkey_3 ⟨Nat.le_of_ble_eq_true rfl, Nat.le_of_ble_eq_true rfl⟩) hS (fun r_3 w_2 H locs ew_2 hI hsz hS => ?_)
    obtain ⟨ew_2, h1⟩ := ew_2
    have ew_2 := ew_2.symm
    subst ew_2
    obtain ⟨b, eb, h1⟩ := h1
    subst eb
    refine mv_zeq (tgt := 22) hx hb b rfl d_Mo_unkey_6 (by decide) (fun c1 => ?_) (fun c1 => ?_)
    · refine lv_iconst (v := 0) hx hb d_Mo_unkey_22 (by decide) ?_
      exact K (false) _ _ _ (⟨fun h => (by cases h), fun ⟨k, i, q1, q2, q3, q4, _⟩ => absurd (h1.mpr ⟨⟨k, q1, q2, q3⟩, fun e => q4 ((nI_eq (a := k) (b := 0) (by omega) (by decide)).mp (q2.symm.trans e))⟩) (by rw [c1]; decide)⟩) (lv_sub hl [0, 1, 2] rfl) hI hS
    refine lv_iload_n hx hb d_Mo_unkey_9 rfl (lv_at hl 2 rfl) ?_
    refine lv_if_lt (tgt := 22) hx hb d_Mo_unkey_10 (by decide) (fun c2 => ?_) (fun c2 => ?_)
    · refine lv_iconst (v := 0) hx hb d_Mo_unkey_22 (by decide) ?_
      exact K (false) _ _ _ (⟨fun h => (by cases h), fun ⟨k, i, q1, q2, q3, q4, q5, q6⟩ => absurd c2 (by rw [q6]; exact nI_nlt0 (by omega))⟩) (lv_sub hl [0, 1, 2] rfl) hI hS
    refine lv_iload_n hx hb d_Mo_unkey_13 rfl (lv_at hl 2 rfl) ?_
    refine lv_iconst (v := 4) hx hb d_Mo_unkey_14 (by decide) ?_
    refine lv_icmp_ge (tgt := 22) hx hb d_Mo_unkey_15 (by decide) (fun c3 => ?_) (fun c3 => ?_)
    · refine lv_iconst (v := 0) hx hb d_Mo_unkey_22 (by decide) ?_
      exact K (false) _ _ _ (⟨fun h => (by cases h), fun ⟨k, i, q1, q2, q3, q4, q5, q6⟩ => absurd c3 (by rw [q6]; exact fun q => absurd ((nI_leI (a := 4) (b := i) (by omega) (by omega)).mp q) (by omega))⟩) (lv_sub hl [0, 1, 2] rfl) hI hS
    obtain ⟨⟨k, hk, ek, ht⟩, hn0⟩ := h1.mp c1
    obtain ⟨i, hi, ei⟩ := i32_4 ⟨Int32.not_lt.mp c2, (i32_lt 4 3 (by decide)).mp (Int32.not_le.mp c3)⟩
    refine lv_iconst (v := 1) hx hb d_Mo_unkey_18 (by decide) ?_
    refine lv_goto (tgt := 23) hx hb d_Mo_unkey_19 (by decide) ?_
    exact K (true) _ _ _ (⟨fun _ => ⟨k, i, hk, ek, ht, fun e => hn0 (by rw [ek, e]; rfl), hi, ei⟩, fun _ => rfl⟩) (lv_sub hl [0, 1, 2] rfl) hI hS
set_option maxHeartbeats 4000000 in
set_option maxRecDepth 100000 in
theorem m_Mo_cell (l : Launch) (G : EG) (S0 : Nat) (Q : Nat → Nat) (hQ : qInj Q) (X : XS) (w0 : hp_M) (a b : Int32) : Met l y_Mo_cell w_Mo_cell (rl 1 0 0) (eP G S0 (mW G Q X w0) [.ref (Q 25), .int a, .int b]) (va_Qi (fun r z => (¬ ((0 ≤ a ∧ a ≤ 15) ∧ (0 ≤ b ∧ b ≤ 11)) ∧ z = mW G Q (xsT X 1) w0) ∨ (z = mW G Q (xsT X 0) w0 ∧ ∃ i j, i < 16 ∧ j < 12 ∧ a = nI i ∧ b = nI j ∧ r = X.1 24 (j * 16 + i))) (eW G S0) (hp_A S0)) 0 0 (hp_A S0) := by
  refine Met.ofW (cc := b_Mo_cell) (maxL := 3) (ret := (some .int)) (by decide) rfl ?_
  intro p e s m args below meth c s₁ B hml hv
  obtain ⟨rfl, hE, hI, hz⟩ := hv
  have hx := B.exec
  have hb := B.bytes
  have hr := B.returns
  have hts := atoms_spec (ws := w_Mo_cell) B.pre
  have hg : ∀ w ∈ gw, w.before _ s = true := fun w h => hts w (List.mem_cons_of_mem _ h)
  have hown : s.vm.findClass "SceneEaselModel" = some m.cls := findClass_of_methodNamed B.named
  have hlocks := B.notSynchronized
  have hK := hE.K
  have hS : va_S (hp_A S0) s.heap s.heap [] := va_S.rf
  have hl := lv_entry ([.ref (Q 25), .int a, .int b]) (n := 3) (Nat.le_of_ble_eq_true rfl)
  rw [lg_entry_eq]
  generalize (lg_sl ([.ref (Q 25), .int a, .int b]) ++ List.replicate (3 - (lg_sl ([.ref (Q 25), .int a, .int b])).length) Slot.unset).toArray = ls at hl ⊢
  have hl : lv_has ls 3 [(0, .ref (Q 25)), (1, .int a), (2, .int b)] := hl
  refine lv_aload_n hx hb d_Mo_cell_0 rfl (lv_at hl 0 rfl) ?_
  refine lv_iload_n hx hb d_Mo_cell_1 rfl (lv_at hl 1 rfl) ?_
  refine W.midw (G := G) (S0 := S0) (fun (o : Bool) => o = true ↔ (0 ≤ a ∧ a ≤ 15) ∧ (0 ≤ b ∧ b ≤ 11)) (fun (o : Bool) => (mW G Q X w0)) (fun (o : Bool) => [(0, .ref (Q 25)), (1, .int a), (2, .int b)]) (fun (o : Bool) => 0) (fun (o : Bool) => 0) 3 26 (fun (o : Bool) => [.int (bI o), .ref (Q 25)]) ?_ (fun K => ?_)
  · rintro o ls H locs hP hl hI hS
    try dsimp only at hP hl hI ⊢
    refine ec_i (va_runV (As := [.int (bI o)]) (rest := []) ⟨hx, hb, hml, hown, hts⟩ (m_Mo_bad l G S0 Q hQ X w0 o) (cwV 1 hts (gw_V k_875 k_877 k_45 k_67 k_878) rfl rfl rfl (by decide +kernel) ⟨Nat.le_of_ble_eq_true rfl, Nat.le_of_ble_eq_true rfl⟩) (eB.preV hE hI hS hz rfl (mw_o hQ)) rfl rfl hl.1 rfl (lv_room (Nat.le_of_ble_eq_true rfl)) d_Mo_cell_26 ⟨Nat.le_of_ble_eq_true rfl, Nat.le_of_ble_eq_true rfl⟩) hS (fun rb w_1 H locs ew_1 hI hsz hS => ?_)
    obtain ⟨erb, ew_1⟩ := ew_1
    subst ew_1
    subst erb
    refine mv_zeq (tgt := 34) hx hb (!o) rfl d_Mo_cell_29 (by decide) (fun cb => ?_) (fun cb => ?_)
    · have hbt : o = true := by cases o with | true => rfl | false => cases cb
      obtain ⟨ha, hb'⟩ := hP.mp hbt
      obtain ⟨i, hi1, ei⟩ := nI_of2 (M := 15) (n := 15) (by decide) (Int32.not_lt.mpr ha.1) ha.2
      obtain ⟨j, hj1, ej⟩ := nI_of2 (M := 11) (n := 11) (by decide) (Int32.not_lt.mpr hb'.1) hb'.2
      rw [ei, ej] at hl
      refine lv_aload_n hx hb d_Mo_cell_34 rfl (lv_at hl 0 rfl) ?_
      refine hp_get (ci := 5) (v := .ref (Q 24)) (C := R_Mo) (T := F_Mo) (N := 28) hx hb hg i_Mo hown hK hI (mw_o hQ) rfl 24 (by decide) (hg _ k_797) (fun _ h9 => h9) rfl d_Mo_cell_35 ?_
      refine lv_iload_n hx hb d_Mo_cell_38 rfl (lv_at hl 2 rfl) ?_
      refine lv_bipush (v := 16) hx hb d_Mo_cell_39 (by decide) ?_
      refine mv_imul hx hb j 16 rfl rfl d_Mo_cell_41 ?_
      refine lv_iload_n hx hb d_Mo_cell_42 rfl (lv_at hl 1 rfl) ?_
      refine mv_iadd hx hb (j * 16) i rfl rfl d_Mo_cell_43 ?_
      refine mv_iald hx hb hK hI 0 (X.1 24) (mw_24 hQ) rfl (j * 16 + i) (rfl) (by omega) (by decide) d_Mo_cell_44 ?_
      exact W.iret (v := ((X.1 24) (j * 16 + i))) hx hb hr (fun t9 ht9 hW9 => ⟨⟨((X.1 24) (j * 16 + i)), (mW G Q (xsT X (bI (!o))) w0), rfl, Or.inr ⟨by rw [hbt]; rfl, i, j, by omega, by omega, ei, ej, rfl⟩, eWo ht9 hI⟩, hS.F ht9⟩) hS.2.2 d_Mo_cell_45
    · have hbt : o = false := by cases o with | true => cases cb | false => rfl
      refine lv_iconst (v := 0) hx hb d_Mo_cell_32 (by decide) ?_
      exact W.iret (v := 0) hx hb hr (fun t9 ht9 hW9 => ⟨⟨0, (mW G Q (xsT X (bI (!o))) w0), rfl, Or.inl ⟨fun h => (by rw [hP.mpr h] at hbt; cases hbt), by rw [hbt]; rfl⟩, eWo ht9 hI⟩, hS.F ht9⟩) hS.2.2 d_Mo_cell_33
  · refine lv_if_lt (tgt := 25) hx hb d_Mo_cell_2 (by decide) (fun c1 => ?_) (fun c1 => ?_)
    · refine lv_iconst (v := 0) hx hb d_Mo_cell_25 (by decide) ?_
      exact K (false) _ _ _ (⟨fun h => (by cases h), fun h => absurd h.1.1 (Int32.not_le.mpr c1)⟩) (lv_sub hl [0, 1, 2] rfl) hI hS
    refine lv_iload_n hx hb d_Mo_cell_5 rfl (lv_at hl 1 rfl) ?_
    refine lv_bipush (v := 16) hx hb d_Mo_cell_6 (by decide) ?_
    refine lv_icmp_ge (tgt := 25) hx hb d_Mo_cell_8 (by decide) (fun c2 => ?_) (fun c2 => ?_)
    · refine lv_iconst (v := 0) hx hb d_Mo_cell_25 (by decide) ?_
      exact K (false) _ _ _ (⟨fun h => (by cases h), fun h => absurd ((i32_lt 16 15 (by decide)).mpr h.1.2) (Int32.not_lt.mpr c2)⟩) (lv_sub hl [0, 1, 2] rfl) hI hS
    refine lv_iload_n hx hb d_Mo_cell_11 rfl (lv_at hl 2 rfl) ?_
    refine lv_if_lt (tgt := 25) hx hb d_Mo_cell_12 (by decide) (fun c3 => ?_) (fun c3 => ?_)
    · refine lv_iconst (v := 0) hx hb d_Mo_cell_25 (by decide) ?_
      exact K (false) _ _ _ (⟨fun h => (by cases h), fun h => absurd h.2.1 (Int32.not_le.mpr c3)⟩) (lv_sub hl [0, 1, 2] rfl) hI hS
    refine lv_iload_n hx hb d_Mo_cell_15 rfl (lv_at hl 2 rfl) ?_
    refine lv_bipush (v := 12) hx hb d_Mo_cell_16 (by decide) ?_
    refine lv_icmp_ge (tgt := 25) hx hb d_Mo_cell_18 (by decide) (fun c4 => ?_) (fun c4 => ?_)
    · refine lv_iconst (v := 0) hx hb d_Mo_cell_25 (by decide) ?_
      exact K (false) _ _ _ (⟨fun h => (by cases h), fun h => absurd ((i32_lt 12 11 (by decide)).mpr h.2.2) (Int32.not_lt.mpr c4)⟩) (lv_sub hl [0, 1, 2] rfl) hI hS
    refine lv_iconst (v := 1) hx hb d_Mo_cell_21 (by decide) ?_
    refine lv_goto (tgt := 26) hx hb d_Mo_cell_22 (by decide) ?_
    exact K (true) _ _ _ (⟨fun _ => ⟨⟨Int32.not_lt.mp c1, (i32_lt 16 15 (by decide)).mp (Int32.not_le.mp c2)⟩, Int32.not_lt.mp c3, (i32_lt 12 11 (by decide)).mp (Int32.not_le.mp c4)⟩, fun _ => rfl⟩) (lv_sub hl [0, 1, 2] rfl) hI hS
set_option maxHeartbeats 4000000 in
set_option maxRecDepth 100000 in
theorem m_Mo_told (l : Launch) (G : EG) (S0 : Nat) (Q : Nat → Nat) (hQ : qInj Q) (X : XS) (w0 : hp_M) (d : DS) (hM : mN X d) (dp : Nat → Nat) (htr : tOk d dp) (n wh : Int32) : Met l y_Mo_told w_Mo_told (rl 2 0 0) (eP G S0 (mW G Q X w0) [.ref (Q 25), .int n, .int wh]) (va_Qi (fun r z => (¬ (isN d n ∧ (0 ≤ wh ∧ wh ≤ 4)) ∧ z = mW G Q (xsT X 1) w0) ∨ (z = mW G Q (xsT X 0) w0 ∧ ∃ k j, k < 14 ∧ n = nI k ∧ sTh d k = true ∧ j < 5 ∧ wh = nI j ∧ r = tolF d k j)) (eW G S0) (hp_A S0)) 0 0 (hp_A S0) := by
  refine Met.ofW (cc := b_Mo_told) (maxL := 3) (ret := (some .int)) (by decide) rfl ?_
  intro p e s m args below meth c s₁ B hml hv
  obtain ⟨rfl, hE, hI, hz⟩ := hv
  have hx := B.exec
  have hb := B.bytes
  have hr := B.returns
  have hts := atoms_spec (ws := w_Mo_told) B.pre
  have hg : ∀ w ∈ gw, w.before _ s = true := fun w h => hts w (List.mem_cons_of_mem _ h)
  have hown : s.vm.findClass "SceneEaselModel" = some m.cls := findClass_of_methodNamed B.named
  have hlocks := B.notSynchronized
  have hK := hE.K
  have hS : va_S (hp_A S0) s.heap s.heap [] := va_S.rf
  have hl := lv_entry ([.ref (Q 25), .int n, .int wh]) (n := 3) (Nat.le_of_ble_eq_true rfl)
  rw [lg_entry_eq]
  generalize (lg_sl ([.ref (Q 25), .int n, .int wh]) ++ List.replicate (3 - (lg_sl ([.ref (Q 25), .int n, .int wh])).length) Slot.unset).toArray = ls at hl ⊢
  have hl : lv_has ls 3 [(0, .ref (Q 25)), (1, .int n), (2, .int wh)] := hl
  refine lv_aload_n hx hb d_Mo_told_0 rfl (lv_at hl 0 rfl) ?_
  refine lv_aload_n hx hb d_Mo_told_1 rfl (lv_at hl 0 rfl) ?_
  refine lv_iload_n hx hb d_Mo_told_2 rfl (lv_at hl 1 rfl) ?_
  refine W.midw (G := G) (S0 := S0) (fun (b : Bool) => b = true ↔ isN d n ∧ (0 ≤ wh ∧ wh ≤ 4)) (fun (b : Bool) => (mW G Q X w0)) (fun (b : Bool) => [(0, .ref (Q 25)), (1, .int n), (2, .int wh)]) (fun (b : Bool) => 0) (fun (b : Bool) => 0) 3 23 (fun (b : Bool) => [.int (bI b), .ref (Q 25)]) ?_ (fun K => ?_)
  · rintro b ls H locs hP hl hI hS
    try dsimp only at hP hl hI ⊢
    refine ec_i (va_runV (As := [.int (bI b)]) (rest := []) ⟨hx, hb, hml, hown, hts⟩ (m_Mo_bad l G S0 Q hQ X w0 b) (cwV 1 hts (gw_V k_875 k_877 k_45 k_67 k_878) rfl rfl rfl (by decide +kernel) ⟨Nat.le_of_ble_eq_true rfl, Nat.le_of_ble_eq_true rfl⟩) (eB.preV hE hI hS hz rfl (mw_o hQ)) rfl rfl hl.1 rfl (lv_room (Nat.le_of_ble_eq_true rfl)) d_Mo_told_23 ⟨Nat.le_of_ble_eq_true rfl, Nat.le_of_ble_eq_true rfl⟩) hS (fun rb w_1 H locs ew_1 hI hsz hS => ?_)
    obtain ⟨erb, ew_1⟩ := ew_1
    subst ew_1
    subst erb
    refine mv_zeq (tgt := 31) hx hb (!b) rfl d_Mo_told_26 (by decide) (fun cb => ?_) (fun cb => ?_)
    · have hbt : b = true := by cases b with | true => rfl | false => cases cb
      obtain ⟨⟨k, hk, ek, ht⟩, hw⟩ := hP.mp hbt
      obtain ⟨j, hj1, ej⟩ := nI_of2 (M := 4) (n := 4) (by decide) (Int32.not_lt.mpr hw.1) hw.2
      have hlen := htr.len hk ht
      have ew : mW G Q (xsT X (bI (!b))) w0 = mW G Q (xsT X 0) w0 := by rw [hbt]; rfl
      rw [ek, ej] at hl
      refine lv_iload_n hx hb d_Mo_told_31 rfl (lv_at hl 2 rfl) ?_
      refine lv_iconst (v := 2) hx hb d_Mo_told_32 (by decide) ?_
      refine mv_cge (tgt := 56) hx hb j 2 rfl rfl (by omega) (by omega) d_Mo_told_33 (by decide) (fun c1 => ?_) (fun c1 => ?_)
      · refine lv_iload_n hx hb d_Mo_told_56 rfl (lv_at hl 2 rfl) ?_
        refine lv_iconst (v := 2) hx hb d_Mo_told_57 (by decide) ?_
        refine mv_cne (tgt := 70) hx hb j 2 rfl rfl (by omega) (by omega) d_Mo_told_58 (by decide) (fun c2 => ?_) (fun c2 => ?_)
        · refine lv_iload_n hx hb d_Mo_told_70 rfl (lv_at hl 2 rfl) ?_
          refine lv_iconst (v := 3) hx hb d_Mo_told_71 (by decide) ?_
          refine mv_cne (tgt := 83) hx hb j 3 rfl rfl (by omega) (by omega) d_Mo_told_72 (by decide) (fun c3 => ?_) (fun c3 => ?_)
          · refine lv_aload_n hx hb d_Mo_told_83 rfl (lv_at hl 0 rfl) ?_
            refine lv_iload_n hx hb d_Mo_told_84 rfl (lv_at hl 1 rfl) ?_
            refine ec_i (va_runV (As := [.int (nI k)]) (rest := []) ⟨hx, hb, hml, hown, hts⟩ (m_Mo_keysOf l G S0 Q hQ (xsT X (bI (!b))) w0 d hM.T k hk ht) (cwV 1 hts (gw_V k_1011 k_1013 k_58 k_67 k_1014) rfl rfl rfl (by decide +kernel) ⟨Nat.le_of_ble_eq_true rfl, Nat.le_of_ble_eq_true rfl⟩) (eB.preV hE hI hS hz rfl (mw_o hQ)) rfl rfl hl.1 rfl (lv_room (Nat.le_of_ble_eq_true rfl)) d_Mo_told_85 ⟨Nat.le_of_ble_eq_true rfl, Nat.le_of_ble_eq_true rfl⟩) hS (fun q1 w_2 H locs ew_2 hI hsz hS => ?_)
            obtain ⟨eq1, ew_2⟩ := ew_2
            have ew_2 := ew_2.symm
            subst ew_2
            exact W.iret (v := q1) hx hb hr (fun t9 ht9 hW9 => ⟨⟨q1, (mW G Q (xsT X (bI (!b))) w0), rfl, Or.inr ⟨ew, k, j, hk, ek, ht, by omega, ej, by rw [eq1]; unfold tolF; rw [if_neg (by omega), if_neg (by omega), if_neg (by omega), if_neg (by omega)]⟩, eWo ht9 hI⟩, hS.F ht9⟩) hS.2.2 d_Mo_told_88
          · refine lv_aload_n hx hb d_Mo_told_75 rfl (lv_at hl 0 rfl) ?_
            refine lv_iload_n hx hb d_Mo_told_76 rfl (lv_at hl 1 rfl) ?_
            refine ec_i (va_runV (As := [.int (nI k)]) (rest := []) ⟨hx, hb, hml, hown, hts⟩ (m_Mo_placeOf l G S0 Q hQ (xsT X (bI (!b))) w0 d dp htr hM.T.2 k hk ht) (cwV 1 hts (gw_V k_948 k_950 k_51 k_67 k_951) rfl rfl rfl (by decide +kernel) ⟨Nat.le_of_ble_eq_true rfl, Nat.le_of_ble_eq_true rfl⟩) (eB.preV hE hI hS hz rfl (mw_o hQ)) rfl rfl hl.1 rfl (lv_room (Nat.le_of_ble_eq_true rfl)) d_Mo_told_77 ⟨Nat.le_of_ble_eq_true rfl, Nat.le_of_ble_eq_true rfl⟩) hS (fun q1 w_3 H locs ew_3 hI hsz hS => ?_)
            obtain ⟨eq1, ew_3⟩ := ew_3
            have ew_3 := ew_3.symm
            subst ew_3
            refine lv_goto (tgt := 88) hx hb d_Mo_told_80 (by decide) ?_
            exact W.iret (v := q1) hx hb hr (fun t9 ht9 hW9 => ⟨⟨q1, (mW G Q (xsT X (bI (!b))) w0), rfl, Or.inr ⟨ew, k, j, hk, ek, ht, by omega, ej, by rw [eq1]; unfold tolF; rw [if_neg (by omega), if_neg (by omega), if_neg (by omega), if_pos (by omega)]⟩, eWo ht9 hI⟩, hS.F ht9⟩) hS.2.2 d_Mo_told_88
        · refine lv_aload_n hx hb d_Mo_told_61 rfl (lv_at hl 0 rfl) ?_
          refine hp_get (ci := 5) (v := .ref (Q 7)) (C := R_Mo) (T := F_Mo) (N := 28) hx hb hg i_Mo hown hK hI (mw_o hQ) rfl 7 (by decide) (hg _ k_780) (fun _ h9 => h9) rfl d_Mo_told_62 ?_
          refine lv_iload_n hx hb d_Mo_told_65 rfl (lv_at hl 1 rfl) ?_
          refine mv_iald hx hb hK hI 0 (X.1 7) (mw_7 hQ) rfl k (rfl) (by omega) (by decide) d_Mo_told_66 ?_
          refine mv_i (y := nI (sCh d k).length) (hM.ct hk ht) ?_
          refine lv_goto (tgt := 88) hx hb d_Mo_told_67 (by decide) ?_
          exact W.iret (v := (nI (sCh d k).length)) hx hb hr (fun t9 ht9 hW9 => ⟨⟨(nI (sCh d k).length), (mW G Q (xsT X (bI (!b))) w0), rfl, Or.inr ⟨ew, k, j, hk, ek, ht, by omega, ej, by unfold tolF; rw [if_neg (by omega), if_neg (by omega), if_pos (by omega)]⟩, eWo ht9 hI⟩, hS.F ht9⟩) hS.2.2 d_Mo_told_88
      · refine lv_iload_n hx hb d_Mo_told_36 rfl (lv_at hl 2 rfl) ?_
        refine mv_ine (tgt := 49) hx hb j rfl (by omega) d_Mo_told_37 (by decide) (fun c2 => ?_) (fun c2 => ?_)
        · refine lv_aload_n hx hb d_Mo_told_49 rfl (lv_at hl 0 rfl) ?_
          refine hp_get (ci := 5) (v := .ref (Q 6)) (C := R_Mo) (T := F_Mo) (N := 28) hx hb hg i_Mo hown hK hI (mw_o hQ) rfl 6 (by decide) (hg _ k_779) (fun _ h9 => h9) rfl d_Mo_told_50 ?_
          refine lv_iload_n hx hb d_Mo_told_53 rfl (lv_at hl 1 rfl) ?_
          refine mv_iald hx hb hK hI 0 (X.1 6) (mw_6 hQ) rfl k (rfl) (by omega) (by decide) d_Mo_told_54 ?_
          refine mv_i (y := pCd (sPa d k)) (hM.pa hk ht) ?_
          exact W.iret (v := (pCd (sPa d k))) hx hb hr (fun t9 ht9 hW9 => ⟨⟨(pCd (sPa d k)), (mW G Q (xsT X (bI (!b))) w0), rfl, Or.inr ⟨ew, k, j, hk, ek, ht, by omega, ej, by unfold tolF; rw [if_neg (by omega), if_pos (by omega)]; rfl⟩, eWo ht9 hI⟩, hS.F ht9⟩) hS.2.2 d_Mo_told_55
        · refine lv_aload_n hx hb d_Mo_told_40 rfl (lv_at hl 0 rfl) ?_
          refine hp_get (ci := 5) (v := .ref (Q 4)) (C := R_Mo) (T := F_Mo) (N := 28) hx hb hg i_Mo hown hK hI (mw_o hQ) rfl 4 (by decide) (hg _ k_777) (fun _ h9 => h9) rfl d_Mo_told_41 ?_
          refine lv_iload_n hx hb d_Mo_told_44 rfl (lv_at hl 1 rfl) ?_
          refine mv_iald hx hb hK hI 0 (X.1 4) (mw_4 hQ) rfl k (rfl) (by omega) (by decide) d_Mo_told_45 ?_
          refine mv_i (y := sNi d k 0) (hM.ki hk ht) ?_
          refine lv_goto (tgt := 55) hx hb d_Mo_told_46 (by decide) ?_
          exact W.iret (v := (sNi d k 0)) hx hb hr (fun t9 ht9 hW9 => ⟨⟨(sNi d k 0), (mW G Q (xsT X (bI (!b))) w0), rfl, Or.inr ⟨ew, k, j, hk, ek, ht, by omega, ej, by unfold tolF; rw [if_pos (by omega)]⟩, eWo ht9 hI⟩, hS.F ht9⟩) hS.2.2 d_Mo_told_55
    · have hbt : b = false := by cases b with | true => cases cb | false => rfl
      refine lv_iconst (v := 0) hx hb d_Mo_told_29 (by decide) ?_
      exact W.iret (v := 0) hx hb hr (fun t9 ht9 hW9 => ⟨⟨0, (mW G Q (xsT X (bI (!b))) w0), rfl, Or.inl ⟨fun h => (by rw [hP.mpr h] at hbt; cases hbt), by rw [hbt]; rfl⟩, eWo ht9 hI⟩, hS.F ht9⟩) hS.2.2 d_Mo_told_30
  · refine ec_i (va_runV (As := [.int n]) (rest := [.ref (Q 25)]) ⟨hx, hb, hml, hown, hts⟩ (m_Mo_is l G S0 Q hQ X w0 d hM n) (cwV 1 hts (gw_V k_871 k_873 k_44 k_67 k_874) rfl rfl rfl (by decide +kernel) ⟨Nat.le_of_ble_eq_true rfl, Nat.le_of_ble_eq_true rfl⟩) (eB.preV hE hI hS hz rfl (mw_o hQ)) rfl rfl hl.1 rfl (lv_room (Nat.le_of_ble_eq_true rfl)) d_Mo_told_3 ⟨Nat.le_of_ble_eq_true rfl, Nat.le_of_ble_eq_true rfl⟩) hS (fun r_5 w_4 H locs ew_4 hI hsz hS => ?_)
    obtain ⟨ew_4, h1⟩ := ew_4
    have ew_4 := ew_4.symm
    subst ew_4
    obtain ⟨b, eb, h1⟩ := h1
    subst eb
    refine mv_zeq (tgt := 22) hx hb b rfl d_Mo_told_6 (by decide) (fun c1 => ?_) (fun c1 => ?_)
    · refine lv_iconst (v := 0) hx hb d_Mo_told_22 (by decide) ?_
      exact K (false) _ _ _ (⟨fun h => (by cases h), fun h => absurd (h1.mpr h.1) (by rw [c1]; decide)⟩) (lv_sub hl [0, 1, 2] rfl) hI hS
    refine lv_iload_n hx hb d_Mo_told_9 rfl (lv_at hl 2 rfl) ?_
    refine lv_if_lt (tgt := 22) hx hb d_Mo_told_10 (by decide) (fun c2 => ?_) (fun c2 => ?_)
    · refine lv_iconst (v := 0) hx hb d_Mo_told_22 (by decide) ?_
      exact K (false) _ _ _ (⟨fun h => (by cases h), fun h => absurd h.2.1 (Int32.not_le.mpr c2)⟩) (lv_sub hl [0, 1, 2] rfl) hI hS
    refine lv_iload_n hx hb d_Mo_told_13 rfl (lv_at hl 2 rfl) ?_
    refine lv_iconst (v := 5) hx hb d_Mo_told_14 (by decide) ?_
    refine lv_icmp_ge (tgt := 22) hx hb d_Mo_told_15 (by decide) (fun c3 => ?_) (fun c3 => ?_)
    · refine lv_iconst (v := 0) hx hb d_Mo_told_22 (by decide) ?_
      exact K (false) _ _ _ (⟨fun h => (by cases h), fun h => absurd ((i32_lt 5 4 (by decide)).mpr h.2.2) (Int32.not_lt.mpr c3)⟩) (lv_sub hl [0, 1, 2] rfl) hI hS
    refine lv_iconst (v := 1) hx hb d_Mo_told_18 (by decide) ?_
    refine lv_goto (tgt := 23) hx hb d_Mo_told_19 (by decide) ?_
    exact K (true) _ _ _ (⟨fun _ => ⟨h1.mp c1, Int32.not_lt.mp c2, (i32_lt 5 4 (by decide)).mp (Int32.not_le.mp c3)⟩, fun _ => rfl⟩) (lv_sub hl [0, 1, 2] rfl) hI hS

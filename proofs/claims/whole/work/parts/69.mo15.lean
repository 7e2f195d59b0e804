/-! the model: top, paint -/
theorem tA_nz {d : DS} {nx : Nat → Nat → UInt64} {ns : Nat → Int32} : ∀ f k a b c, tA d nx ns f k a b = some c → sNi d c 0 ≠ 0
  | 0, _, _, _, _, h => by cases h
  | f + 1, k, a, b, c, h => by
    unfold tA at h
    split at h
    · split at h
      · obtain ⟨x, hx, a', b', hT⟩ := tIn_mem h
        exact tA_nz f x a' b' c hT
      · split at h
        · cases h; assumption
        · cases h
    · cases h
theorem topF_n {d : DS} {dp : Nat → Nat} (htr : tOk d dp) {u a b : UInt64} {c : Nat} (h : topF d u a b = some c) : c < 14 ∧ sTh d c = true ∧ c ≠ 0 := by
  obtain ⟨h1, h2⟩ := tTop_th htr h
  obtain ⟨x, hx, a', b', hT⟩ := tIn_mem h
  exact ⟨h1, h2, fun e => tA_nz 5 x a' b' c hT (by rw [e]; exact htr.2.2.1)⟩
theorem k_rem : ∀ k, k < 192 → nI k - nI k / 16 * 16 = nI (k % 16) := by decide +kernel
theorem k_div : ∀ k, k < 192 → nI k / 16 = nI (k / 16) := by decide +kernel
theorem mP.T {X : XS} {d : DS} {dp : Nat → Nat} {v : Int32} (h : mP X d dp) : mP (xsT X v) d dp := h
theorem mP.sc {X Y : XS} {d : DS} {dp : Nat → Nat} (h : mP X d dp) (hs : xSc Y X) : mP Y d dp := by
  obtain ⟨h1, ⟨L, h2⟩, h3⟩ := h
  exact ⟨h1.sc hs, ⟨L, h2.sc hs⟩, h3.sc hs⟩
set_option maxHeartbeats 4000000 in
set_option maxRecDepth 100000 in
theorem m_Mo_top (l : Launch) (G : EG) (S0 : Nat) (Q : Nat → Nat) (hQ : qInj Q) (X : XS) (w0 : hp_M) (d : DS) (dp : Nat → Nat) (htr : tOk d dp) (hP' : mP X d dp) (hv1 : vOk d) (hr0 : sNi d 0 3 = 0) (a b u : UInt64) (ha : fx3 a) (hb' : fx3 b) (hu : fx3 u) : Met l y_Mo_top w_Mo_top (rl 3 0 0) (eP G S0 (mW G Q X w0) [.ref (Q 25), .double a, .double b, .double u]) (va_Qi (fun r z => (¬ (inR a ∧ inR b ∧ inT u) ∧ z = mW G Q (xsT X 1) w0) ∨ ((inR a ∧ inR b ∧ inT u) ∧ ∃ Y, z = mW G Q Y w0 ∧ mP Y d dp ∧ ((topF d u a b = none ∧ Y.2.2.2.2 = 2) ∨ ∃ c, topF d u a b = some c ∧ r = nI c ∧ Y.2.2.2.2 = 0))) (eW G S0) (hp_A S0)) 0 0 (hp_A S0) := by
  refine Met.ofW (cc := b_Mo_top) (maxL := 7) (ret := (some .int)) (by decide) rfl ?_
  intro p e s m args below meth c s₁ B hml hv
  obtain ⟨rfl, hE, hI, hz⟩ := hv
  have hx := B.exec
  have hb := B.bytes
  have hr := B.returns
  have hts := atoms_spec (ws := w_Mo_top) B.pre
  have hg : ∀ w ∈ gw, w.before _ s = true := fun w h => hts w (List.mem_cons_of_mem _ h)
  have hown : s.vm.findClass "SceneEaselModel" = some m.cls := findClass_of_methodNamed B.named
  have hlocks := B.notSynchronized
  have hK := hE.K
  have hS : va_S (hp_A S0) s.heap s.heap [] := va_S.rf
  have hl := lv_entry ([.ref (Q 25), .double a, .double b, .double u]) (n := 7) (Nat.le_of_ble_eq_true rfl)
  rw [lg_entry_eq]
  generalize (lg_sl ([.ref (Q 25), .double a, .double b, .double u]) ++ List.replicate (7 - (lg_sl ([.ref (Q 25), .double a, .double b, .double u])).length) Slot.unset).toArray = ls at hl ⊢
  have hl : lv_has ls 7 [(0, .ref (Q 25)), (1, .double a), (3, .double b), (5, .double u)] := hl
  refine lv_aload_n hx hb d_Mo_top_0 rfl (lv_at hl 0 rfl) ?_
  refine lv_dload_n hx hb d_Mo_top_1 rfl (lv_at hl 1 rfl) ?_
  refine lv_ldc2d (v := 13875379345695965184) hx hb hown (hg _ k_988) d_Mo_top_2 ?_
  refine lv_ldc2d (v := 4652007308841189376) hx hb hown (hg _ k_918) d_Mo_top_5 ?_
  refine W.midw (G := G) (S0 := S0) (fun (o : Bool) => o = true ↔ inR a ∧ inR b ∧ inT u) (fun (o : Bool) => (mW G Q X w0)) (fun (o : Bool) => [(0, .ref (Q 25)), (1, .double a), (3, .double b), (5, .double u)]) (fun (o : Bool) => 0) (fun (o : Bool) => 0) 7 44 (fun (o : Bool) => [.int (bI o), .ref (Q 25)]) ?_ (fun K => ?_)
  · rintro o ls H locs hP hl hI hS
    try dsimp only at hP hl hI ⊢
    refine ec_i (va_runV (As := [.int (bI o)]) (rest := []) ⟨hx, hb, hml, hown, hts⟩ (m_Mo_bad l G S0 Q hQ X w0 o) (cwV 1 hts (gw_V k_875 k_877 k_45 k_67 k_878) rfl rfl rfl (by decide +kernel) ⟨Nat.le_of_ble_eq_true rfl, Nat.le_of_ble_eq_true rfl⟩) (eB.preV hE hI hS hz rfl (mw_o hQ)) rfl rfl hl.1 rfl (lv_room (Nat.le_of_ble_eq_true rfl)) d_Mo_top_44 ⟨Nat.le_of_ble_eq_true rfl, Nat.le_of_ble_eq_true rfl⟩) hS (fun rb w_1 H locs ew_1 hI hsz hS => ?_)
    obtain ⟨erb, ew_1⟩ := ew_1
    subst ew_1
    subst erb
    refine mv_zeq (tgt := 52) hx hb (!o) rfl d_Mo_top_47 (by decide) (fun cb => ?_) (fun cb => ?_)
    · have hbt : o = true := by cases o with | true => rfl | false => cases cb
      have hcd := hP.mp hbt
      have ebt : bI (!o) = 0 := by rw [hbt]; rfl
      rw [ebt] at hI
      obtain ⟨L, hO⟩ := hP'.2.1
      refine lv_aload_n hx hb d_Mo_top_52 rfl (lv_at hl 0 rfl) ?_
      refine lv_dload_n hx hb d_Mo_top_53 rfl (lv_at hl 1 rfl) ?_
      refine lv_dload_n hx hb d_Mo_top_54 rfl (lv_at hl 2 rfl) ?_
      refine lv_dload hx hb d_Mo_top_55 (lv_at hl 3 rfl) ?_
      refine ec_v (va_runV (As := [.double a, .double b, .double u]) (rest := []) ⟨hx, hb, hml, hown, hts⟩ (m_Mo_look l G S0 Q hQ (xsT X 0) w0 d dp htr hP'.1.T.2 L hO hv1 hr0 u a b (inT_ti hu hcd.2.2) (inR_p ha hcd.1) (inR_p hb' hcd.2.1)) (cwV 3 hts (gw_V k_961 k_963 k_52 k_67 k_964) rfl rfl rfl (by decide +kernel) ⟨Nat.le_of_ble_eq_true rfl, Nat.le_of_ble_eq_true rfl⟩) (eB.preV hE hI hS hz rfl (mw_o hQ)) rfl rfl hl.1 rfl (lv_room (Nat.le_of_ble_eq_true rfl)) d_Mo_top_57 ⟨Nat.le_of_ble_eq_true rfl, Nat.le_of_ble_eq_true rfl⟩) hS (fun w_2 H locs ew_2 hI hsz hS => ?_)
      obtain ⟨Y, ew_2, ⟨hsc, h2, h12⟩⟩ := ew_2
      subst ew_2
      have hPY := (hP'.T (v := 0)).sc hsc
      have hthr : Y.2.2.2.2 = 0 := by rw [hsc.2.2]; rfl
      refine lv_aload_n hx hb d_Mo_top_60 rfl (lv_at hl 0 rfl) ?_
      refine hp_get (ci := 5) (v := .ref (Q 2)) (C := R_Mo) (T := F_Mo) (N := 28) hx hb hg i_Mo hown hK hI (mw_o hQ) rfl 2 (by decide) (hg _ k_775) (fun _ h9 => h9) rfl d_Mo_top_61 ?_
      refine lv_iconst (v := 0) hx hb d_Mo_top_64 (by decide) ?_
      refine mv_zald hx hb hK hI 2 (Y.1 2) (mw_2 hQ) rfl 0 (rfl) (by omega) (by decide) d_Mo_top_65 ?_
      refine mv_i (y := bI (topF d u a b).isSome) (h2) ?_
      refine mv_zne (tgt := 74) hx hb (topF d u a b).isSome rfl d_Mo_top_66 (by decide) (fun c1 => ?_) (fun c1 => ?_)
      · obtain ⟨t, et⟩ := Option.isSome_iff_exists.mp c1
        refine lv_aload_n hx hb d_Mo_top_74 rfl (lv_at hl 0 rfl) ?_
        refine hp_get (ci := 5) (v := .ref (Q 2)) (C := R_Mo) (T := F_Mo) (N := 28) hx hb hg i_Mo hown hK hI (mw_o hQ) rfl 2 (by decide) (hg _ k_775) (fun _ h9 => h9) rfl d_Mo_top_75 ?_
        refine lv_iconst (v := 0) hx hb d_Mo_top_78 (by decide) ?_
        refine mv_zald hx hb hK hI 2 (Y.1 2) (mw_2 hQ) rfl 0 (rfl) (by omega) (by decide) d_Mo_top_79 ?_
        refine mv_i (y := bI (topF d u a b).isSome) (h2) ?_
        refine mv_zeq (tgt := 92) hx hb (topF d u a b).isSome rfl d_Mo_top_80 (by decide) (fun c2 => ?_) (fun c2 => ?_)
        · exact absurd (c1.symm.trans c2) (by decide)
        refine lv_aload_n hx hb d_Mo_top_83 rfl (lv_at hl 0 rfl) ?_
        refine hp_get (ci := 5) (v := .ref (Q 12)) (C := R_Mo) (T := F_Mo) (N := 28) hx hb hg i_Mo hown hK hI (mw_o hQ) rfl 12 (by decide) (hg _ k_785) (fun _ h9 => h9) rfl d_Mo_top_84 ?_
        refine lv_iconst (v := 0) hx hb d_Mo_top_87 (by decide) ?_
        refine mv_iald hx hb hK hI 0 (Y.1 12) (mw_12 hQ) rfl 0 (rfl) (by omega) (by decide) d_Mo_top_88 ?_
        refine mv_i (y := nI t) (h12 t et) ?_
        refine lv_goto (tgt := 93) hx hb d_Mo_top_89 (by decide) ?_
        exact W.iret (v := (nI t)) hx hb hr (fun t9 ht9 hW9 => ⟨⟨(nI t), (mW G Q Y w0), rfl, Or.inr ⟨hcd, Y, rfl, hPY, Or.inr ⟨t, et, rfl, hthr⟩⟩, eWo ht9 hI⟩, hS.F ht9⟩) hS.2.2 d_Mo_top_93
      · have et : topF d u a b = none := by cases hq : topF d u a b with | none => rfl | some t => rw [hq] at c1; cases c1
        refine lv_aload_n hx hb d_Mo_top_69 rfl (lv_at hl 0 rfl) ?_
        refine lv_iconst (v := 2) hx hb d_Mo_top_70 (by decide) ?_
        refine hp_putC (ci := 5) (v := .int 2) (ty := .int) (C := R_Mo) (T := F_Mo) (N := 28) hx hb hg i_Mo t_Mo t_Mo_ok n_Mo hown hK hI hS (mw_o hQ) rfl 27 (by decide) (hg _ k_800) (fun _ h9 => h9) rfl (by decide +kernel) rfl rfl (Nat.le_of_ble_eq_true rfl) d_Mo_top_71 (fun H locs hI hS hsz => ?_)
        have hI : eI G S0 (mW G Q (xsT Y 2) w0) H := by rw [← mws_T hQ]; exact hI
        refine lv_aload_n hx hb d_Mo_top_74 rfl (lv_at hl 0 rfl) ?_
        refine hp_get (ci := 5) (v := .ref (Q 2)) (C := R_Mo) (T := F_Mo) (N := 28) hx hb hg i_Mo hown hK hI (mw_o hQ) rfl 2 (by decide) (hg _ k_775) (fun _ h9 => h9) rfl d_Mo_top_75 ?_
        refine lv_iconst (v := 0) hx hb d_Mo_top_78 (by decide) ?_
        refine mv_zald hx hb hK hI 2 (Y.1 2) (mw_2 hQ) rfl 0 (rfl) (by omega) (by decide) d_Mo_top_79 ?_
        refine mv_i (y := bI (topF d u a b).isSome) (h2) ?_
        refine mv_zeq (tgt := 92) hx hb (topF d u a b).isSome rfl d_Mo_top_80 (by decide) (fun c2 => ?_) (fun c2 => ?_)
        · refine lv_iconst (v := 0) hx hb d_Mo_top_92 (by decide) ?_
          exact W.iret (v := 0) hx hb hr (fun t9 ht9 hW9 => ⟨⟨0, (mW G Q (xsT Y 2) w0), rfl, Or.inr ⟨hcd, _, rfl, hPY.T, Or.inl ⟨et, rfl⟩⟩, eWo ht9 hI⟩, hS.F ht9⟩) hS.2.2 d_Mo_top_93
        · exact absurd (c1.symm.trans c2) (by decide)
    · have hbt : o = false := by cases o with | true => cases cb | false => rfl
      refine lv_iconst (v := 0) hx hb d_Mo_top_50 (by decide) ?_
      exact W.iret (v := 0) hx hb hr (fun t9 ht9 hW9 => ⟨⟨0, (mW G Q (xsT X (bI (!o))) w0), rfl, Or.inl ⟨fun h => (by rw [hP.mpr h] at hbt; cases hbt), by rw [hbt]; rfl⟩, eWo ht9 hI⟩, hS.F ht9⟩) hS.2.2 d_Mo_top_51
  · refine ec_i (va_runS (As := [.double a, .double 13875379345695965184, .double 4652007308841189376]) (rest := [.ref (Q 25)]) ⟨hx, hb, hml, hown, hts⟩ (m_Mo_in l G S0 (mW G Q X w0) a cm1000 c1000) (cwS 3 hts (gw_S k_889 k_890 k_67 k_891) rfl rfl rfl (by decide +kernel) ⟨Nat.le_of_ble_eq_true rfl, Nat.le_of_ble_eq_true rfl⟩) (eB.preS hE hI hS hz) rfl rfl hl.1 rfl (lv_room (Nat.le_of_ble_eq_true rfl)) d_Mo_top_8 ⟨Nat.le_of_ble_eq_true rfl, Nat.le_of_ble_eq_true rfl⟩) hS (fun q1 w_3 H locs ew_3 hI hsz hS => ?_)
    obtain ⟨eq1, ew_3⟩ := ew_3
    have ew_3 := ew_3.symm
    subst ew_3
    subst eq1
    refine mv_zeq (tgt := 43) hx hb (dIn a cm1000 c1000) rfl d_Mo_top_11 (by decide) (fun c1 => ?_) (fun c1 => ?_)
    · refine lv_iconst (v := 0) hx hb d_Mo_top_43 (by decide) ?_
      exact K (false) _ _ _ (⟨fun h => (by cases h), fun h => absurd (dIn_iff.mpr h.1) (by rw [c1]; decide)⟩) (lv_sub hl [0, 1, 2, 3] rfl) hI hS
    refine lv_dload_n hx hb d_Mo_top_14 rfl (lv_at hl 2 rfl) ?_
    refine lv_ldc2d (v := 13875379345695965184) hx hb hown (hg _ k_988) d_Mo_top_15 ?_
    refine lv_ldc2d (v := 4652007308841189376) hx hb hown (hg _ k_918) d_Mo_top_18 ?_
    refine ec_i (va_runS (As := [.double b, .double 13875379345695965184, .double 4652007308841189376]) (rest := [.ref (Q 25)]) ⟨hx, hb, hml, hown, hts⟩ (m_Mo_in l G S0 (mW G Q X w0) b cm1000 c1000) (cwS 3 hts (gw_S k_889 k_890 k_67 k_891) rfl rfl rfl (by decide +kernel) ⟨Nat.le_of_ble_eq_true rfl, Nat.le_of_ble_eq_true rfl⟩) (eB.preS hE hI hS hz) rfl rfl hl.1 rfl (lv_room (Nat.le_of_ble_eq_true rfl)) d_Mo_top_21 ⟨Nat.le_of_ble_eq_true rfl, Nat.le_of_ble_eq_true rfl⟩) hS (fun q2 w_4 H locs ew_4 hI hsz hS => ?_)
    obtain ⟨eq2, ew_4⟩ := ew_4
    have ew_4 := ew_4.symm
    subst ew_4
    subst eq2
    refine mv_zeq (tgt := 43) hx hb (dIn b cm1000 c1000) rfl d_Mo_top_24 (by decide) (fun c2 => ?_) (fun c2 => ?_)
    · refine lv_iconst (v := 0) hx hb d_Mo_top_43 (by decide) ?_
      exact K (false) _ _ _ (⟨fun h => (by cases h), fun h => absurd (dIn_iff.mpr h.2.1) (by rw [c2]; decide)⟩) (lv_sub hl [0, 1, 2, 3] rfl) hI hS
    refine lv_dload hx hb d_Mo_top_27 (lv_at hl 3 rfl) ?_
    refine lv_dconst0 hx hb d_Mo_top_29 ?_
    refine lv_ldc2d (v := 4652007308841189376) hx hb hown (hg _ k_918) d_Mo_top_30 ?_
    refine ec_i (va_runS (As := [.double u, .double FP.dconst0, .double 4652007308841189376]) (rest := [.ref (Q 25)]) ⟨hx, hb, hml, hown, hts⟩ (m_Mo_in l G S0 (mW G Q X w0) u FP.dconst0 c1000) (cwS 3 hts (gw_S k_889 k_890 k_67 k_891) rfl rfl rfl (by decide +kernel) ⟨Nat.le_of_ble_eq_true rfl, Nat.le_of_ble_eq_true rfl⟩) (eB.preS hE hI hS hz) rfl rfl hl.1 rfl (lv_room (Nat.le_of_ble_eq_true rfl)) d_Mo_top_33 ⟨Nat.le_of_ble_eq_true rfl, Nat.le_of_ble_eq_true rfl⟩) hS (fun q3 w_5 H locs ew_5 hI hsz hS => ?_)
    obtain ⟨eq3, ew_5⟩ := ew_5
    have ew_5 := ew_5.symm
    subst ew_5
    subst eq3
    refine mv_zeq (tgt := 43) hx hb (dIn u FP.dconst0 c1000) rfl d_Mo_top_36 (by decide) (fun c3 => ?_) (fun c3 => ?_)
    · refine lv_iconst (v := 0) hx hb d_Mo_top_43 (by decide) ?_
      exact K (false) _ _ _ (⟨fun h => (by cases h), fun h => absurd (dIn_iff.mpr h.2.2) (by rw [c3]; decide)⟩) (lv_sub hl [0, 1, 2, 3] rfl) hI hS
    refine lv_iconst (v := 1) hx hb d_Mo_top_39 (by decide) ?_
    refine lv_goto (tgt := 44) hx hb d_Mo_top_40 (by decide) ?_
    exact K (true) _ _ _ (⟨fun _ => ⟨dIn_iff.mp c1, dIn_iff.mp c2, dIn_iff.mp c3⟩, fun _ => rfl⟩) (lv_sub hl [0, 1, 2, 3] rfl) hI hS
theorem xSc.c24 {V X : XS} {f : Nat → Int32} (h : xSc V (xsI X 24 (V.1 24))) : xSc (xsI V 24 f) (xsI X 24 f) := by
  refine ⟨fun j a b c => ?_, h.2.1, h.2.2⟩
  by_cases e : j = 24
  · rw [e, xsI_y, xsI_y]
  · rw [xsI_n e, xsI_n e, h.1 j a b c, xsI_n e]
theorem xSc.v24 {V Y X : XS} (h1 : xSc Y (xsI X 24 (Y.1 24))) (h2 : xSc V Y) : xSc V (xsI X 24 (V.1 24)) := by
  rw [h2.1 24 (by decide) (by decide) (by decide)]
  exact h1.tr h2
set_option maxHeartbeats 4000000 in
set_option maxRecDepth 100000 in
theorem m_Mo_paint (l : Launch) (G : EG) (S0 : Nat) (Q : Nat → Nat) (hQ : qInj Q) (X : XS) (w0 : hp_M) (d : DS) (dp : Nat → Nat) (htr : tOk d dp) (hP' : mP X d dp) (hv1 : vOk d) (hr0 : sNi d 0 3 = 0) (u : UInt64) (hu : fx3 u) : Met l y_Mo_paint w_Mo_paint (rl 3 0 0) (eP G S0 (mW G Q X w0) [.ref (Q 25), .double u]) (va_Qi (fun r z => (¬ inT u ∧ z = mW G Q (xsT X 1) w0) ∨ (inT u ∧ r = nI (cnF d u 192) ∧ ∃ Y, z = mW G Q Y w0 ∧ mP Y (dPt (dCl d (ptF d u 192)) (sPt d + 1)) dp ∧ Y.2.2.2.2 = 0)) (eW G S0) (hp_A S0)) 0 0 (hp_A S0) := by
  refine Met.ofW (cc := b_Mo_paint) (maxL := 5) (ret := (some .int)) (by decide) rfl ?_
  intro p e s m args below meth c s₁ B hml hv
  obtain ⟨rfl, hE, hI, hz⟩ := hv
  have hx := B.exec
  have hb := B.bytes
  have hr := B.returns
  have hts := atoms_spec (ws := w_Mo_paint) B.pre
  have hg : ∀ w ∈ gw, w.before _ s = true := fun w h => hts w (List.mem_cons_of_mem _ h)
  have hown : s.vm.findClass "SceneEaselModel" = some m.cls := findClass_of_methodNamed B.named
  have hlocks := B.notSynchronized
  have hK := hE.K
  have hS : va_S (hp_A S0) s.heap s.heap [] := va_S.rf
  have hl := lv_entry ([.ref (Q 25), .double u]) (n := 5) (Nat.le_of_ble_eq_true rfl)
  rw [lg_entry_eq]
  generalize (lg_sl ([.ref (Q 25), .double u]) ++ List.replicate (5 - (lg_sl ([.ref (Q 25), .double u])).length) Slot.unset).toArray = ls at hl ⊢
  have hl : lv_has ls 5 [(0, .ref (Q 25)), (1, .double u)] := hl
  refine lv_aload_n hx hb d_Mo_paint_0 rfl (lv_at hl 0 rfl) ?_
  refine lv_dload_n hx hb d_Mo_paint_1 rfl (lv_at hl 1 rfl) ?_
  refine lv_dconst0 hx hb d_Mo_paint_2 ?_
  refine lv_ldc2d (v := 4652007308841189376) hx hb hown (hg _ k_918) d_Mo_paint_3 ?_
  refine ec_i (va_runS (As := [.double u, .double FP.dconst0, .double 4652007308841189376]) (rest := [.ref (Q 25)]) ⟨hx, hb, hml, hown, hts⟩ (m_Mo_in l G S0 (mW G Q X w0) u FP.dconst0 c1000) (cwS 3 hts (gw_S k_889 k_890 k_67 k_891) rfl rfl rfl (by decide +kernel) ⟨Nat.le_of_ble_eq_true rfl, Nat.le_of_ble_eq_true rfl⟩) (eB.preS hE hI hS hz) rfl rfl hl.1 rfl (lv_room (Nat.le_of_ble_eq_true rfl)) d_Mo_paint_6 ⟨Nat.le_of_ble_eq_true rfl, Nat.le_of_ble_eq_true rfl⟩) hS (fun q1 w_1 H locs ew_1 hI hsz hS => ?_)
  obtain ⟨eq1, ew_1⟩ := ew_1
  have ew_1 := ew_1.symm
  subst ew_1
  subst eq1
  refine ec_i (va_runV (As := [.int (bI (dIn u FP.dconst0 c1000))]) (rest := []) ⟨hx, hb, hml, hown, hts⟩ (m_Mo_bad l G S0 Q hQ X w0 (dIn u FP.dconst0 c1000)) (cwV 1 hts (gw_V k_875 k_877 k_45 k_67 k_878) rfl rfl rfl (by decide +kernel) ⟨Nat.le_of_ble_eq_true rfl, Nat.le_of_ble_eq_true rfl⟩) (eB.preV hE hI hS hz rfl (mw_o hQ)) rfl rfl hl.1 rfl (lv_room (Nat.le_of_ble_eq_true rfl)) d_Mo_paint_9 ⟨Nat.le_of_ble_eq_true rfl, Nat.le_of_ble_eq_true rfl⟩) hS (fun rb w_2 H locs ew_2 hI hsz hS => ?_)
  obtain ⟨erb, ew_2⟩ := ew_2
  subst ew_2
  subst erb
  refine mv_zeq (tgt := 17) hx hb (!dIn u FP.dconst0 c1000) rfl d_Mo_paint_12 (by decide) (fun cb => ?_) (fun cb => ?_)
  rotate_left
  · have hbt : dIn u FP.dconst0 c1000 = false := by cases hq : dIn u FP.dconst0 c1000 with | true => rw [hq] at cb; cases cb | false => rfl
    refine lv_iconst (v := 0) hx hb d_Mo_paint_15 (by decide) ?_
    exact W.iret (v := 0) hx hb hr (fun t9 ht9 hW9 => ⟨⟨0, (mW G Q (xsT X (bI (!dIn u FP.dconst0 c1000))) w0), rfl, Or.inl ⟨fun h => (by rw [dIn_iff.mpr h] at hbt; cases hbt), by rw [hbt]; rfl⟩, eWo ht9 hI⟩, hS.F ht9⟩) hS.2.2 d_Mo_paint_16
  have hbt : dIn u FP.dconst0 c1000 = true := by cases hq : dIn u FP.dconst0 c1000 with | true => rfl | false => rw [hq] at cb; cases cb
  have hcd : inT u := dIn_iff.mp hbt
  have hti := inT_ti hu hcd
  have ebt : bI (!dIn u FP.dconst0 c1000) = 0 := by rw [hbt]; rfl
  rw [ebt] at hI
  obtain ⟨hM, ⟨L, hO⟩, hC⟩ := hP'
  refine lv_iconst (v := 0) hx hb d_Mo_paint_17 (by decide) ?_
  refine lv_istore_n (lv' := [(3, .int 0), (0, .ref (Q 25)), (1, .double u)]) hx hb d_Mo_paint_18 rfl hl (by decide) rfl (fun ls hl => ?_)
  refine lv_iconst (v := 0) hx hb d_Mo_paint_19 (by decide) ?_
  refine lv_istore (lv' := [(4, .int 0), (3, .int 0), (0, .ref (Q 25)), (1, .double u)]) hx hb d_Mo_paint_20 hl (by decide) rfl (fun ls hl => ?_)
  refine W.lpw (fun j (q : XS × Nat × Nat) => match q with | (Y, k, n) => k ≤ 192 ∧ j = 192 - k ∧ xSc Y (xsI (xsT X 0) 24 (Y.1 24)) ∧ (∀ x, x < 192 → Y.1 24 x = ptF d u k x) ∧ n = cnF d u k) (fun (q : XS × Nat × Nat) => match q with | (Y, k, n) => mW G Q Y w0) (fun (q : XS × Nat × Nat) => match q with | (Y, k, n) => [(4, .int (nI k)), (3, .int (nI n)), (0, .ref (Q 25)), (1, .double u)]) (fun (q : XS × Nat × Nat) => match q with | (Y, k, n) => 0) (fun (q : XS × Nat × Nat) => match q with | (Y, k, n) => 0) 5 22 (fun (q : XS × Nat × Nat) => match q with | (Y, k, n) => []) (192) ((xsT X 0, 0, 0)) (⟨by decide, rfl, (by rw [show xsI (xsT X 0) 24 ((xsT X 0).1 24) = xsT X 0 from xi_same]; exact xSc.rf _), (fun x hx => by rw [show ptF d u 0 x = sCl d x from if_neg (Nat.not_lt_zero x)]; exact hC.1 x hx), rfl⟩) (lv_sub hl [0, 1, 2, 3] rfl) hI hS ?_
  rintro j ⟨Y, k, n⟩ ls H locs hP hl hI hS O
  try dsimp only at hP hl hI ⊢
  obtain ⟨hk, ej, hsc, hcl, en⟩ := hP
  refine lv_iload hx hb d_Mo_paint_22 (lv_at hl 0 rfl) ?_
  refine lv_sipush (v := 192) hx hb d_Mo_paint_24 (by decide) ?_
  refine mv_cge (tgt := 107) hx hb k 192 rfl rfl (by omega) (by omega) d_Mo_paint_27 (by decide) (fun c1 => ?_) (fun c1 => ?_)
  · have ek : k = 192 := by omega
    subst ek
    have hMY : mN Y d := (show mN (xsI (xsT X 0) 24 (Y.1 24)) d from hM).sc hsc
    have hOY : mO Y d dp L := (show mO (xsI (xsT X 0) 24 (Y.1 24)) d dp L from hO).sc hsc
    refine lv_aload_n hx hb d_Mo_paint_107 rfl (lv_at hl 2 rfl) ?_
    refine lv_dup hx hb d_Mo_paint_108 rfl ?_
    refine hp_get (ci := 5) (v := .int Y.2.2.2.1) (C := R_Mo) (T := F_Mo) (N := 28) hx hb hg i_Mo hown hK hI (mw_o hQ) rfl 26 (by decide) (hg _ k_799) (fun _ h9 => h9) rfl d_Mo_paint_109 ?_
    refine mv_i (y := sPt d) ((by rw [hsc.2.2]; exact hC.2)) ?_
    refine lv_iconst (v := 1) hx hb d_Mo_paint_112 (by decide) ?_
    refine lv_iadd hx hb d_Mo_paint_113 ?_
    refine hp_putC (ci := 5) (v := .int ((sPt d) + 1)) (ty := .int) (C := R_Mo) (T := F_Mo) (N := 28) hx hb hg i_Mo t_Mo t_Mo_ok n_Mo hown hK hI hS (mw_o hQ) rfl 26 (by decide) (hg _ k_799) (fun _ h9 => h9) rfl (by decide +kernel) rfl rfl (Nat.le_of_ble_eq_true rfl) d_Mo_paint_114 (fun H locs hI hS hsz => ?_)
    have hI : eI G S0 (mW G Q (xsP Y ((sPt d) + 1)) w0) H := by rw [← mws_P hQ]; exact hI
    refine lv_iload_n hx hb d_Mo_paint_117 rfl (lv_at hl 1 rfl) ?_
    exact W.iret (v := (nI n)) hx hb hr (fun t9 ht9 hW9 => ⟨⟨(nI n), (mW G Q (xsP Y ((sPt d) + 1)) w0), rfl, Or.inr ⟨hcd, by rw [en], _, rfl, ⟨hMY, ⟨L, hOY⟩, fun x hx => hcl x hx, rfl⟩, by show Y.2.2.2.2 = 0; rw [hsc.2.2]; rfl⟩, eWo ht9 hI⟩, hS.F ht9⟩) hS.2.2 d_Mo_paint_118
  · have hMY : mN Y d := (show mN (xsI (xsT X 0) 24 (Y.1 24)) d from hM).sc hsc
    have hOY : mO Y d dp L := (show mO (xsI (xsT X 0) 24 (Y.1 24)) d dp L from hO).sc hsc
    have hm1 := mid5_p (i := k % 16) (by omega)
    have hm2 := mid5_p (i := k / 16) (by omega)
    refine lv_aload_n hx hb d_Mo_paint_30 rfl (lv_at hl 2 rfl) ?_
    refine lv_iload hx hb d_Mo_paint_31 (lv_at hl 0 rfl) ?_
    refine lv_bipush (v := 16) hx hb d_Mo_paint_33 (by decide) ?_
    refine lv_irem hx hb d_Mo_paint_35 (by decide) ?_
    refine mv_i (y := nI (k % 16)) (k_rem k c1) ?_
    refine lv_i2d hx hb d_Mo_paint_36 ?_
    refine lv_ldc2d (v := 4602678819172646912) hx hb hown (hg _ k_960) d_Mo_paint_37 ?_
    refine lv_dadd hx hb d_Mo_paint_40 (fx_nn hm1.fin) ?_
    refine lv_iload hx hb d_Mo_paint_41 (lv_at hl 0 rfl) ?_
    refine lv_bipush (v := 16) hx hb d_Mo_paint_43 (by decide) ?_
    refine lv_idiv hx hb d_Mo_paint_45 (by decide) ?_
    refine mv_i (y := nI (k / 16)) (k_div k c1) ?_
    refine lv_i2d hx hb d_Mo_paint_46 ?_
    refine lv_ldc2d (v := 4602678819172646912) hx hb hown (hg _ k_960) d_Mo_paint_47 ?_
    refine lv_dadd hx hb d_Mo_paint_50 (fx_nn hm2.fin) ?_
    refine lv_dload_n hx hb d_Mo_paint_51 rfl (lv_at hl 3 rfl) ?_
    refine ec_v (va_runV (As := [.double (FP.dadd (FP.i2d (nI (k % 16))) 4602678819172646912), .double (FP.dadd (FP.i2d (nI (k / 16))) 4602678819172646912), .double u]) (rest := []) ⟨hx, hb, hml, hown, hts⟩ (m_Mo_look l G S0 Q hQ Y w0 d dp htr hMY.2 L hOY hv1 hr0 u (mid5 (k % 16)) (mid5 (k / 16)) hti hm1 hm2) (cwV 3 hts (gw_V k_961 k_963 k_52 k_67 k_964) rfl rfl rfl (by decide +kernel) ⟨Nat.le_of_ble_eq_true rfl, Nat.le_of_ble_eq_true rfl⟩) (eB.preV hE hI hS hz rfl (mw_o hQ)) rfl rfl hl.1 rfl (lv_room (Nat.le_of_ble_eq_true rfl)) d_Mo_paint_52 ⟨Nat.le_of_ble_eq_true rfl, Nat.le_of_ble_eq_true rfl⟩) hS (fun w_3 H locs ew_3 hI hsz hS => ?_)
    obtain ⟨V, ew_3, ⟨hsv, h2, h12⟩⟩ := ew_3
    subst ew_3
    have hsc2 := hsc.v24 hsv
    have hMV := hMY.sc hsv
    refine lv_aload_n hx hb d_Mo_paint_55 rfl (lv_at hl 2 rfl) ?_
    refine hp_get (ci := 5) (v := .ref (Q 24)) (C := R_Mo) (T := F_Mo) (N := 28) hx hb hg i_Mo hown hK hI (mw_o hQ) rfl 24 (by decide) (hg _ k_797) (fun _ h9 => h9) rfl d_Mo_paint_56 ?_
    refine lv_iload hx hb d_Mo_paint_59 (lv_at hl 0 rfl) ?_
    refine lv_aload_n hx hb d_Mo_paint_61 rfl (lv_at hl 2 rfl) ?_
    refine hp_get (ci := 5) (v := .ref (Q 2)) (C := R_Mo) (T := F_Mo) (N := 28) hx hb hg i_Mo hown hK hI (mw_o hQ) rfl 2 (by decide) (hg _ k_775) (fun _ h9 => h9) rfl d_Mo_paint_62 ?_
    refine lv_iconst (v := 0) hx hb d_Mo_paint_65 (by decide) ?_
    refine mv_zald hx hb hK hI 2 (V.1 2) (mw_2 hQ) rfl 0 (rfl) (by omega) (by decide) d_Mo_paint_66 ?_
    refine mv_i (y := bI (seenF d u k).isSome) (h2) ?_
    refine W.midw (G := G) (S0 := S0) (fun (v9 : Int32) => v9 = clrF d u k ∧ (v9 ≠ 0 ↔ (seenF d u k).isSome = true)) (fun (v9 : Int32) => (mW G Q V w0)) (fun (v9 : Int32) => [(4, .int (nI k)), (3, .int (nI n)), (0, .ref (Q 25)), (1, .double u)]) (fun (v9 : Int32) => 0) (fun (v9 : Int32) => 0) 5 87 (fun (v9 : Int32) => [.int v9, .int (nI k), .ref (Q 24)]) ?_ (fun C => ?_)
    · rintro v9 ls H locs hP hl hI hS
      try dsimp only at hP hl hI ⊢
      obtain ⟨hv9, hv9'⟩ := hP
      refine mv_iast hx hb hK hI hS 0 (V.1 24) (mw_24 hQ) rfl k (fun f9 => mW G Q (xsI V 24 f9) w0) (fun _ => mws_24 hQ) (rfl) (by omega) (by decide) d_Mo_paint_87 (fun H locs f_1 ef_1 hI hS hsz => ?_)
      try dsimp only at hI
      refine lv_aload_n hx hb d_Mo_paint_88 rfl (lv_at hl 2 rfl) ?_
      refine hp_get (ci := 5) (v := .ref (Q 24)) (C := R_Mo) (T := F_Mo) (N := 28) hx hb hg i_Mo hown hK hI (mw_o hQ) rfl 24 (by decide) (hg _ k_797) (fun _ h9 => h9) rfl d_Mo_paint_89 ?_
      refine lv_iload hx hb d_Mo_paint_92 (lv_at hl 0 rfl) ?_
      have hcl2 : ∀ x, x < 192 → f_1 x = ptF d u (k + 1) x := by
        intro x hx
        rw [ef_1, ← ptF_step, ← hv9]
        by_cases e : x = k
        · rw [e, upd_y, upd_y]
        · rw [upd_n e, upd_n e, hsv.1 24 (by decide) (by decide) (by decide)]
          exact hcl x hx
      have hsc3 : xSc (xsI V 24 f_1) (xsI (xsT X 0) 24 f_1) := hsc2.c24
      refine mv_iald hx hb hK hI 0 f_1 (mw_24 hQ) rfl k (rfl) (by omega) (by decide) d_Mo_paint_94 ?_
      refine mv_i (y := v9) ((by rw [ef_1]; exact upd_y)) ?_
      refine lv_if_eq (tgt := 101) hx hb d_Mo_paint_95 (by decide) (fun c2 => ?_) (fun c2 => ?_)
      · refine lv_iinc (v := nI (k + 1)) (lv' := [(4, .int (nI (k + 1))), (3, .int (nI n)), (0, .ref (Q 25)), (1, .double u)]) hx hb d_Mo_paint_101 hl (k := 0) rfl (nI_inc k) (by decide) rfl (fun ls hl => ?_)
        refine lv_goto (tgt := 22) hx hb d_Mo_paint_104 (by decide) ?_
        exact O (192 - (k + 1)) (((xsI V 24 f_1), k + 1, n)) _ _ _ (by omega) (⟨c1, rfl, hsc3, hcl2, by show n = cnF d u k + (if (seenF d u k).isSome then 1 else 0); rw [if_neg (fun h => hv9'.mpr h c2), en, Nat.add_zero]⟩) (lv_sub hl [0, 1, 2, 3] rfl) hI hS
      · refine lv_iinc (v := nI (n + 1)) (lv' := [(3, .int (nI (n + 1))), (4, .int (nI k)), (0, .ref (Q 25)), (1, .double u)]) hx hb d_Mo_paint_98 hl (k := 1) rfl (nI_inc n) (by decide) rfl (fun ls hl => ?_)
        refine lv_iinc (v := nI (k + 1)) (lv' := [(4, .int (nI (k + 1))), (3, .int (nI (n + 1))), (0, .ref (Q 25)), (1, .double u)]) hx hb d_Mo_paint_101 hl (k := 1) rfl (nI_inc k) (by decide) rfl (fun ls hl => ?_)
        refine lv_goto (tgt := 22) hx hb d_Mo_paint_104 (by decide) ?_
        exact O (192 - (k + 1)) (((xsI V 24 f_1), k + 1, n + 1)) _ _ _ (by omega) (⟨c1, rfl, hsc3, hcl2, by show n + 1 = cnF d u k + (if (seenF d u k).isSome then 1 else 0); rw [if_pos (hv9'.mp c2), en]⟩) (lv_sub hl [0, 1, 2, 3] rfl) hI hS
    · refine mv_zeq (tgt := 86) hx hb (seenF d u k).isSome rfl d_Mo_paint_67 (by decide) (fun c2 => ?_) (fun c2 => ?_)
      · have et : seenF d u k = none := by cases hq : seenF d u k with | none => rfl | some t => rw [hq] at c2; cases c2
        refine lv_iconst (v := 0) hx hb d_Mo_paint_86 (by decide) ?_
        exact C (0) _ _ _ (⟨by unfold clrF; rw [et], ⟨fun h => absurd rfl h, fun h => by rw [et] at h; cases h⟩⟩) (lv_sub hl [0, 1, 2, 3] rfl) hI hS
      · obtain ⟨t, et⟩ := Option.isSome_iff_exists.mp c2
        obtain ⟨t1, t2, t3⟩ := topF_n htr et
        obtain ⟨cc9, cc1, -, cc3⟩ := vJ_c (u := u) (hv1 t t1 t2)
        refine lv_aload_n hx hb d_Mo_paint_70 rfl (lv_at hl 2 rfl) ?_
        refine lv_aload_n hx hb d_Mo_paint_71 rfl (lv_at hl 2 rfl) ?_
        refine hp_get (ci := 5) (v := .ref (Q 12)) (C := R_Mo) (T := F_Mo) (N := 28) hx hb hg i_Mo hown hK hI (mw_o hQ) rfl 12 (by decide) (hg _ k_785) (fun _ h9 => h9) rfl d_Mo_paint_72 ?_
        refine lv_iconst (v := 0) hx hb d_Mo_paint_75 (by decide) ?_
        refine mv_iald hx hb hK hI 0 (V.1 12) (mw_12 hQ) rfl 0 (rfl) (by omega) (by decide) d_Mo_paint_76 ?_
        refine mv_i (y := nI t) (h12 t et) ?_
        refine lv_iconst (v := 3) hx hb d_Mo_paint_77 (by decide) ?_
        refine lv_dload_n hx hb d_Mo_paint_78 rfl (lv_at hl 3 rfl) ?_
        refine ec_d (va_runV (As := [.int (nI t), .int 3, .double u]) (rest := [.int (nI k), .ref (Q 24)]) ⟨hx, hb, hml, hown, hts⟩ (m_Mo_at l G S0 Q hQ V w0 d hMV.2 hv1 t 3 t1 t2 t3 (by decide) u hti) (cwV 3 hts (gw_V k_965 k_967 k_53 k_67 k_968) rfl rfl rfl (by decide +kernel) ⟨Nat.le_of_ble_eq_true rfl, Nat.le_of_ble_eq_true rfl⟩) (eB.preV hE hI hS hz rfl (mw_o hQ)) rfl rfl hl.1 rfl (lv_room (Nat.le_of_ble_eq_true rfl)) d_Mo_paint_79 ⟨Nat.le_of_ble_eq_true rfl, Nat.le_of_ble_eq_true rfl⟩) hS (fun va w_4 H locs ew_4 hI hsz hS => ?_)
        obtain ⟨eva, ew_4⟩ := ew_4
        have ew_4 := ew_4.symm
        subst ew_4
        subst eva
        refine lv_d2i hx hb d_Mo_paint_82 ?_
        refine lv_goto (tgt := 87) hx hb d_Mo_paint_83 (by decide) ?_
        exact C (FP.d2i (vA d u t 3)) _ _ _ (⟨by unfold clrF; rw [et]; rfl, ⟨fun _ => by rw [et]; rfl, fun _ => by rw [show FP.d2i (vA d u t 3) = cc9 from cc3]; obtain ⟨n9, n1, n2, rfl⟩ := cc1; exact fun e => absurd ((nI_eq (a := n9) (b := 0) (by omega) (by decide)).mp e) (by omega)⟩⟩) (lv_sub hl [0, 1, 2, 3] rfl) hI hS

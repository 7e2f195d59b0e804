abbrev c1000 : UInt64 := 4652007308841189376
abbrev c100 : UInt64 := 4636737291354636288
abbrev cm100 : UInt64 := 13860109328209412096
abbrev c0125 : UInt64 := 4593671619917905920
abbrev cm2 : UInt64 := 13835058055282163712
abbrev c2 : UInt64 := 4611686018427387904
abbrev c15 : UInt64 := 4624633867356078080
abbrev inT (x : UInt64) : Prop := dge x FP.dconst0 ∧ dle x c1000
abbrev inL (x : UInt64) : Prop := (dge x c0125 ∧ dle x c100) ∧ dWhole x 8
abbrev inP (x : UInt64) : Prop := (dge x cm100 ∧ dle x c100) ∧ dWhole x 8
abbrev inV (k : Nat) (x : UInt64) : Prop := (k = 2 → (dge x cm2 ∧ dle x c2) ∧ dWhole x 1) ∧ (k = 3 → (dge x FP.dconst1 ∧ dle x c15) ∧ dWhole x 1) ∧ (k ≠ 2 → k ≠ 3 → inP x)
theorem fx_nmulI {x : UInt64} (hx : FP.Core.DFin x) (k : Int32) : vf_n64 (FP.dmul x (FP.i2d k)) := fx_nmul hx (FP.Core.i2d_fin k)
set_option maxHeartbeats 4000000 in
set_option maxRecDepth 100000 in
theorem m_Ea_requireTime (l : Launch) (hlt : l.stackTraces = false) (G : EG) (S0 : Nat) (w : hp_M) (x : UInt64) : vx_Met l y_Ea_requireTime w_Ea_requireTime (rl 1 1 6) (eP G S0 w [.double x]) (va_Qv (fun u => u = w ∧ inT x) (eW G S0) (hp_A S0)) (eX G S0 (pIA w (¬ inT x))) 1 6 (hp_A S0) := by
  refine vx_ofW (cc := b_Ea_requireTime) (maxL := 2) (ret := none) (by decide) rfl ?_
  intro p e s m args below meth c s₁ B hml hnx hv
  obtain ⟨rfl, hE, hI, hz⟩ := hv
  have hx := B.exec
  have hb := B.bytes
  have hr := B.returns
  have hts := atoms_spec (ws := w_Ea_requireTime) B.pre
  have hg : ∀ w ∈ gw, w.before _ s = true := fun w h => hts w (List.mem_cons_of_mem _ h)
  have hown : s.vm.findClass "SceneEasel" = some m.cls := findClass_of_methodNamed B.named
  have hlocks := B.notSynchronized
  have hK := hE.K
  have hS : va_S (hp_A S0) s.heap s.heap [] := va_S.rf
  have hl := lv_entry ([.double x]) (n := 2) (Nat.le_of_ble_eq_true rfl)
  rw [lg_entry_eq]
  generalize (lg_sl ([.double x]) ++ List.replicate (2 - (lg_sl ([.double x])).length) Slot.unset).toArray = ls at hl ⊢
  have hl : lv_has ls 2 [(0, .double x)] := hl
  refine lv_dload_n hx hb d_Ea_requireTime_0 rfl (lv_at hl 0 rfl) ?_
  refine lv_dconst0 hx hb d_Ea_requireTime_1 ?_
  refine lv_ldc2d (v := 4652007308841189376) hx hb hown (hg _ k_528) d_Ea_requireTime_2 ?_
  refine xc_v (vx_runS (As := [.double x, .double FP.dconst0, .double 4652007308841189376]) (rest := []) ⟨hx, hb, hml, hown, hts⟩ (m_Ea_requireBetween l hlt G S0 w x FP.dconst0 c1000) (cwS 3 hts (gw_S k_473 k_474 k_60 k_475) rfl rfl rfl (by decide +kernel) ⟨Nat.le_of_ble_eq_true rfl, Nat.le_of_ble_eq_true rfl⟩) (eB.preS hE hI hS hz) rfl rfl hl.1 rfl (lv_room (Nat.le_of_ble_eq_true rfl)) d_Ea_requireTime_5 ⟨Nat.le_of_ble_eq_true rfl, Nat.le_of_ble_eq_true rfl⟩) hS (fun E9 ce9 q9 u9 H9 locs9 hpx9 hI9 hsz9 hS9 g1 g2 g3 => xc_out hnx hlocks g1 g2 g3 (hpx9) hI9 hS9 (Nat.le_of_ble_eq_true rfl) (Nat.le_of_ble_eq_true rfl)) (fun w_1 H locs ew_1 hI hsz hS => ?_)
  obtain ⟨ew_1, h1⟩ := ew_1
  have ew_1 := ew_1.symm
  subst ew_1
  refine vx_ret ?_
  exact W.vret hx hb hr (fun t ht hW => ⟨⟨w, rfl, ⟨rfl, h1⟩, eWo ht hI⟩, hS.F ht⟩) hS.2.2 d_Ea_requireTime_8
set_option maxHeartbeats 4000000 in
set_option maxRecDepth 100000 in
theorem m_Ea_requireLength (l : Launch) (hlt : l.stackTraces = false) (G : EG) (S0 : Nat) (w : hp_M) (x : UInt64) (hf : FP.Core.DFin x) : vx_Met l y_Ea_requireLength w_Ea_requireLength (rl 1 2 12) (eP G S0 w [.double x]) (va_Qv (fun u => u = w ∧ inL x) (eW G S0) (hp_A S0)) (eX G S0 (pIA w (¬ inL x))) 2 12 (hp_A S0) := by
  refine vx_ofW (cc := b_Ea_requireLength) (maxL := 2) (ret := none) (by decide) rfl ?_
  intro p e s m args below meth c s₁ B hml hnx hv
  obtain ⟨rfl, hE, hI, hz⟩ := hv
  have hx := B.exec
  have hb := B.bytes
  have hr := B.returns
  have hts := atoms_spec (ws := w_Ea_requireLength) B.pre
  have hg : ∀ w ∈ gw, w.before _ s = true := fun w h => hts w (List.mem_cons_of_mem _ h)
  have hown : s.vm.findClass "SceneEasel" = some m.cls := findClass_of_methodNamed B.named
  have hlocks := B.notSynchronized
  have hK := hE.K
  have hS : va_S (hp_A S0) s.heap s.heap [] := va_S.rf
  have hl := lv_entry ([.double x]) (n := 2) (Nat.le_of_ble_eq_true rfl)
  rw [lg_entry_eq]
  generalize (lg_sl ([.double x]) ++ List.replicate (2 - (lg_sl ([.double x])).length) Slot.unset).toArray = ls at hl ⊢
  have hl : lv_has ls 2 [(0, .double x)] := hl
  refine lv_dload_n hx hb d_Ea_requireLength_0 rfl (lv_at hl 0 rfl) ?_
  refine lv_ldc2d (v := 4593671619917905920) hx hb hown (hg _ k_471) d_Ea_requireLength_1 ?_
  refine lv_ldc2d (v := 4636737291354636288) hx hb hown (hg _ k_472) d_Ea_requireLength_4 ?_
  refine xc_v (vx_runS (As := [.double x, .double 4593671619917905920, .double 4636737291354636288]) (rest := []) ⟨hx, hb, hml, hown, hts⟩ (m_Ea_requireBetween l hlt G S0 w x c0125 c100) (cwS 3 hts (gw_S k_473 k_474 k_60 k_475) rfl rfl rfl (by decide +kernel) ⟨Nat.le_of_ble_eq_true rfl, Nat.le_of_ble_eq_true rfl⟩) (eB.preS hE hI hS hz) rfl rfl hl.1 rfl (lv_room (Nat.le_of_ble_eq_true rfl)) d_Ea_requireLength_7 ⟨Nat.le_of_ble_eq_true rfl, Nat.le_of_ble_eq_true rfl⟩) hS (fun E9 ce9 q9 u9 H9 locs9 hpx9 hI9 hsz9 hS9 g1 g2 g3 => xc_out hnx hlocks g1 g2 g3 (⟨hpx9.1, hpx9.2.1, fun h => hpx9.2.2 h.1⟩) hI9 hS9 (Nat.le_of_ble_eq_true rfl) (Nat.le_of_ble_eq_true rfl)) (fun w_1 H locs ew_1 hI hsz hS => ?_)
  obtain ⟨ew_1, h1⟩ := ew_1
  have ew_1 := ew_1.symm
  subst ew_1
  refine lv_dload_n hx hb d_Ea_requireLength_10 rfl (lv_at hl 0 rfl) ?_
  refine lv_bipush (v := 8) hx hb d_Ea_requireLength_11 (by decide) ?_
  refine xc_v (vx_runS (As := [.double x, .int 8]) (rest := []) ⟨hx, hb, hml, hown, hts⟩ (m_Ea_requireMultiple l hlt G S0 w x 8 (fx_nmulI hf 8)) (cwS 2 hts (gw_S k_476 k_477 k_60 k_478) rfl rfl rfl (by decide +kernel) ⟨Nat.le_of_ble_eq_true rfl, Nat.le_of_ble_eq_true rfl⟩) (eB.preS hE hI hS hz) rfl rfl hl.1 rfl (lv_room (Nat.le_of_ble_eq_true rfl)) d_Ea_requireLength_13 ⟨Nat.le_of_ble_eq_true rfl, Nat.le_of_ble_eq_true rfl⟩) hS (fun E9 ce9 q9 u9 H9 locs9 hpx9 hI9 hsz9 hS9 g1 g2 g3 => xc_out hnx hlocks g1 g2 g3 (⟨hpx9.1, hpx9.2.1, fun h => hpx9.2.2 h.2⟩) hI9 hS9 (Nat.le_of_ble_eq_true rfl) (Nat.le_of_ble_eq_true rfl)) (fun w_2 H locs ew_2 hI hsz hS => ?_)
  obtain ⟨ew_2, h2⟩ := ew_2
  have ew_2 := ew_2.symm
  subst ew_2
  refine vx_ret ?_
  exact W.vret hx hb hr (fun t ht hW => ⟨⟨w, rfl, ⟨rfl, h1, h2⟩, eWo ht hI⟩, hS.F ht⟩) hS.2.2 d_Ea_requireLength_16
set_option maxHeartbeats 4000000 in
set_option maxRecDepth 100000 in
theorem m_Ea_requirePlace (l : Launch) (hlt : l.stackTraces = false) (G : EG) (S0 : Nat) (w : hp_M) (x : UInt64) (hf : FP.Core.DFin x) : vx_Met l y_Ea_requirePlace w_Ea_requirePlace (rl 1 2 12) (eP G S0 w [.double x]) (va_Qv (fun u => u = w ∧ inP x) (eW G S0) (hp_A S0)) (eX G S0 (pIA w (¬ inP x))) 2 12 (hp_A S0) := by
  refine vx_ofW (cc := b_Ea_requirePlace) (maxL := 2) (ret := none) (by decide) rfl ?_
  intro p e s m args below meth c s₁ B hml hnx hv
  obtain ⟨rfl, hE, hI, hz⟩ := hv
  have hx := B.exec
  have hb := B.bytes
  have hr := B.returns
  have hts := atoms_spec (ws := w_Ea_requirePlace) B.pre
  have hg : ∀ w ∈ gw, w.before _ s = true := fun w h => hts w (List.mem_cons_of_mem _ h)
  have hown : s.vm.findClass "SceneEasel" = some m.cls := findClass_of_methodNamed B.named
  have hlocks := B.notSynchronized
  have hK := hE.K
  have hS : va_S (hp_A S0) s.heap s.heap [] := va_S.rf
  have hl := lv_entry ([.double x]) (n := 2) (Nat.le_of_ble_eq_true rfl)
  rw [lg_entry_eq]
  generalize (lg_sl ([.double x]) ++ List.replicate (2 - (lg_sl ([.double x])).length) Slot.unset).toArray = ls at hl ⊢
  have hl : lv_has ls 2 [(0, .double x)] := hl
  refine lv_dload_n hx hb d_Ea_requirePlace_0 rfl (lv_at hl 0 rfl) ?_
  refine lv_ldc2d (v := 13860109328209412096) hx hb hown (hg _ k_495) d_Ea_requirePlace_1 ?_
  refine lv_ldc2d (v := 4636737291354636288) hx hb hown (hg _ k_472) d_Ea_requirePlace_4 ?_
  refine xc_v (vx_runS (As := [.double x, .double 13860109328209412096, .double 4636737291354636288]) (rest := []) ⟨hx, hb, hml, hown, hts⟩ (m_Ea_requireBetween l hlt G S0 w x cm100 c100) (cwS 3 hts (gw_S k_473 k_474 k_60 k_475) rfl rfl rfl (by decide +kernel) ⟨Nat.le_of_ble_eq_true rfl, Nat.le_of_ble_eq_true rfl⟩) (eB.preS hE hI hS hz) rfl rfl hl.1 rfl (lv_room (Nat.le_of_ble_eq_true rfl)) d_Ea_requirePlace_7 ⟨Nat.le_of_ble_eq_true rfl, Nat.le_of_ble_eq_true rfl⟩) hS (fun E9 ce9 q9 u9 H9 locs9 hpx9 hI9 hsz9 hS9 g1 g2 g3 => xc_out hnx hlocks g1 g2 g3 (⟨hpx9.1, hpx9.2.1, fun h => hpx9.2.2 h.1⟩) hI9 hS9 (Nat.le_of_ble_eq_true rfl) (Nat.le_of_ble_eq_true rfl)) (fun w_1 H locs ew_1 hI hsz hS => ?_)
  obtain ⟨ew_1, h1⟩ := ew_1
  have ew_1 := ew_1.symm
  subst ew_1
  refine lv_dload_n hx hb d_Ea_requirePlace_10 rfl (lv_at hl 0 rfl) ?_
  refine lv_bipush (v := 8) hx hb d_Ea_requirePlace_11 (by decide) ?_
  refine xc_v (vx_runS (As := [.double x, .int 8]) (rest := []) ⟨hx, hb, hml, hown, hts⟩ (m_Ea_requireMultiple l hlt G S0 w x 8 (fx_nmulI hf 8)) (cwS 2 hts (gw_S k_476 k_477 k_60 k_478) rfl rfl rfl (by decide +kernel) ⟨Nat.le_of_ble_eq_true rfl, Nat.le_of_ble_eq_true rfl⟩) (eB.preS hE hI hS hz) rfl rfl hl.1 rfl (lv_room (Nat.le_of_ble_eq_true rfl)) d_Ea_requirePlace_13 ⟨Nat.le_of_ble_eq_true rfl, Nat.le_of_ble_eq_true rfl⟩) hS (fun E9 ce9 q9 u9 H9 locs9 hpx9 hI9 hsz9 hS9 g1 g2 g3 => xc_out hnx hlocks g1 g2 g3 (⟨hpx9.1, hpx9.2.1, fun h => hpx9.2.2 h.2⟩) hI9 hS9 (Nat.le_of_ble_eq_true rfl) (Nat.le_of_ble_eq_true rfl)) (fun w_2 H locs ew_2 hI hsz hS => ?_)
  obtain ⟨ew_2, h2⟩ := ew_2
  have ew_2 := ew_2.symm
  subst ew_2
  refine vx_ret ?_
  exact W.vret hx hb hr (fun t ht hW => ⟨⟨w, rfl, ⟨rfl, h1, h2⟩, eWo ht hI⟩, hS.F ht⟩) hS.2.2 d_Ea_requirePlace_16
set_option maxHeartbeats 4000000 in
set_option maxRecDepth 100000 in
theorem m_Ea_requireValue (l : Launch) (hlt : l.stackTraces = false) (G : EG) (S0 : Nat) (w : hp_M) (k : Nat) (hk : k < 4) (x : UInt64) (hf : FP.Core.DFin x) : vx_Met l y_Ea_requireValue w_Ea_requireValue (rl 2 2 12) (eP G S0 w [.int (nI k), .double x]) (va_Qv (fun u => u = w ∧ inV k x) (eW G S0) (hp_A S0)) (eX G S0 (pIA w (¬ inV k x))) 2 12 (hp_A S0) := by
  refine vx_ofW (cc := b_Ea_requireValue) (maxL := 3) (ret := none) (by decide) rfl ?_
  intro p e s m args below meth c s₁ B hml hnx hv
  obtain ⟨rfl, hE, hI, hz⟩ := hv
  have hx := B.exec
  have hb := B.bytes
  have hr := B.returns
  have hts := atoms_spec (ws := w_Ea_requireValue) B.pre
  have hg : ∀ w ∈ gw, w.before _ s = true := fun w h => hts w (List.mem_cons_of_mem _ h)
  have hown : s.vm.findClass "SceneEasel" = some m.cls := findClass_of_methodNamed B.named
  have hlocks := B.notSynchronized
  have hK := hE.K
  have hS : va_S (hp_A S0) s.heap s.heap [] := va_S.rf
  have hl := lv_entry ([.int (nI k), .double x]) (n := 3) (Nat.le_of_ble_eq_true rfl)
  rw [lg_entry_eq]
  generalize (lg_sl ([.int (nI k), .double x]) ++ List.replicate (3 - (lg_sl ([.int (nI k), .double x])).length) Slot.unset).toArray = ls at hl ⊢
  have hl : lv_has ls 3 [(0, .int (nI k)), (1, .double x)] := hl
  have e2 : nI k = 2 ↔ k = 2 := nI_eq (a := k) (b := 2) (by omega) (by decide)
  have e3 : nI k = 3 ↔ k = 3 := nI_eq (a := k) (b := 3) (by omega) (by decide)
  refine lv_iload_n hx hb d_Ea_requireValue_0 rfl (lv_at hl 0 rfl) ?_
  refine lv_iconst (v := 2) hx hb d_Ea_requireValue_1 (by decide) ?_
  refine lv_icmp_ne (tgt := 23) hx hb d_Ea_requireValue_2 (by decide) (fun c1 => ?_) (fun c1 => ?_)
  · have q2 : ¬ k = 2 := fun h => c1 (e2.mpr h)
    refine lv_iload_n hx hb d_Ea_requireValue_23 rfl (lv_at hl 0 rfl) ?_
    refine lv_iconst (v := 3) hx hb d_Ea_requireValue_24 (by decide) ?_
    refine lv_icmp_ne (tgt := 44) hx hb d_Ea_requireValue_25 (by decide) (fun c2 => ?_) (fun c2 => ?_)
    · have q3 : ¬ k = 3 := fun h => c2 (e3.mpr h)
      refine lv_dload_n hx hb d_Ea_requireValue_44 rfl (lv_at hl 1 rfl) ?_
      refine xc_v (vx_runS (As := [.double x]) (rest := []) ⟨hx, hb, hml, hown, hts⟩ (m_Ea_requirePlace l hlt G S0 w x hf) (cwS 1 hts (gw_S k_492 k_493 k_60 k_494) rfl rfl rfl (by decide +kernel) ⟨Nat.le_of_ble_eq_true rfl, Nat.le_of_ble_eq_true rfl⟩) (eB.preS hE hI hS hz) rfl rfl hl.1 rfl (lv_room (Nat.le_of_ble_eq_true rfl)) d_Ea_requireValue_45 ⟨Nat.le_of_ble_eq_true rfl, Nat.le_of_ble_eq_true rfl⟩) hS (fun E9 ce9 q9 u9 H9 locs9 hpx9 hI9 hsz9 hS9 g1 g2 g3 => xc_out hnx hlocks g1 g2 g3 (⟨hpx9.1, hpx9.2.1, fun h => hpx9.2.2 (h.2.2 q2 q3)⟩) hI9 hS9 (Nat.le_of_ble_eq_true rfl) (Nat.le_of_ble_eq_true rfl)) (fun w_1 H locs ew_1 hI hsz hS => ?_)
      obtain ⟨ew_1, h1⟩ := ew_1
      have ew_1 := ew_1.symm
      subst ew_1
      refine vx_ret ?_
      exact W.vret hx hb hr (fun t ht hW => ⟨⟨w, rfl, ⟨rfl, fun h => absurd h q2, fun h => absurd h q3, fun _ _ => h1⟩, eWo ht hI⟩, hS.F ht⟩) hS.2.2 d_Ea_requireValue_48
    · have q3 : k = 3 := e3.mp c2
      refine lv_dload_n hx hb d_Ea_requireValue_28 rfl (lv_at hl 1 rfl) ?_
      refine lv_dconst1 hx hb d_Ea_requireValue_29 ?_
      refine lv_ldc2d (v := 4624633867356078080) hx hb hown (hg _ k_534) d_Ea_requireValue_30 ?_
      refine xc_v (vx_runS (As := [.double x, .double FP.dconst1, .double 4624633867356078080]) (rest := []) ⟨hx, hb, hml, hown, hts⟩ (m_Ea_requireBetween l hlt G S0 w x FP.dconst1 c15) (cwS 3 hts (gw_S k_473 k_474 k_60 k_475) rfl rfl rfl (by decide +kernel) ⟨Nat.le_of_ble_eq_true rfl, Nat.le_of_ble_eq_true rfl⟩) (eB.preS hE hI hS hz) rfl rfl hl.1 rfl (lv_room (Nat.le_of_ble_eq_true rfl)) d_Ea_requireValue_33 ⟨Nat.le_of_ble_eq_true rfl, Nat.le_of_ble_eq_true rfl⟩) hS (fun E9 ce9 q9 u9 H9 locs9 hpx9 hI9 hsz9 hS9 g1 g2 g3 => xc_out hnx hlocks g1 g2 g3 (⟨hpx9.1, hpx9.2.1, fun h => hpx9.2.2 (h.2.1 q3).1⟩) hI9 hS9 (Nat.le_of_ble_eq_true rfl) (Nat.le_of_ble_eq_true rfl)) (fun w_2 H locs ew_2 hI hsz hS => ?_)
      obtain ⟨ew_2, h1⟩ := ew_2
      have ew_2 := ew_2.symm
      subst ew_2
      refine lv_dload_n hx hb d_Ea_requireValue_36 rfl (lv_at hl 1 rfl) ?_
      refine lv_iconst (v := 1) hx hb d_Ea_requireValue_37 (by decide) ?_
      refine xc_v (vx_runS (As := [.double x, .int 1]) (rest := []) ⟨hx, hb, hml, hown, hts⟩ (m_Ea_requireMultiple l hlt G S0 w x 1 (fx_nmulI hf 1)) (cwS 2 hts (gw_S k_476 k_477 k_60 k_478) rfl rfl rfl (by decide +kernel) ⟨Nat.le_of_ble_eq_true rfl, Nat.le_of_ble_eq_true rfl⟩) (eB.preS hE hI hS hz) rfl rfl hl.1 rfl (lv_room (Nat.le_of_ble_eq_true rfl)) d_Ea_requireValue_38 ⟨Nat.le_of_ble_eq_true rfl, Nat.le_of_ble_eq_true rfl⟩) hS (fun E9 ce9 q9 u9 H9 locs9 hpx9 hI9 hsz9 hS9 g1 g2 g3 => xc_out hnx hlocks g1 g2 g3 (⟨hpx9.1, hpx9.2.1, fun h => hpx9.2.2 (h.2.1 q3).2⟩) hI9 hS9 (Nat.le_of_ble_eq_true rfl) (Nat.le_of_ble_eq_true rfl)) (fun w_3 H locs ew_3 hI hsz hS => ?_)
      obtain ⟨ew_3, h2⟩ := ew_3
      have ew_3 := ew_3.symm
      subst ew_3
      refine lv_goto (tgt := 48) hx hb d_Ea_requireValue_41 (by decide) ?_
      refine vx_ret ?_
      exact W.vret hx hb hr (fun t ht hW => ⟨⟨w, rfl, ⟨rfl, fun h => absurd h q2, fun _ => ⟨h1, h2⟩, fun _ h => absurd q3 h⟩, eWo ht hI⟩, hS.F ht⟩) hS.2.2 d_Ea_requireValue_48
  · have q2 : k = 2 := e2.mp c1
    refine lv_dload_n hx hb d_Ea_requireValue_5 rfl (lv_at hl 1 rfl) ?_
    refine lv_ldc2d (v := 13835058055282163712) hx hb hown (hg _ k_532) d_Ea_requireValue_6 ?_
    refine lv_ldc2d (v := 4611686018427387904) hx hb hown (hg _ k_533) d_Ea_requireValue_9 ?_
    refine xc_v (vx_runS (As := [.double x, .double 13835058055282163712, .double 4611686018427387904]) (rest := []) ⟨hx, hb, hml, hown, hts⟩ (m_Ea_requireBetween l hlt G S0 w x cm2 c2) (cwS 3 hts (gw_S k_473 k_474 k_60 k_475) rfl rfl rfl (by decide +kernel) ⟨Nat.le_of_ble_eq_true rfl, Nat.le_of_ble_eq_true rfl⟩) (eB.preS hE hI hS hz) rfl rfl hl.1 rfl (lv_room (Nat.le_of_ble_eq_true rfl)) d_Ea_requireValue_12 ⟨Nat.le_of_ble_eq_true rfl, Nat.le_of_ble_eq_true rfl⟩) hS (fun E9 ce9 q9 u9 H9 locs9 hpx9 hI9 hsz9 hS9 g1 g2 g3 => xc_out hnx hlocks g1 g2 g3 (⟨hpx9.1, hpx9.2.1, fun h => hpx9.2.2 (h.1 q2).1⟩) hI9 hS9 (Nat.le_of_ble_eq_true rfl) (Nat.le_of_ble_eq_true rfl)) (fun w_4 H locs ew_4 hI hsz hS => ?_)
    obtain ⟨ew_4, h1⟩ := ew_4
    have ew_4 := ew_4.symm
    subst ew_4
    refine lv_dload_n hx hb d_Ea_requireValue_15 rfl (lv_at hl 1 rfl) ?_
    refine lv_iconst (v := 1) hx hb d_Ea_requireValue_16 (by decide) ?_
    refine xc_v (vx_runS (As := [.double x, .int 1]) (rest := []) ⟨hx, hb, hml, hown, hts⟩ (m_Ea_requireMultiple l hlt G S0 w x 1 (fx_nmulI hf 1)) (cwS 2 hts (gw_S k_476 k_477 k_60 k_478) rfl rfl rfl (by decide +kernel) ⟨Nat.le_of_ble_eq_true rfl, Nat.le_of_ble_eq_true rfl⟩) (eB.preS hE hI hS hz) rfl rfl hl.1 rfl (lv_room (Nat.le_of_ble_eq_true rfl)) d_Ea_requireValue_17 ⟨Nat.le_of_ble_eq_true rfl, Nat.le_of_ble_eq_true rfl⟩) hS (fun E9 ce9 q9 u9 H9 locs9 hpx9 hI9 hsz9 hS9 g1 g2 g3 => xc_out hnx hlocks g1 g2 g3 (⟨hpx9.1, hpx9.2.1, fun h => hpx9.2.2 (h.1 q2).2⟩) hI9 hS9 (Nat.le_of_ble_eq_true rfl) (Nat.le_of_ble_eq_true rfl)) (fun w_5 H locs ew_5 hI hsz hS => ?_)
    obtain ⟨ew_5, h2⟩ := ew_5
    have ew_5 := ew_5.symm
    subst ew_5
    refine lv_goto (tgt := 48) hx hb d_Ea_requireValue_20 (by decide) ?_
    refine vx_ret ?_
    exact W.vret hx hb hr (fun t ht hW => ⟨⟨w, rfl, ⟨rfl, fun _ => ⟨h1, h2⟩, fun h => absurd (q2.symm.trans h) (by decide), fun h => absurd q2 h⟩, eWo ht hI⟩, hS.F ht⟩) hS.2.2 d_Ea_requireValue_48

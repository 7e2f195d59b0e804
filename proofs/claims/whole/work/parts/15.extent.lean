/-! Extent -/
abbrev oEx (e0 : Int32) (la lb ga gb : UInt64) : va_E := .inr (0, [.int e0, .double la, .double lb, .double ga, .double gb])
set_option maxHeartbeats 4000000 in
set_option maxRecDepth 100000 in
theorem m_Ex_clear (l : Launch) (G : EG) (S0 : Nat) (w : hp_M) (a : Nat) {e0 : Int32} {la lb ga gb : UInt64} (ha : w a = some (oEx e0 la lb ga gb)) : Met l y_Ex_clear w_Ex_clear (rl 0 0 0) (eP G S0 w [.ref a]) (va_Qv (fun u => u = hp_set w a (oEx 1 la lb ga gb)) (eW G S0) (hp_A S0)) 0 0 (hp_A S0) := by
  refine Met.ofW (cc := b_Ex_clear) (maxL := 1) (ret := none) (by decide) rfl ?_
  intro p e s m args below meth c s₁ B hml hv
  obtain ⟨rfl, hE, hI, hz⟩ := hv
  have hx := B.exec
  have hb := B.bytes
  have hr := B.returns
  have hts := atoms_spec (ws := w_Ex_clear) B.pre
  have hg : ∀ w ∈ gw, w.before _ s = true := fun w h => hts w (List.mem_cons_of_mem _ h)
  have hown : s.vm.findClass "SceneEasel$Extent" = some m.cls := findClass_of_methodNamed B.named
  have hlocks := B.notSynchronized
  have hK := hE.K
  have hS : va_S (hp_A S0) s.heap s.heap [] := va_S.rf
  have hl := lv_entry ([.ref a]) (n := 1) (Nat.le_of_ble_eq_true rfl)
  rw [lg_entry_eq]
  generalize (lg_sl ([.ref a]) ++ List.replicate (1 - (lg_sl ([.ref a])).length) Slot.unset).toArray = ls at hl ⊢
  have hl : lv_has ls 1 [(0, .ref a)] := hl
  refine lv_aload_n hx hb d_Ex_clear_0 rfl (lv_at hl 0 rfl) ?_
  refine lv_iconst (v := 1) hx hb d_Ex_clear_1 (by decide) ?_
  refine hp_putC (ci := 0) (v := .int 1) (ty := .boolean) (C := R_Ex) (T := F_Ex) (N := 5) hx hb hg i_Ex t_Ex t_Ex_ok n_Ex hown hK hI hS ha rfl 0 (by decide) (hg _ k_130) (fun _ h9 => h9) rfl (by decide +kernel) rfl rfl (Nat.le_of_ble_eq_true rfl) d_Ex_clear_2 (fun H locs hI hS hsz => ?_)
  obtain ⟨w_1, ew_1⟩ : ∃ z, z = hp_set w a (.inr (0, [.int 1, .double la, .double lb, .double ga, .double gb])) := ⟨_, rfl⟩
  have hI : eI G S0 w_1 H := by rw [ew_1]; exact hI
  have ha : w_1 a = some (.inr (0, [.int 1, .double la, .double lb, .double ga, .double gb])) := by rw [ew_1]; exact hp_set_eq _ _ _
  exact W.vret hx hb hr (fun t ht hW => ⟨⟨w_1, rfl, ew_1, eWo ht hI⟩, hS.F ht⟩) hS.2.2 d_Ex_clear_5
set_option maxHeartbeats 4000000 in
set_option maxRecDepth 100000 in
theorem m_Ex_span (l : Launch) (G : EG) (S0 : Nat) (w : hp_M) (a : Nat) (x1 y1 x2 y2 : UInt64) {e0 : Int32} {la lb ga gb : UInt64} (ha : w a = some (oEx e0 la lb ga gb)) : Met l y_Ex_span w_Ex_span (rl 0 0 0) (eP G S0 w [.ref a, .double x1, .double y1, .double x2, .double y2]) (va_Qv (fun u => u = hp_set w a (oEx 0 x1 y1 x2 y2)) (eW G S0) (hp_A S0)) 0 0 (hp_A S0) := by
  refine Met.ofW (cc := b_Ex_span) (maxL := 9) (ret := none) (by decide) rfl ?_
  intro p e s m args below meth c s₁ B hml hv
  obtain ⟨rfl, hE, hI, hz⟩ := hv
  have hx := B.exec
  have hb := B.bytes
  have hr := B.returns
  have hts := atoms_spec (ws := w_Ex_span) B.pre
  have hg : ∀ w ∈ gw, w.before _ s = true := fun w h => hts w (List.mem_cons_of_mem _ h)
  have hown : s.vm.findClass "SceneEasel$Extent" = some m.cls := findClass_of_methodNamed B.named
  have hlocks := B.notSynchronized
  have hK := hE.K
  have hS : va_S (hp_A S0) s.heap s.heap [] := va_S.rf
  have hl := lv_entry ([.ref a, .double x1, .double y1, .double x2, .double y2]) (n := 9) (Nat.le_of_ble_eq_true rfl)
  rw [lg_entry_eq]
  generalize (lg_sl ([.ref a, .double x1, .double y1, .double x2, .double y2]) ++ List.replicate (9 - (lg_sl ([.ref a, .double x1, .double y1, .double x2, .double y2])).length) Slot.unset).toArray = ls at hl ⊢
  have hl : lv_has ls 9 [(0, .ref a), (1, .double x1), (3, .double y1), (5, .double x2), (7, .double y2)] := hl
  refine lv_aload_n hx hb d_Ex_span_0 rfl (lv_at hl 0 rfl) ?_
  refine lv_iconst (v := 0) hx hb d_Ex_span_1 (by decide) ?_
  refine hp_putC (ci := 0) (v := .int 0) (ty := .boolean) (C := R_Ex) (T := F_Ex) (N := 5) hx hb hg i_Ex t_Ex t_Ex_ok n_Ex hown hK hI hS ha rfl 0 (by decide) (hg _ k_130) (fun _ h9 => h9) rfl (by decide +kernel) rfl rfl (Nat.le_of_ble_eq_true rfl) d_Ex_span_2 (fun H locs hI hS hsz => ?_)
  obtain ⟨w_1, ew_1⟩ : ∃ z, z = hp_set w a (.inr (0, [.int 0, .double la, .double lb, .double ga, .double gb])) := ⟨_, rfl⟩
  have hI : eI G S0 w_1 H := by rw [ew_1]; exact hI
  have ha : w_1 a = some (.inr (0, [.int 0, .double la, .double lb, .double ga, .double gb])) := by rw [ew_1]; exact hp_set_eq _ _ _
  refine lv_aload_n hx hb d_Ex_span_5 rfl (lv_at hl 0 rfl) ?_
  refine lv_dload_n hx hb d_Ex_span_6 rfl (lv_at hl 1 rfl) ?_
  refine hp_putC (ci := 0) (v := .double x1) (ty := .double) (C := R_Ex) (T := F_Ex) (N := 5) hx hb hg i_Ex t_Ex t_Ex_ok n_Ex hown hK hI hS ha rfl 1 (by decide) (hg _ k_133) (fun _ h9 => h9) rfl (by decide +kernel) rfl rfl (Nat.le_of_ble_eq_true rfl) d_Ex_span_7 (fun H locs hI hS hsz => ?_)
  obtain ⟨w_2, ew_2⟩ : ∃ z, z = hp_set w_1 a (.inr (0, [.int 0, .double x1, .double lb, .double ga, .double gb])) := ⟨_, rfl⟩
  have hI : eI G S0 w_2 H := by rw [ew_2]; exact hI
  have ha : w_2 a = some (.inr (0, [.int 0, .double x1, .double lb, .double ga, .double gb])) := by rw [ew_2]; exact hp_set_eq _ _ _
  refine lv_aload_n hx hb d_Ex_span_10 rfl (lv_at hl 0 rfl) ?_
  refine lv_dload_n hx hb d_Ex_span_11 rfl (lv_at hl 2 rfl) ?_
  refine hp_putC (ci := 0) (v := .double y1) (ty := .double) (C := R_Ex) (T := F_Ex) (N := 5) hx hb hg i_Ex t_Ex t_Ex_ok n_Ex hown hK hI hS ha rfl 2 (by decide) (hg _ k_134) (fun _ h9 => h9) rfl (by decide +kernel) rfl rfl (Nat.le_of_ble_eq_true rfl) d_Ex_span_12 (fun H locs hI hS hsz => ?_)
  obtain ⟨w_3, ew_3⟩ : ∃ z, z = hp_set w_2 a (.inr (0, [.int 0, .double x1, .double y1, .double ga, .double gb])) := ⟨_, rfl⟩
  have hI : eI G S0 w_3 H := by rw [ew_3]; exact hI
  have ha : w_3 a = some (.inr (0, [.int 0, .double x1, .double y1, .double ga, .double gb])) := by rw [ew_3]; exact hp_set_eq _ _ _
  refine lv_aload_n hx hb d_Ex_span_15 rfl (lv_at hl 0 rfl) ?_
  refine lv_dload hx hb d_Ex_span_16 (lv_at hl 3 rfl) ?_
  refine hp_putC (ci := 0) (v := .double x2) (ty := .double) (C := R_Ex) (T := F_Ex) (N := 5) hx hb hg i_Ex t_Ex t_Ex_ok n_Ex hown hK hI hS ha rfl 3 (by decide) (hg _ k_135) (fun _ h9 => h9) rfl (by decide +kernel) rfl rfl (Nat.le_of_ble_eq_true rfl) d_Ex_span_18 (fun H locs hI hS hsz => ?_)
  obtain ⟨w_4, ew_4⟩ : ∃ z, z = hp_set w_3 a (.inr (0, [.int 0, .double x1, .double y1, .double x2, .double gb])) := ⟨_, rfl⟩
  have hI : eI G S0 w_4 H := by rw [ew_4]; exact hI
  have ha : w_4 a = some (.inr (0, [.int 0, .double x1, .double y1, .double x2, .double gb])) := by rw [ew_4]; exact hp_set_eq _ _ _
  refine lv_aload_n hx hb d_Ex_span_21 rfl (lv_at hl 0 rfl) ?_
  refine lv_dload hx hb d_Ex_span_22 (lv_at hl 4 rfl) ?_
  refine hp_putC (ci := 0) (v := .double y2) (ty := .double) (C := R_Ex) (T := F_Ex) (N := 5) hx hb hg i_Ex t_Ex t_Ex_ok n_Ex hown hK hI hS ha rfl 4 (by decide) (hg _ k_136) (fun _ h9 => h9) rfl (by decide +kernel) rfl rfl (Nat.le_of_ble_eq_true rfl) d_Ex_span_24 (fun H locs hI hS hsz => ?_)
  obtain ⟨w_5, ew_5⟩ : ∃ z, z = hp_set w_4 a (.inr (0, [.int 0, .double x1, .double y1, .double x2, .double y2])) := ⟨_, rfl⟩
  have hI : eI G S0 w_5 H := by rw [ew_5]; exact hI
  have ha : w_5 a = some (.inr (0, [.int 0, .double x1, .double y1, .double x2, .double y2])) := by rw [ew_5]; exact hp_set_eq _ _ _
  exact W.vret hx hb hr (fun t ht hW => ⟨⟨w_5, rfl, by rw [ew_5, ew_4, ew_3, ew_2, ew_1, hp_set_set, hp_set_set, hp_set_set, hp_set_set], eWo ht hI⟩, hS.F ht⟩) hS.2.2 d_Ex_span_27
set_option maxHeartbeats 4000000 in
set_option maxRecDepth 100000 in
theorem m_Ex_scale (l : Launch) (G : EG) (S0 : Nat) (w : hp_M) (a : Nat) (f : UInt64) {e0 : Int32} {la lb ga gb : UInt64} (ha : w a = some (oEx e0 la lb ga gb)) (h1 : vf_n64 (FP.dmul la f)) (h2 : vf_n64 (FP.dmul lb f)) (h3 : vf_n64 (FP.dmul ga f)) (h4 : vf_n64 (FP.dmul gb f)) : Met l y_Ex_scale w_Ex_scale (rl 1 0 0) (eP G S0 w [.ref a, .double f]) (va_Qv (fun u => u = hp_set w a (oEx 0 (FP.dmul la f) (FP.dmul lb f) (FP.dmul ga f) (FP.dmul gb f))) (eW G S0) (hp_A S0)) 0 0 (hp_A S0) := by
  refine Met.ofW (cc := b_Ex_scale) (maxL := 3) (ret := none) (by decide) rfl ?_
  intro p e s m args below meth c s₁ B hml hv
  obtain ⟨rfl, hE, hI, hz⟩ := hv
  have hx := B.exec
  have hb := B.bytes
  have hr := B.returns
  have hts := atoms_spec (ws := w_Ex_scale) B.pre
  have hg : ∀ w ∈ gw, w.before _ s = true := fun w h => hts w (List.mem_cons_of_mem _ h)
  have hown : s.vm.findClass "SceneEasel$Extent" = some m.cls := findClass_of_methodNamed B.named
  have hlocks := B.notSynchronized
  have hK := hE.K
  have hS : va_S (hp_A S0) s.heap s.heap [] := va_S.rf
  have hl := lv_entry ([.ref a, .double f]) (n := 3) (Nat.le_of_ble_eq_true rfl)
  rw [lg_entry_eq]
  generalize (lg_sl ([.ref a, .double f]) ++ List.replicate (3 - (lg_sl ([.ref a, .double f])).length) Slot.unset).toArray = ls at hl ⊢
  have hl : lv_has ls 3 [(0, .ref a), (1, .double f)] := hl
  refine lv_aload_n hx hb d_Ex_scale_0 rfl (lv_at hl 0 rfl) ?_
  refine lv_aload_n hx hb d_Ex_scale_1 rfl (lv_at hl 0 rfl) ?_
  refine hp_get (ci := 0) (v := .double la) (C := R_Ex) (T := F_Ex) (N := 5) hx hb hg i_Ex hown hK hI ha rfl 1 (by decide) (hg _ k_133) (fun _ h9 => h9) rfl d_Ex_scale_2 ?_
  refine lv_dload_n hx hb d_Ex_scale_5 rfl (lv_at hl 1 rfl) ?_
  refine lv_dmul hx hb d_Ex_scale_6 h1 ?_
  refine lv_aload_n hx hb d_Ex_scale_7 rfl (lv_at hl 0 rfl) ?_
  refine hp_get (ci := 0) (v := .double lb) (C := R_Ex) (T := F_Ex) (N := 5) hx hb hg i_Ex hown hK hI ha rfl 2 (by decide) (hg _ k_134) (fun _ h9 => h9) rfl d_Ex_scale_8 ?_
  refine lv_dload_n hx hb d_Ex_scale_11 rfl (lv_at hl 1 rfl) ?_
  refine lv_dmul hx hb d_Ex_scale_12 h2 ?_
  refine lv_aload_n hx hb d_Ex_scale_13 rfl (lv_at hl 0 rfl) ?_
  refine hp_get (ci := 0) (v := .double ga) (C := R_Ex) (T := F_Ex) (N := 5) hx hb hg i_Ex hown hK hI ha rfl 3 (by decide) (hg _ k_135) (fun _ h9 => h9) rfl d_Ex_scale_14 ?_
  refine lv_dload_n hx hb d_Ex_scale_17 rfl (lv_at hl 1 rfl) ?_
  refine lv_dmul hx hb d_Ex_scale_18 h3 ?_
  refine lv_aload_n hx hb d_Ex_scale_19 rfl (lv_at hl 0 rfl) ?_
  refine hp_get (ci := 0) (v := .double gb) (C := R_Ex) (T := F_Ex) (N := 5) hx hb hg i_Ex hown hK hI ha rfl 4 (by decide) (hg _ k_136) (fun _ h9 => h9) rfl d_Ex_scale_20 ?_
  refine lv_dload_n hx hb d_Ex_scale_23 rfl (lv_at hl 1 rfl) ?_
  refine lv_dmul hx hb d_Ex_scale_24 h4 ?_
  refine ec_v (va_runV (As := [.double (FP.dmul la f), .double (FP.dmul lb f), .double (FP.dmul ga f), .double (FP.dmul gb f)]) (rest := []) ⟨hx, hb, hml, hown, hts⟩ (m_Ex_span l G S0 w a (FP.dmul la f) (FP.dmul lb f) (FP.dmul ga f) (FP.dmul gb f) ha) (cwV 4 hts (gw_V k_735 k_725 k_35 k_65 k_726) rfl rfl rfl (by decide +kernel) ⟨Nat.le_of_ble_eq_true rfl, Nat.le_of_ble_eq_true rfl⟩) (eB.preV hE hI hS hz rfl ha) rfl rfl hl.1 rfl (lv_room (Nat.le_of_ble_eq_true rfl)) d_Ex_scale_25 ⟨Nat.le_of_ble_eq_true rfl, Nat.le_of_ble_eq_true rfl⟩) hS (fun w_1 H locs ew_1 hI hsz hS => ?_)
  have ha : w_1 a = some (.inr (0, [.int 0, .double (FP.dmul la f), .double (FP.dmul lb f), .double (FP.dmul ga f), .double (FP.dmul gb f)])) := by rw [ew_1]; exact hp_set_eq _ _ _
  exact W.vret hx hb hr (fun t ht hW => ⟨⟨w_1, rfl, ew_1, eWo ht hI⟩, hS.F ht⟩) hS.2.2 d_Ex_scale_28
set_option maxHeartbeats 4000000 in
set_option maxRecDepth 100000 in
theorem m_Ex_turnOnce (l : Launch) (G : EG) (S0 : Nat) (w : hp_M) (a : Nat) {e0 : Int32} {la lb ga gb : UInt64} (ha : w a = some (oEx e0 la lb ga gb)) : Met l y_Ex_turnOnce w_Ex_turnOnce (rl 1 0 0) (eP G S0 w [.ref a]) (va_Qv (fun u => u = hp_set w a (oEx 0 (FP.dneg gb) la (FP.dneg lb) ga)) (eW G S0) (hp_A S0)) 0 0 (hp_A S0) := by
  refine Met.ofW (cc := b_Ex_turnOnce) (maxL := 1) (ret := none) (by decide) rfl ?_
  intro p e s m args below meth c s₁ B hml hv
  obtain ⟨rfl, hE, hI, hz⟩ := hv
  have hx := B.exec
  have hb := B.bytes
  have hr := B.returns
  have hts := atoms_spec (ws := w_Ex_turnOnce) B.pre
  have hg : ∀ w ∈ gw, w.before _ s = true := fun w h => hts w (List.mem_cons_of_mem _ h)
  have hown : s.vm.findClass "SceneEasel$Extent" = some m.cls := findClass_of_methodNamed B.named
  have hlocks := B.notSynchronized
  have hK := hE.K
  have hS : va_S (hp_A S0) s.heap s.heap [] := va_S.rf
  have hl := lv_entry ([.ref a]) (n := 1) (Nat.le_of_ble_eq_true rfl)
  rw [lg_entry_eq]
  generalize (lg_sl ([.ref a]) ++ List.replicate (1 - (lg_sl ([.ref a])).length) Slot.unset).toArray = ls at hl ⊢
  have hl : lv_has ls 1 [(0, .ref a)] := hl
  refine lv_aload_n hx hb d_Ex_turnOnce_0 rfl (lv_at hl 0 rfl) ?_
  refine lv_aload_n hx hb d_Ex_turnOnce_1 rfl (lv_at hl 0 rfl) ?_
  refine hp_get (ci := 0) (v := .double gb) (C := R_Ex) (T := F_Ex) (N := 5) hx hb hg i_Ex hown hK hI ha rfl 4 (by decide) (hg _ k_136) (fun _ h9 => h9) rfl d_Ex_turnOnce_2 ?_
  refine lv_dneg hx hb d_Ex_turnOnce_5 ?_
  refine lv_aload_n hx hb d_Ex_turnOnce_6 rfl (lv_at hl 0 rfl) ?_
  refine hp_get (ci := 0) (v := .double la) (C := R_Ex) (T := F_Ex) (N := 5) hx hb hg i_Ex hown hK hI ha rfl 1 (by decide) (hg _ k_133) (fun _ h9 => h9) rfl d_Ex_turnOnce_7 ?_
  refine lv_aload_n hx hb d_Ex_turnOnce_10 rfl (lv_at hl 0 rfl) ?_
  refine hp_get (ci := 0) (v := .double lb) (C := R_Ex) (T := F_Ex) (N := 5) hx hb hg i_Ex hown hK hI ha rfl 2 (by decide) (hg _ k_134) (fun _ h9 => h9) rfl d_Ex_turnOnce_11 ?_
  refine lv_dneg hx hb d_Ex_turnOnce_14 ?_
  refine lv_aload_n hx hb d_Ex_turnOnce_15 rfl (lv_at hl 0 rfl) ?_
  refine hp_get (ci := 0) (v := .double ga) (C := R_Ex) (T := F_Ex) (N := 5) hx hb hg i_Ex hown hK hI ha rfl 3 (by decide) (hg _ k_135) (fun _ h9 => h9) rfl d_Ex_turnOnce_16 ?_
  refine ec_v (va_runV (As := [.double (FP.dneg gb), .double la, .double (FP.dneg lb), .double ga]) (rest := []) ⟨hx, hb, hml, hown, hts⟩ (m_Ex_span l G S0 w a (FP.dneg gb) la (FP.dneg lb) ga ha) (cwV 4 hts (gw_V k_735 k_725 k_35 k_65 k_726) rfl rfl rfl (by decide +kernel) ⟨Nat.le_of_ble_eq_true rfl, Nat.le_of_ble_eq_true rfl⟩) (eB.preV hE hI hS hz rfl ha) rfl rfl hl.1 rfl (lv_room (Nat.le_of_ble_eq_true rfl)) d_Ex_turnOnce_19 ⟨Nat.le_of_ble_eq_true rfl, Nat.le_of_ble_eq_true rfl⟩) hS (fun w_1 H locs ew_1 hI hsz hS => ?_)
  have ha : w_1 a = some (.inr (0, [.int 0, .double (FP.dneg gb), .double la, .double (FP.dneg lb), .double ga])) := by rw [ew_1]; exact hp_set_eq _ _ _
  exact W.vret hx hb hr (fun t ht hW => ⟨⟨w_1, rfl, ew_1, eWo ht hI⟩, hS.F ht⟩) hS.2.2 d_Ex_turnOnce_22
set_option maxHeartbeats 4000000 in
set_option maxRecDepth 100000 in
theorem m_Ex_shift (l : Launch) (G : EG) (S0 : Nat) (w : hp_M) (a : Nat) (x y : UInt64) {e0 : Int32} {la lb ga gb : UInt64} (ha : w a = some (oEx e0 la lb ga gb)) (h1 : vf_n64 (FP.dadd la x)) (h2 : vf_n64 (FP.dadd lb y)) (h3 : vf_n64 (FP.dadd ga x)) (h4 : vf_n64 (FP.dadd gb y)) : Met l y_Ex_shift w_Ex_shift (rl 1 0 0) (eP G S0 w [.ref a, .double x, .double y]) (va_Qv (fun u => u = hp_set w a (oEx 0 (FP.dadd la x) (FP.dadd lb y) (FP.dadd ga x) (FP.dadd gb y))) (eW G S0) (hp_A S0)) 0 0 (hp_A S0) := by
  refine Met.ofW (cc := b_Ex_shift) (maxL := 5) (ret := none) (by decide) rfl ?_
  intro p e s m args below meth c s₁ B hml hv
  obtain ⟨rfl, hE, hI, hz⟩ := hv
  have hx := B.exec
  have hb := B.bytes
  have hr := B.returns
  have hts := atoms_spec (ws := w_Ex_shift) B.pre
  have hg : ∀ w ∈ gw, w.before _ s = true := fun w h => hts w (List.mem_cons_of_mem _ h)
  have hown : s.vm.findClass "SceneEasel$Extent" = some m.cls := findClass_of_methodNamed B.named
  have hlocks := B.notSynchronized
  have hK := hE.K
  have hS : va_S (hp_A S0) s.heap s.heap [] := va_S.rf
  have hl := lv_entry ([.ref a, .double x, .double y]) (n := 5) (Nat.le_of_ble_eq_true rfl)
  rw [lg_entry_eq]
  generalize (lg_sl ([.ref a, .double x, .double y]) ++ List.replicate (5 - (lg_sl ([.ref a, .double x, .double y])).length) Slot.unset).toArray = ls at hl ⊢
  have hl : lv_has ls 5 [(0, .ref a), (1, .double x), (3, .double y)] := hl
  refine lv_aload_n hx hb d_Ex_shift_0 rfl (lv_at hl 0 rfl) ?_
  refine lv_aload_n hx hb d_Ex_shift_1 rfl (lv_at hl 0 rfl) ?_
  refine hp_get (ci := 0) (v := .double la) (C := R_Ex) (T := F_Ex) (N := 5) hx hb hg i_Ex hown hK hI ha rfl 1 (by decide) (hg _ k_133) (fun _ h9 => h9) rfl d_Ex_shift_2 ?_
  refine lv_dload_n hx hb d_Ex_shift_5 rfl (lv_at hl 1 rfl) ?_
  refine lv_dadd hx hb d_Ex_shift_6 h1 ?_
  refine lv_aload_n hx hb d_Ex_shift_7 rfl (lv_at hl 0 rfl) ?_
  refine hp_get (ci := 0) (v := .double lb) (C := R_Ex) (T := F_Ex) (N := 5) hx hb hg i_Ex hown hK hI ha rfl 2 (by decide) (hg _ k_134) (fun _ h9 => h9) rfl d_Ex_shift_8 ?_
  refine lv_dload_n hx hb d_Ex_shift_11 rfl (lv_at hl 2 rfl) ?_
  refine lv_dadd hx hb d_Ex_shift_12 h2 ?_
  refine lv_aload_n hx hb d_Ex_shift_13 rfl (lv_at hl 0 rfl) ?_
  refine hp_get (ci := 0) (v := .double ga) (C := R_Ex) (T := F_Ex) (N := 5) hx hb hg i_Ex hown hK hI ha rfl 3 (by decide) (hg _ k_135) (fun _ h9 => h9) rfl d_Ex_shift_14 ?_
  refine lv_dload_n hx hb d_Ex_shift_17 rfl (lv_at hl 1 rfl) ?_
  refine lv_dadd hx hb d_Ex_shift_18 h3 ?_
  refine lv_aload_n hx hb d_Ex_shift_19 rfl (lv_at hl 0 rfl) ?_
  refine hp_get (ci := 0) (v := .double gb) (C := R_Ex) (T := F_Ex) (N := 5) hx hb hg i_Ex hown hK hI ha rfl 4 (by decide) (hg _ k_136) (fun _ h9 => h9) rfl d_Ex_shift_20 ?_
  refine lv_dload_n hx hb d_Ex_shift_23 rfl (lv_at hl 2 rfl) ?_
  refine lv_dadd hx hb d_Ex_shift_24 h4 ?_
  refine ec_v (va_runV (As := [.double (FP.dadd la x), .double (FP.dadd lb y), .double (FP.dadd ga x), .double (FP.dadd gb y)]) (rest := []) ⟨hx, hb, hml, hown, hts⟩ (m_Ex_span l G S0 w a (FP.dadd la x) (FP.dadd lb y) (FP.dadd ga x) (FP.dadd gb y) ha) (cwV 4 hts (gw_V k_735 k_725 k_35 k_65 k_726) rfl rfl rfl (by decide +kernel) ⟨Nat.le_of_ble_eq_true rfl, Nat.le_of_ble_eq_true rfl⟩) (eB.preV hE hI hS hz rfl ha) rfl rfl hl.1 rfl (lv_room (Nat.le_of_ble_eq_true rfl)) d_Ex_shift_25 ⟨Nat.le_of_ble_eq_true rfl, Nat.le_of_ble_eq_true rfl⟩) hS (fun w_1 H locs ew_1 hI hsz hS => ?_)
  have ha : w_1 a = some (.inr (0, [.int 0, .double (FP.dadd la x), .double (FP.dadd lb y), .double (FP.dadd ga x), .double (FP.dadd gb y)])) := by rw [ew_1]; exact hp_set_eq _ _ _
  exact W.vret hx hb hr (fun t ht hW => ⟨⟨w_1, rfl, ew_1, eWo ht hI⟩, hS.F ht⟩) hS.2.2 d_Ex_shift_28

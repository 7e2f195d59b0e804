/-! ArrayList -/
theorem gw_SA {own : String} {idx : Nat} {y : MethodName} {c c0 : Cond} (h1 : Cond.methodLink own idx y ∈ gw) (h2 : Cond.static y ∈ gw) (h4 : Cond.initialized y.cls ∈ gw) (h5 : c ∈ gw) : GoodIn (c0 :: gw) (va_wsS own idx y (c :: gw)) := by
  intro w hw
  unfold va_wsS at hw
  rcases List.mem_append.mp hw with hw | hw
  · simp only [List.mem_cons, List.not_mem_nil, or_false] at hw
    rcases hw with rfl | rfl | rfl
    · exact gw_good c0 _ h1
    · exact gw_good c0 _ h2
    · exact gw_good c0 _ h4
  · exact gw_code h5 w hw
abbrev oAl (mc : Int32) (ea n : Nat) : va_E := .inr (4, [.int mc, .ref ea, .int (nI n)])
abbrev aO (G : EG) (n : Nat) (f : Nat → Option Nat) : va_E := .inl (G.2.2.1 6, n, .inr (.inr (.inr (.inr f))))
set_option maxHeartbeats 4000000 in
set_option maxRecDepth 100000 in
theorem m_Al_size (l : Launch) (G : EG) (S0 : Nat) (w : hp_M) (a ea n : Nat) {mc : Int32} (ha : w a = some (oAl mc ea n)) : Met l y_Al_size w_Al_size (rl 0 0 0) (eP G S0 w [.ref a]) (va_Qi (fun r z => r = nI n ∧ z = w) (eW G S0) (hp_A S0)) 0 0 (hp_A S0) := by
  refine Met.ofW (cc := b_Al_size) (maxL := 1) (ret := (some .int)) (by decide) rfl ?_
  intro p e s m args below meth c s₁ B hml hv
  obtain ⟨rfl, hE, hI, hz⟩ := hv
  have hx := B.exec
  have hb := B.bytes
  have hr := B.returns
  have hts := atoms_spec (ws := w_Al_size) B.pre
  have hg : ∀ w ∈ gw, w.before _ s = true := fun w h => hts w (List.mem_cons_of_mem _ h)
  have hown : s.vm.findClass "java/util/ArrayList" = some m.cls := findClass_of_methodNamed B.named
  have hlocks := B.notSynchronized
  have hK := hE.K
  have hS : va_S (hp_A S0) s.heap s.heap [] := va_S.rf
  have hl := lv_entry ([.ref a]) (n := 1) (Nat.le_of_ble_eq_true rfl)
  rw [lg_entry_eq]
  generalize (lg_sl ([.ref a]) ++ List.replicate (1 - (lg_sl ([.ref a])).length) Slot.unset).toArray = ls at hl ⊢
  have hl : lv_has ls 1 [(0, .ref a)] := hl
  refine lv_aload_n hx hb d_Al_size_0 rfl (lv_at hl 0 rfl) ?_
  refine hp_get (ci := 4) (v := .int (nI n)) (C := R_Al) (T := F_Al) (N := 3) hx hb hg i_Al hown hK hI ha rfl 2 (by decide) (hg _ k_110) (fun _ h9 => h9) rfl d_Al_size_1 ?_
  exact W.iret (v := (nI n)) hx hb hr (fun t ht hW => ⟨⟨(nI n), w, rfl, ⟨rfl, rfl⟩, eWo ht hI⟩, hS.F ht⟩) hS.2.2 d_Al_size_4
set_option maxHeartbeats 4000000 in
set_option maxRecDepth 100000 in
theorem m_Al_isEmpty (l : Launch) (G : EG) (S0 : Nat) (w : hp_M) (a ea n : Nat) (hn : n < 2 ^ 31) {mc : Int32} (ha : w a = some (oAl mc ea n)) : Met l y_Al_isEmpty w_Al_isEmpty (rl 0 0 0) (eP G S0 w [.ref a]) (va_Qi (fun r z => r = (if n = 0 then 1 else 0) ∧ z = w) (eW G S0) (hp_A S0)) 0 0 (hp_A S0) := by
  refine Met.ofW (cc := b_Al_isEmpty) (maxL := 1) (ret := (some .boolean)) (by decide) rfl ?_
  intro p e s m args below meth c s₁ B hml hv
  obtain ⟨rfl, hE, hI, hz⟩ := hv
  have hx := B.exec
  have hb := B.bytes
  have hr := B.returns
  have hts := atoms_spec (ws := w_Al_isEmpty) B.pre
  have hg : ∀ w ∈ gw, w.before _ s = true := fun w h => hts w (List.mem_cons_of_mem _ h)
  have hown : s.vm.findClass "java/util/ArrayList" = some m.cls := findClass_of_methodNamed B.named
  have hlocks := B.notSynchronized
  have hK := hE.K
  have hS : va_S (hp_A S0) s.heap s.heap [] := va_S.rf
  have hl := lv_entry ([.ref a]) (n := 1) (Nat.le_of_ble_eq_true rfl)
  rw [lg_entry_eq]
  generalize (lg_sl ([.ref a]) ++ List.replicate (1 - (lg_sl ([.ref a])).length) Slot.unset).toArray = ls at hl ⊢
  have hl : lv_has ls 1 [(0, .ref a)] := hl
  have e0 : nI n = 0 ↔ n = 0 := nI_eq (a := n) (b := 0) hn (by decide)
  refine lv_aload_n hx hb d_Al_isEmpty_0 rfl (lv_at hl 0 rfl) ?_
  refine hp_get (ci := 4) (v := .int (nI n)) (C := R_Al) (T := F_Al) (N := 3) hx hb hg i_Al hown hK hI ha rfl 2 (by decide) (hg _ k_110) (fun _ h9 => h9) rfl d_Al_isEmpty_1 ?_
  refine lv_if_ne (tgt := 11) hx hb d_Al_isEmpty_4 (by decide) (fun c1 => ?_) (fun c1 => ?_)
  · refine lv_iconst (v := 0) hx hb d_Al_isEmpty_11 (by decide) ?_
    exact W.zret (v := 0) hx hb hr rfl (fun t ht hW => ⟨⟨0, w, rfl, ⟨by rw [if_neg (fun h => c1 (e0.mpr h))], rfl⟩, eWo ht hI⟩, hS.F ht⟩) hS.2.2 d_Al_isEmpty_12
  · refine lv_iconst (v := 1) hx hb d_Al_isEmpty_7 (by decide) ?_
    refine lv_goto (tgt := 12) hx hb d_Al_isEmpty_8 (by decide) ?_
    exact W.zret (v := 1) hx hb hr rfl (fun t ht hW => ⟨⟨1, w, rfl, ⟨by rw [if_pos (e0.mp c1)], rfl⟩, eWo ht hI⟩, hS.F ht⟩) hS.2.2 d_Al_isEmpty_12
set_option maxHeartbeats 4000000 in
set_option maxRecDepth 100000 in
theorem m_Pr_checkIndex (l : Launch) (G : EG) (S0 : Nat) (w : hp_M) (i n : Nat) (hi : i < n) (hn : n < 2 ^ 31) : Met l y_Pr_checkIndex w_Pr_checkIndex (rl 0 0 0) (eP G S0 w [.int (nI i), .int (nI n), .null]) (va_Qi (fun r z => r = nI i ∧ z = w) (eW G S0) (hp_A S0)) 0 0 (hp_A S0) := by
  refine Met.ofW (cc := b_Pr_checkIndex) (maxL := 3) (ret := (some .int)) (by decide) rfl ?_
  intro p e s m args below meth c s₁ B hml hv
  obtain ⟨rfl, hE, hI, hz⟩ := hv
  have hx := B.exec
  have hb := B.bytes
  have hr := B.returns
  have hts := atoms_spec (ws := w_Pr_checkIndex) B.pre
  have hg : ∀ w ∈ gw, w.before _ s = true := fun w h => hts w (List.mem_cons_of_mem _ h)
  have hown : s.vm.findClass "jdk/internal/util/Preconditions" = some m.cls := findClass_of_methodNamed B.named
  have hlocks := B.notSynchronized
  have hK := hE.K
  have hS : va_S (hp_A S0) s.heap s.heap [] := va_S.rf
  have hl := lv_entry ([.int (nI i), .int (nI n), .null]) (n := 3) (Nat.le_of_ble_eq_true rfl)
  rw [lg_entry_eq]
  generalize (lg_sl ([.int (nI i), .int (nI n), .null]) ++ List.replicate (3 - (lg_sl ([.int (nI i), .int (nI n), .null])).length) Slot.unset).toArray = ls at hl ⊢
  have hl : lv_has ls 3 [(0, .int (nI i)), (1, .int (nI n)), (2, .null)] := hl
  refine lv_iload_n hx hb d_Pr_checkIndex_0 rfl (lv_at hl 0 rfl) ?_
  refine lv_if_lt (tgt := 9) hx hb d_Pr_checkIndex_1 (by decide) (fun c9 => absurd c9 (nI_pos (by omega))) (fun c9 => ?_)
  refine lv_iload_n hx hb d_Pr_checkIndex_4 rfl (lv_at hl 0 rfl) ?_
  refine lv_iload_n hx hb d_Pr_checkIndex_5 rfl (lv_at hl 1 rfl) ?_
  refine lv_icmp_lt (tgt := 16) hx hb d_Pr_checkIndex_6 (by decide) (fun c9 => ?_) (fun c9 => absurd (nI_lt hi hn) c9)
  refine lv_iload_n hx hb d_Pr_checkIndex_16 rfl (lv_at hl 0 rfl) ?_
  exact W.iret (v := (nI i)) hx hb hr (fun t ht hW => ⟨⟨(nI i), w, rfl, ⟨rfl, rfl⟩, eWo ht hI⟩, hS.F ht⟩) hS.2.2 d_Pr_checkIndex_17
set_option maxHeartbeats 4000000 in
set_option maxRecDepth 100000 in
theorem m_Ob_checkIndex (l : Launch) (G : EG) (S0 : Nat) (w : hp_M) (i n : Nat) (hi : i < n) (hn : n < 2 ^ 31) : Met l y_Ob_checkIndex w_Ob_checkIndex (rl 1 0 0) (eP G S0 w [.int (nI i), .int (nI n)]) (va_Qi (fun r z => r = nI i ∧ z = w) (eW G S0) (hp_A S0)) 0 0 (hp_A S0) := by
  refine Met.ofW (cc := b_Ob_checkIndex) (maxL := 2) (ret := (some .int)) (by decide) rfl ?_
  intro p e s m args below meth c s₁ B hml hv
  obtain ⟨rfl, hE, hI, hz⟩ := hv
  have hx := B.exec
  have hb := B.bytes
  have hr := B.returns
  have hts := atoms_spec (ws := w_Ob_checkIndex) B.pre
  have hg : ∀ w ∈ gw, w.before _ s = true := fun w h => hts w (List.mem_cons_of_mem _ h)
  have hown : s.vm.findClass "java/util/Objects" = some m.cls := findClass_of_methodNamed B.named
  have hlocks := B.notSynchronized
  have hK := hE.K
  have hS : va_S (hp_A S0) s.heap s.heap [] := va_S.rf
  have hl := lv_entry ([.int (nI i), .int (nI n)]) (n := 2) (Nat.le_of_ble_eq_true rfl)
  rw [lg_entry_eq]
  generalize (lg_sl ([.int (nI i), .int (nI n)]) ++ List.replicate (2 - (lg_sl ([.int (nI i), .int (nI n)])).length) Slot.unset).toArray = ls at hl ⊢
  have hl : lv_has ls 2 [(0, .int (nI i)), (1, .int (nI n))] := hl
  refine lv_iload_n hx hb d_Ob_checkIndex_0 rfl (lv_at hl 0 rfl) ?_
  refine lv_iload_n hx hb d_Ob_checkIndex_1 rfl (lv_at hl 1 rfl) ?_
  refine lv_null hx hb d_Ob_checkIndex_2 ?_
  refine ec_i (va_runS (As := [.int (nI i), .int (nI n), .null]) (rest := []) ⟨hx, hb, hml, hown, hts⟩ (m_Pr_checkIndex l G S0 w i n hi hn) (va_cwS 3 hts (gw_SA k_599 k_600 k_79 k_601) rfl rfl rfl (by decide +kernel) ⟨Nat.le_of_ble_eq_true rfl, Nat.le_of_ble_eq_true rfl⟩) (eB.preS hE hI hS hz) rfl rfl hl.1 rfl (lv_room (Nat.le_of_ble_eq_true rfl)) d_Ob_checkIndex_3 ⟨Nat.le_of_ble_eq_true rfl, Nat.le_of_ble_eq_true rfl⟩) hS (fun r_2 w_1 H locs ew_1 hI hsz hS => ?_)
  obtain ⟨er_2, ew_1⟩ := ew_1
  have ew_1 := ew_1.symm
  subst ew_1
  exact W.iret (v := r_2) hx hb hr (fun t ht hW => ⟨⟨r_2, w, rfl, ⟨er_2, rfl⟩, eWo ht hI⟩, hS.F ht⟩) hS.2.2 d_Ob_checkIndex_6
set_option maxHeartbeats 4000000 in
set_option maxRecDepth 100000 in
theorem m_Al_elementData (l : Launch) (G : EG) (S0 : Nat) (w : hp_M) (a ea n i : Nat) (cap : Nat) (f : Nat → Option Nat) (hi : i < cap) (hc : cap < 2 ^ 31) {mc : Int32} (ha : w a = some (oAl mc ea n)) (he : w ea = some (aO G cap f)) : Met l y_Al_elementData w_Al_elementData (rl 0 0 0) (eP G S0 w [.ref a, .int (nI i)]) (va_Qo (fun r z => r = f i ∧ z = w) (eW G S0) (hp_A S0)) 0 0 (hp_A S0) := by
  refine Met.ofW (cc := b_Al_elementData) (maxL := 2) (ret := (some (.object "java/lang/Object"))) (by decide) rfl ?_
  intro p e s m args below meth c s₁ B hml hv
  obtain ⟨rfl, hE, hI, hz⟩ := hv
  have hx := B.exec
  have hb := B.bytes
  have hr := B.returns
  have hts := atoms_spec (ws := w_Al_elementData) B.pre
  have hg : ∀ w ∈ gw, w.before _ s = true := fun w h => hts w (List.mem_cons_of_mem _ h)
  have hown : s.vm.findClass "java/util/ArrayList" = some m.cls := findClass_of_methodNamed B.named
  have hlocks := B.notSynchronized
  have hK := hE.K
  have hS : va_S (hp_A S0) s.heap s.heap [] := va_S.rf
  have hl := lv_entry ([.ref a, .int (nI i)]) (n := 2) (Nat.le_of_ble_eq_true rfl)
  rw [lg_entry_eq]
  generalize (lg_sl ([.ref a, .int (nI i)]) ++ List.replicate (2 - (lg_sl ([.ref a, .int (nI i)])).length) Slot.unset).toArray = ls at hl ⊢
  have hl : lv_has ls 2 [(0, .ref a), (1, .int (nI i))] := hl
  refine lv_aload_n hx hb d_Al_elementData_0 rfl (lv_at hl 0 rfl) ?_
  refine hp_get (ci := 4) (v := .ref ea) (C := R_Al) (T := F_Al) (N := 3) hx hb hg i_Al hown hK hI ha rfl 1 (by decide) (hg _ k_109) (fun _ h9 => h9) rfl d_Al_elementData_1 ?_
  refine lv_iload_n hx hb d_Al_elementData_4 rfl (lv_at hl 1 rfl) ?_
  refine hp_aald hx hb hK hI 6 he rfl (vp_in_nI hi hc) d_Al_elementData_5 ?_
  rw [nI_clamp (n := i) (by omega)]
  exact W.aret (v := va_rf (f i)) hx hb hr (Or.inl ⟨_, rfl⟩) (va_rf_or _) (fun t ht hW => ⟨⟨(f i), w, rfl, ⟨rfl, rfl⟩, eWo ht hI⟩, hS.F ht⟩) hS.2.2 d_Al_elementData_6
set_option maxHeartbeats 4000000 in
set_option maxRecDepth 100000 in
theorem m_Al_get (l : Launch) (G : EG) (S0 : Nat) (w : hp_M) (a ea n i : Nat) (cap : Nat) (f : Nat → Option Nat) (hi : i < n) (hnc : n ≤ cap) (hc : cap < 2 ^ 31) {mc : Int32} (ha : w a = some (oAl mc ea n)) (he : w ea = some (aO G cap f)) : Met l y_Al_get w_Al_get (rl 2 0 0) (eP G S0 w [.ref a, .int (nI i)]) (va_Qo (fun r z => r = f i ∧ z = w) (eW G S0) (hp_A S0)) 0 0 (hp_A S0) := by
  refine Met.ofW (cc := b_Al_get) (maxL := 2) (ret := (some (.object "java/lang/Object"))) (by decide) rfl ?_
  intro p e s m args below meth c s₁ B hml hv
  obtain ⟨rfl, hE, hI, hz⟩ := hv
  have hx := B.exec
  have hb := B.bytes
  have hr := B.returns
  have hts := atoms_spec (ws := w_Al_get) B.pre
  have hg : ∀ w ∈ gw, w.before _ s = true := fun w h => hts w (List.mem_cons_of_mem _ h)
  have hown : s.vm.findClass "java/util/ArrayList" = some m.cls := findClass_of_methodNamed B.named
  have hlocks := B.notSynchronized
  have hK := hE.K
  have hS : va_S (hp_A S0) s.heap s.heap [] := va_S.rf
  have hl := lv_entry ([.ref a, .int (nI i)]) (n := 2) (Nat.le_of_ble_eq_true rfl)
  rw [lg_entry_eq]
  generalize (lg_sl ([.ref a, .int (nI i)]) ++ List.replicate (2 - (lg_sl ([.ref a, .int (nI i)])).length) Slot.unset).toArray = ls at hl ⊢
  have hl : lv_has ls 2 [(0, .ref a), (1, .int (nI i))] := hl
  refine lv_iload_n hx hb d_Al_get_0 rfl (lv_at hl 1 rfl) ?_
  refine lv_aload_n hx hb d_Al_get_1 rfl (lv_at hl 0 rfl) ?_
  refine hp_get (ci := 4) (v := .int (nI n)) (C := R_Al) (T := F_Al) (N := 3) hx hb hg i_Al hown hK hI ha rfl 2 (by decide) (hg _ k_110) (fun _ h9 => h9) rfl d_Al_get_2 ?_
  refine ec_i (va_runS (As := [.int (nI i), .int (nI n)]) (rest := []) ⟨hx, hb, hml, hown, hts⟩ (m_Ob_checkIndex l G S0 w i n hi (by omega)) (va_cwS 2 hts (gw_SA k_596 k_597 k_78 k_598) rfl rfl rfl (by decide +kernel) ⟨Nat.le_of_ble_eq_true rfl, Nat.le_of_ble_eq_true rfl⟩) (eB.preS hE hI hS hz) rfl rfl hl.1 rfl (lv_room (Nat.le_of_ble_eq_true rfl)) d_Al_get_5 ⟨Nat.le_of_ble_eq_true rfl, Nat.le_of_ble_eq_true rfl⟩) hS (fun r_2 w_1 H locs ew_1 hI hsz hS => ?_)
  obtain ⟨er_2, ew_1⟩ := ew_1
  have ew_1 := ew_1.symm
  subst ew_1
  refine lv_pop hx hb d_Al_get_8 rfl ?_
  refine lv_aload_n hx hb d_Al_get_9 rfl (lv_at hl 0 rfl) ?_
  refine lv_iload_n hx hb d_Al_get_10 rfl (lv_at hl 1 rfl) ?_
  refine ec_o (va_runV (As := [.int (nI i)]) (rest := []) ⟨hx, hb, hml, hown, hts⟩ (m_Al_elementData l G S0 w a ea n i cap f (by omega) hc ha he) (cwV 1 hts (gw_V k_602 k_603 k_604 k_64 k_605) rfl rfl rfl (by decide +kernel) ⟨Nat.le_of_ble_eq_true rfl, Nat.le_of_ble_eq_true rfl⟩) (eB.preV hE hI hS hz rfl ha) rfl rfl hl.1 rfl (lv_room (Nat.le_of_ble_eq_true rfl)) d_Al_get_11 ⟨Nat.le_of_ble_eq_true rfl, Nat.le_of_ble_eq_true rfl⟩) hS (fun r_4 w_3 H locs ew_3 hI hsz hS => ?_)
  obtain ⟨er_4, ew_3⟩ := ew_3
  have ew_3 := ew_3.symm
  subst ew_3
  exact W.aret (v := va_rf r_4) hx hb hr (Or.inl ⟨_, rfl⟩) (va_rf_or _) (fun t ht hW => ⟨⟨r_4, w, rfl, ⟨er_4, rfl⟩, eWo ht hI⟩, hS.F ht⟩) hS.2.2 d_Al_get_14

set_option maxHeartbeats 4000000 in
set_option maxRecDepth 100000 in
theorem m_Ea_requireWithin (l : Launch) (hlt : l.stackTraces = false) (G : EG) (S0 : Nat) (w : hp_M) (x lo hi : Int32) : vx_Met l y_Ea_requireWithin w_Ea_requireWithin (rl 0 1 6) (eP G S0 w [.int x, .int lo, .int hi]) (va_Qv (fun u => u = w ∧ (lo ≤ x ∧ x ≤ hi)) (eW G S0) (hp_A S0)) (eX G S0 (pIA w (¬ (lo ≤ x ∧ x ≤ hi)))) 1 6 (hp_A S0) := by
  refine vx_ofW (cc := b_Ea_requireWithin) (maxL := 3) (ret := none) (by decide) rfl ?_
  intro p e s m args below meth c s₁ B hml hnx hv
  obtain ⟨rfl, hE, hI, hz⟩ := hv
  have hx := B.exec
  have hb := B.bytes
  have hr := B.returns
  have hts := atoms_spec (ws := w_Ea_requireWithin) B.pre
  have hg : ∀ w ∈ gw, w.before _ s = true := fun w h => hts w (List.mem_cons_of_mem _ h)
  have hown : s.vm.findClass "SceneEasel" = some m.cls := findClass_of_methodNamed B.named
  have hlocks := B.notSynchronized
  have hK := hE.K
  have hS : va_S (hp_A S0) s.heap s.heap [] := va_S.rf
  have hl := lv_entry ([.int x, .int lo, .int hi]) (n := 3) (Nat.le_of_ble_eq_true rfl)
  rw [lg_entry_eq]
  generalize (lg_sl ([.int x, .int lo, .int hi]) ++ List.replicate (3 - (lg_sl ([.int x, .int lo, .int hi])).length) Slot.unset).toArray = ls at hl ⊢
  have hl : lv_has ls 3 [(0, .int x), (1, .int lo), (2, .int hi)] := hl
  refine lv_iload_n hx hb d_Ea_requireWithin_0 rfl (lv_at hl 0 rfl) ?_
  refine lv_iload_n hx hb d_Ea_requireWithin_1 rfl (lv_at hl 1 rfl) ?_
  refine lv_icmp_lt (tgt := 10) hx hb d_Ea_requireWithin_2 (by decide) (fun c1 => ?_) (fun c1 => ?_)
  · exact xt_throw (names := rte) (text := "a number out of range") k_304 k_71 (by decide +kernel) xf_iae x1_iae x2_iae x3_iae rfl hx hb hlt hown hg hE hI hS (hl.1.trans hml.symm) d_Ea_requireWithin_10 d_Ea_requireWithin_13 d_Ea_requireWithin_14 d_Ea_requireWithin_16 d_Ea_requireWithin_19 hnx hlocks (⟨rfl, rfl, fun h => absurd c1 (Int32.not_lt.mpr h.1)⟩) (Nat.le_of_ble_eq_true rfl) (Nat.le_of_ble_eq_true rfl) (Nat.le_of_ble_eq_true rfl) (Nat.le_of_ble_eq_true rfl) (Nat.le_of_ble_eq_true rfl) (Nat.le_of_ble_eq_true rfl)
  · refine lv_iload_n hx hb d_Ea_requireWithin_5 rfl (lv_at hl 0 rfl) ?_
    refine lv_iload_n hx hb d_Ea_requireWithin_6 rfl (lv_at hl 2 rfl) ?_
    refine lv_icmp_le (tgt := 20) hx hb d_Ea_requireWithin_7 (by decide) (fun c2 => ?_) (fun c2 => ?_)
    · refine vx_ret ?_
      refine W.widen (k := 1) (n := 6) (Nat.le_of_ble_eq_true rfl) (Nat.le_of_ble_eq_true rfl) ?_
      exact W.vret hx hb hr (fun t ht hW => ⟨⟨w, rfl, ⟨rfl, Int32.not_lt.mp c1, c2⟩, eWo ht hI⟩, hS.F ht⟩) hS.2.2 d_Ea_requireWithin_20
    · exact xt_throw (names := rte) (text := "a number out of range") k_304 k_71 (by decide +kernel) xf_iae x1_iae x2_iae x3_iae rfl hx hb hlt hown hg hE hI hS (hl.1.trans hml.symm) d_Ea_requireWithin_10 d_Ea_requireWithin_13 d_Ea_requireWithin_14 d_Ea_requireWithin_16 d_Ea_requireWithin_19 hnx hlocks (⟨rfl, rfl, fun h => c2 h.2⟩) (Nat.le_of_ble_eq_true rfl) (Nat.le_of_ble_eq_true rfl) (Nat.le_of_ble_eq_true rfl) (Nat.le_of_ble_eq_true rfl) (Nat.le_of_ble_eq_true rfl) (Nat.le_of_ble_eq_true rfl)
set_option maxHeartbeats 4000000 in
set_option maxRecDepth 100000 in
theorem m_Ea_requireBetween (l : Launch) (hlt : l.stackTraces = false) (G : EG) (S0 : Nat) (w : hp_M) (x lo hi : UInt64) : vx_Met l y_Ea_requireBetween w_Ea_requireBetween (rl 0 1 6) (eP G S0 w [.double x, .double lo, .double hi]) (va_Qv (fun u => u = w ∧ (dge x lo ∧ dle x hi)) (eW G S0) (hp_A S0)) (eX G S0 (pIA w (¬ (dge x lo ∧ dle x hi)))) 1 6 (hp_A S0) := by
  refine vx_ofW (cc := b_Ea_requireBetween) (maxL := 6) (ret := none) (by decide) rfl ?_
  intro p e s m args below meth c s₁ B hml hnx hv
  obtain ⟨rfl, hE, hI, hz⟩ := hv
  have hx := B.exec
  have hb := B.bytes
  have hr := B.returns
  have hts := atoms_spec (ws := w_Ea_requireBetween) B.pre
  have hg : ∀ w ∈ gw, w.before _ s = true := fun w h => hts w (List.mem_cons_of_mem _ h)
  have hown : s.vm.findClass "SceneEasel" = some m.cls := findClass_of_methodNamed B.named
  have hlocks := B.notSynchronized
  have hK := hE.K
  have hS : va_S (hp_A S0) s.heap s.heap [] := va_S.rf
  have hl := lv_entry ([.double x, .double lo, .double hi]) (n := 6) (Nat.le_of_ble_eq_true rfl)
  rw [lg_entry_eq]
  generalize (lg_sl ([.double x, .double lo, .double hi]) ++ List.replicate (6 - (lg_sl ([.double x, .double lo, .double hi])).length) Slot.unset).toArray = ls at hl ⊢
  have hl : lv_has ls 6 [(0, .double x), (2, .double lo), (4, .double hi)] := hl
  refine lv_dload_n hx hb d_Ea_requireBetween_0 rfl (lv_at hl 0 rfl) ?_
  refine lv_dload_n hx hb d_Ea_requireBetween_1 rfl (lv_at hl 1 rfl) ?_
  refine lv_dcmp hx hb d_Ea_requireBetween_2 ?_
  refine lv_if_lt (tgt := 13) hx hb d_Ea_requireBetween_3 (by decide) (fun c1 => ?_) (fun c1 => ?_)
  · exact xt_throw (names := rte) (text := "a number out of range") k_304 k_71 (by decide +kernel) xf_iae x1_iae x2_iae x3_iae rfl hx hb hlt hown hg hE hI hS (hl.1.trans hml.symm) d_Ea_requireBetween_13 d_Ea_requireBetween_16 d_Ea_requireBetween_17 d_Ea_requireBetween_19 d_Ea_requireBetween_22 hnx hlocks (⟨rfl, rfl, fun h => absurd c1 (Int32.not_lt.mpr (cv_l_ge.mpr h.1))⟩) (Nat.le_of_ble_eq_true rfl) (Nat.le_of_ble_eq_true rfl) (Nat.le_of_ble_eq_true rfl) (Nat.le_of_ble_eq_true rfl) (Nat.le_of_ble_eq_true rfl) (Nat.le_of_ble_eq_true rfl)
  · refine lv_dload_n hx hb d_Ea_requireBetween_6 rfl (lv_at hl 0 rfl) ?_
    refine lv_dload hx hb d_Ea_requireBetween_7 (lv_at hl 2 rfl) ?_
    refine lv_dcmp hx hb d_Ea_requireBetween_9 ?_
    refine lv_if_le (tgt := 23) hx hb d_Ea_requireBetween_10 (by decide) (fun c2 => ?_) (fun c2 => ?_)
    · refine vx_ret ?_
      refine W.widen (k := 1) (n := 6) (Nat.le_of_ble_eq_true rfl) (Nat.le_of_ble_eq_true rfl) ?_
      exact W.vret hx hb hr (fun t ht hW => ⟨⟨w, rfl, ⟨rfl, cv_l_ge.mp (Int32.not_lt.mp c1), cv_g_le.mp c2⟩, eWo ht hI⟩, hS.F ht⟩) hS.2.2 d_Ea_requireBetween_23
    · exact xt_throw (names := rte) (text := "a number out of range") k_304 k_71 (by decide +kernel) xf_iae x1_iae x2_iae x3_iae rfl hx hb hlt hown hg hE hI hS (hl.1.trans hml.symm) d_Ea_requireBetween_13 d_Ea_requireBetween_16 d_Ea_requireBetween_17 d_Ea_requireBetween_19 d_Ea_requireBetween_22 hnx hlocks (⟨rfl, rfl, fun h => c2 (cv_g_le.mpr h.2)⟩) (Nat.le_of_ble_eq_true rfl) (Nat.le_of_ble_eq_true rfl) (Nat.le_of_ble_eq_true rfl) (Nat.le_of_ble_eq_true rfl) (Nat.le_of_ble_eq_true rfl) (Nat.le_of_ble_eq_true rfl)
/-- a number is a whole one of so many parts -/
def dWhole (x : UInt64) (k : Int32) : Prop := FP.dcmp (FP.dmul x (FP.i2d k)) (FP.i2d (FP.d2i (FP.dmul x (FP.i2d k)))) = some .eq
set_option maxHeartbeats 4000000 in
set_option maxRecDepth 100000 in
theorem m_Ea_requireMultiple (l : Launch) (hlt : l.stackTraces = false) (G : EG) (S0 : Nat) (w : hp_M) (x : UInt64) (k : Int32) (hn : vf_n64 (FP.dmul x (FP.i2d k))) : vx_Met l y_Ea_requireMultiple w_Ea_requireMultiple (rl 0 1 6) (eP G S0 w [.double x, .int k]) (va_Qv (fun u => u = w ∧ dWhole x k) (eW G S0) (hp_A S0)) (eX G S0 (pIA w (¬ dWhole x k))) 1 6 (hp_A S0) := by
  refine vx_ofW (cc := b_Ea_requireMultiple) (maxL := 5) (ret := none) (by decide) rfl ?_
  intro p e s m args below meth c s₁ B hml hnx hv
  obtain ⟨rfl, hE, hI, hz⟩ := hv
  have hx := B.exec
  have hb := B.bytes
  have hr := B.returns
  have hts := atoms_spec (ws := w_Ea_requireMultiple) B.pre
  have hg : ∀ w ∈ gw, w.before _ s = true := fun w h => hts w (List.mem_cons_of_mem _ h)
  have hown : s.vm.findClass "SceneEasel" = some m.cls := findClass_of_methodNamed B.named
  have hlocks := B.notSynchronized
  have hK := hE.K
  have hS : va_S (hp_A S0) s.heap s.heap [] := va_S.rf
  have hl := lv_entry ([.double x, .int k]) (n := 5) (Nat.le_of_ble_eq_true rfl)
  rw [lg_entry_eq]
  generalize (lg_sl ([.double x, .int k]) ++ List.replicate (5 - (lg_sl ([.double x, .int k])).length) Slot.unset).toArray = ls at hl ⊢
  have hl : lv_has ls 5 [(0, .double x), (2, .int k)] := hl
  refine lv_dload_n hx hb d_Ea_requireMultiple_0 rfl (lv_at hl 0 rfl) ?_
  refine lv_iload_n hx hb d_Ea_requireMultiple_1 rfl (lv_at hl 1 rfl) ?_
  refine lv_i2d hx hb d_Ea_requireMultiple_2 ?_
  refine lv_dmul hx hb d_Ea_requireMultiple_3 hn ?_
  refine lv_dstore_n (lv' := [(3, .double (FP.dmul x (FP.i2d k))), (0, .double x), (2, .int k)]) hx hb d_Ea_requireMultiple_4 rfl hl (by decide) rfl (fun ls hl => ?_)
  refine lv_dload_n hx hb d_Ea_requireMultiple_5 rfl (lv_at hl 0 rfl) ?_
  refine lv_dload_n hx hb d_Ea_requireMultiple_6 rfl (lv_at hl 0 rfl) ?_
  refine lv_d2i hx hb d_Ea_requireMultiple_7 ?_
  refine lv_i2d hx hb d_Ea_requireMultiple_8 ?_
  refine lv_dcmp hx hb d_Ea_requireMultiple_9 ?_
  refine lv_if_eq (tgt := 23) hx hb d_Ea_requireMultiple_10 (by decide) (fun c1 => ?_) (fun c1 => ?_)
  · refine vx_ret ?_
    refine W.widen (k := 1) (n := 6) (Nat.le_of_ble_eq_true rfl) (Nat.le_of_ble_eq_true rfl) ?_
    exact W.vret hx hb hr (fun t ht hW => ⟨⟨w, rfl, ⟨rfl, cv_l_eq.mp c1⟩, eWo ht hI⟩, hS.F ht⟩) hS.2.2 d_Ea_requireMultiple_23
  · exact xt_throw (names := rte) (text := "a number that is no such part of a whole") k_304 k_71 (by decide +kernel) xf_iae x1_iae x2_iae x3_iae rfl hx hb hlt hown hg hE hI hS (hl.1.trans hml.symm) d_Ea_requireMultiple_13 d_Ea_requireMultiple_16 d_Ea_requireMultiple_17 d_Ea_requireMultiple_19 d_Ea_requireMultiple_22 hnx hlocks (⟨rfl, rfl, fun h => c1 (cv_l_eq.mpr h)⟩) (Nat.le_of_ble_eq_true rfl) (Nat.le_of_ble_eq_true rfl) (Nat.le_of_ble_eq_true rfl) (Nat.le_of_ble_eq_true rfl) (Nat.le_of_ble_eq_true rfl) (Nat.le_of_ble_eq_true rfl)

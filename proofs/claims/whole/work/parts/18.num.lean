/-! finite doubles: no NaN comes of them -/
theorem fx_nadd {x y : UInt64} (hx : FP.Core.DFin x) (hy : FP.Core.DFin y) : vf_n64 (FP.dadd x y) := by
  obtain ⟨s, c, q, ex⟩ := hx
  obtain ⟨t, d, r, ey⟩ := hy
  refine fx_nnan ?_
  show FP.Core.val64 (FP.Core.dadd x y) ≠ _
  rw [FP.Core.val64_dadd, ex, ey]
  exact FP.Core.roundRatio_ne_nan _ _ _ _ _
theorem fx_nsub {x y : UInt64} (hx : FP.Core.DFin x) (hy : FP.Core.DFin y) : vf_n64 (FP.dsub x y) := by
  obtain ⟨s, c, q, ex⟩ := hx
  obtain ⟨t, d, r, ey⟩ := hy
  refine fx_nnan ?_
  show FP.Core.val64 (FP.Core.dsub x y) ≠ _
  rw [FP.Core.val64_dsub, ex, ey]
  exact FP.Core.roundRatio_ne_nan _ _ _ _ _
theorem fx_nmul {x y : UInt64} (hx : FP.Core.DFin x) (hy : FP.Core.DFin y) : vf_n64 (FP.dmul x y) := by
  obtain ⟨s, c, q, ex⟩ := hx
  obtain ⟨t, d, r, ey⟩ := hy
  refine fx_nnan ?_
  show FP.Core.val64 (FP.Core.dmul x y) ≠ _
  rw [FP.Core.val64_dmul, ex, ey]
  exact FP.Core.roundRatio_ne_nan _ _ _ _ _
theorem fx_ndiv {j k : Nat} {m n : Int} {x y : UInt64} (hx : fx k m x) (hy : fx j n y) (hn : n ≠ 0) : vf_n64 (FP.ddiv x y) := by
  obtain ⟨s, t, c, d, q, r, hv, -⟩ := fx_quo hx hy hn
  refine fx_nnan ?_
  rw [hv]
  exact FP.Core.roundRatio_ne_nan _ _ _ _ _
theorem fx_fin_c1 : FP.Core.DFin FP.dconst1 := fx_c1.1
/-! Easel's numbers: floorOf, rounded, powerOfTwo -/
set_option maxHeartbeats 4000000 in
set_option maxRecDepth 100000 in
theorem m_Ea_floorOf (l : Launch) (G : EG) (S0 : Nat) (w : hp_M) (z : UInt64) : Met l y_Ea_floorOf w_Ea_floorOf (rl 0 0 0) (eP G S0 w [.double z]) (va_Qd (fun r u => r = fx_fl z ∧ u = w) (eW G S0) (hp_A S0)) 0 0 (hp_A S0) := by
  refine Met.ofW (cc := b_Ea_floorOf) (maxL := 4) (ret := (some .double)) (by decide) rfl ?_
  intro p e s m args below meth c s₁ B hml hv
  obtain ⟨rfl, hE, hI, hz⟩ := hv
  have hx := B.exec
  have hb := B.bytes
  have hr := B.returns
  have hts := atoms_spec (ws := w_Ea_floorOf) B.pre
  have hg : ∀ w ∈ gw, w.before _ s = true := fun w h => hts w (List.mem_cons_of_mem _ h)
  have hown : s.vm.findClass "SceneEasel" = some m.cls := findClass_of_methodNamed B.named
  have hlocks := B.notSynchronized
  have hK := hE.K
  have hS : va_S (hp_A S0) s.heap s.heap [] := va_S.rf
  have hl := lv_entry ([.double z]) (n := 4) (Nat.le_of_ble_eq_true rfl)
  rw [lg_entry_eq]
  generalize (lg_sl ([.double z]) ++ List.replicate (4 - (lg_sl ([.double z])).length) Slot.unset).toArray = ls at hl ⊢
  have hl : lv_has ls 4 [(0, .double z)] := hl
  refine lv_dload_n hx hb d_Ea_floorOf_0 rfl (lv_at hl 0 rfl) ?_
  refine lv_d2l hx hb d_Ea_floorOf_1 ?_
  refine lv_l2d hx hb d_Ea_floorOf_2 ?_
  refine lv_dstore_n (lv' := [(2, .double (FP.l2d (FP.d2l z))), (0, .double z)]) hx hb d_Ea_floorOf_3 rfl hl (by decide) rfl (fun ls hl => ?_)
  refine lv_dload_n hx hb d_Ea_floorOf_4 rfl (lv_at hl 0 rfl) ?_
  refine lv_dload_n hx hb d_Ea_floorOf_5 rfl (lv_at hl 1 rfl) ?_
  refine lv_dcmp hx hb d_Ea_floorOf_6 ?_
  refine lv_if_le (tgt := 16) hx hb d_Ea_floorOf_7 (by decide) (fun c1 => ?_) (fun c1 => ?_)
  · refine lv_dload_n hx hb d_Ea_floorOf_16 rfl (lv_at hl 0 rfl) ?_
    exact W.dret (v := (FP.l2d (FP.d2l z))) hx hb hr (fun t ht hW => ⟨⟨(FP.l2d (FP.d2l z)), w, rfl, ⟨by unfold fx_fl; rw [if_neg (cv_l_le.mp c1)], rfl⟩, eWo ht hI⟩, hS.F ht⟩) hS.2.2 d_Ea_floorOf_17
  · refine lv_dload_n hx hb d_Ea_floorOf_10 rfl (lv_at hl 0 rfl) ?_
    refine lv_dconst1 hx hb d_Ea_floorOf_11 ?_
    refine lv_dsub hx hb d_Ea_floorOf_12 (fx_nsub (FP.Core.l2d_fin _) fx_fin_c1) ?_
    refine lv_goto (tgt := 17) hx hb d_Ea_floorOf_13 (by decide) ?_
    exact W.dret (v := (FP.dsub (FP.l2d (FP.d2l z)) FP.dconst1)) hx hb hr (fun t ht hW => ⟨⟨(FP.dsub (FP.l2d (FP.d2l z)) FP.dconst1), w, rfl, ⟨by unfold fx_fl; rw [if_pos (Classical.not_not.mp (fun h => c1 (cv_l_le.mpr h)))], rfl⟩, eWo ht hI⟩, hS.F ht⟩) hS.2.2 d_Ea_floorOf_17
/-- rounded down to 64ths -/
def fx_64 : UInt64 := 4634204016564240384
def fx_rd (y : UInt64) : UInt64 := FP.ddiv (fx_fl (FP.dmul y fx_64)) fx_64
set_option maxHeartbeats 4000000 in
set_option maxRecDepth 100000 in
theorem m_Ea_rounded (l : Launch) (G : EG) (S0 : Nat) (w : hp_M) (y : UInt64) (h1 : vf_n64 (FP.dmul y fx_64)) (h2 : vf_n64 (FP.ddiv (fx_fl (FP.dmul y fx_64)) fx_64)) : Met l y_Ea_rounded w_Ea_rounded (rl 1 0 0) (eP G S0 w [.double y]) (va_Qd (fun r u => r = fx_rd y ∧ u = w) (eW G S0) (hp_A S0)) 0 0 (hp_A S0) := by
  refine Met.ofW (cc := b_Ea_rounded) (maxL := 2) (ret := (some .double)) (by decide) rfl ?_
  intro p e s m args below meth c s₁ B hml hv
  obtain ⟨rfl, hE, hI, hz⟩ := hv
  have hx := B.exec
  have hb := B.bytes
  have hr := B.returns
  have hts := atoms_spec (ws := w_Ea_rounded) B.pre
  have hg : ∀ w ∈ gw, w.before _ s = true := fun w h => hts w (List.mem_cons_of_mem _ h)
  have hown : s.vm.findClass "SceneEasel" = some m.cls := findClass_of_methodNamed B.named
  have hlocks := B.notSynchronized
  have hK := hE.K
  have hS : va_S (hp_A S0) s.heap s.heap [] := va_S.rf
  have hl := lv_entry ([.double y]) (n := 2) (Nat.le_of_ble_eq_true rfl)
  rw [lg_entry_eq]
  generalize (lg_sl ([.double y]) ++ List.replicate (2 - (lg_sl ([.double y])).length) Slot.unset).toArray = ls at hl ⊢
  have hl : lv_has ls 2 [(0, .double y)] := hl
  refine lv_dload_n hx hb d_Ea_rounded_0 rfl (lv_at hl 0 rfl) ?_
  refine lv_ldc2d (v := 4634204016564240384) hx hb hown (hg _ k_648) d_Ea_rounded_1 ?_
  refine lv_dmul hx hb d_Ea_rounded_4 h1 ?_
  refine ec_d (va_runS (As := [.double (FP.dmul y 4634204016564240384)]) (rest := []) ⟨hx, hb, hml, hown, hts⟩ (m_Ea_floorOf l G S0 w (FP.dmul y 4634204016564240384)) (cwS 1 hts (gw_S k_649 k_650 k_60 k_651) rfl rfl rfl (by decide +kernel) ⟨Nat.le_of_ble_eq_true rfl, Nat.le_of_ble_eq_true rfl⟩) (eB.preS hE hI hS hz) rfl rfl hl.1 rfl (lv_room (Nat.le_of_ble_eq_true rfl)) d_Ea_rounded_5 ⟨Nat.le_of_ble_eq_true rfl, Nat.le_of_ble_eq_true rfl⟩) hS (fun r_2 w_1 H locs ew_1 hI hsz hS => ?_)
  obtain ⟨er_2, ew_1⟩ := ew_1
  have ew_1 := ew_1.symm
  subst ew_1
  refine lv_ldc2d (v := 4634204016564240384) hx hb hown (hg _ k_648) d_Ea_rounded_8 ?_
  refine lv_ddiv hx hb d_Ea_rounded_11 (by rw [er_2]; exact h2) ?_
  exact W.dret (v := (FP.ddiv r_2 4634204016564240384)) hx hb hr (fun t ht hW => ⟨⟨(FP.ddiv r_2 4634204016564240384), w, rfl, ⟨by rw [er_2]; rfl, rfl⟩, eWo ht hI⟩, hS.F ht⟩) hS.2.2 d_Ea_rounded_12
/-- 2 to the power of a stretch -/
def pw2 (k : Int32) : UInt64 := if k = -2 then 4598175219545276416 else if k = -1 then 4602678819172646912 else if k = 0 then 4607182418800017408 else if k = 1 then 4611686018427387904 else 4616189618054758400
set_option maxHeartbeats 4000000 in
set_option maxRecDepth 100000 in
theorem m_Ea_powerOfTwo (l : Launch) (G : EG) (S0 : Nat) (w : hp_M) (k : Int32) (hk : k = -2 ∨ k = -1 ∨ k = 0 ∨ k = 1 ∨ k = 2) : Met l y_Ea_powerOfTwo w_Ea_powerOfTwo (rl 0 0 0) (eP G S0 w [.int k]) (va_Qd (fun r u => r = pw2 k ∧ u = w) (eW G S0) (hp_A S0)) 0 0 (hp_A S0) := by
  rcases hk with rfl | rfl | rfl | rfl | rfl
  · refine Met.ofW (cc := b_Ea_powerOfTwo) (maxL := 4) (ret := (some .double)) (by decide) rfl ?_
    intro p e s m args below meth c s₁ B hml hv
    obtain ⟨rfl, hE, hI, hz⟩ := hv
    have hx := B.exec
    have hb := B.bytes
    have hr := B.returns
    have hts := atoms_spec (ws := w_Ea_powerOfTwo) B.pre
    have hg : ∀ w ∈ gw, w.before _ s = true := fun w h => hts w (List.mem_cons_of_mem _ h)
    have hown : s.vm.findClass "SceneEasel" = some m.cls := findClass_of_methodNamed B.named
    have hlocks := B.notSynchronized
    have hK := hE.K
    have hS : va_S (hp_A S0) s.heap s.heap [] := va_S.rf
    have hl := lv_entry ([.int (-2)]) (n := 4) (Nat.le_of_ble_eq_true rfl)
    rw [lg_entry_eq]
    generalize (lg_sl ([.int (-2)]) ++ List.replicate (4 - (lg_sl ([.int (-2)])).length) Slot.unset).toArray = ls at hl ⊢
    have hl : lv_has ls 4 [(0, .int (-2))] := hl
    refine lv_dconst1 hx hb d_Ea_powerOfTwo_0 ?_
    refine lv_dstore_n (lv' := [(1, .double FP.dconst1), (0, .int (-2))]) hx hb d_Ea_powerOfTwo_1 rfl hl (by decide) rfl (fun ls hl => ?_)
    refine lv_iconst (v := 0) hx hb d_Ea_powerOfTwo_2 (by decide) ?_
    refine lv_istore_n (lv' := [(3, .int 0), (1, .double FP.dconst1), (0, .int (-2))]) hx hb d_Ea_powerOfTwo_3 rfl hl (by decide) rfl (fun ls hl => ?_)
    refine lv_iload_n hx hb d_Ea_powerOfTwo_4 rfl (lv_at hl 0 rfl) ?_
    refine lv_iload_n hx hb d_Ea_powerOfTwo_5 rfl (lv_at hl 2 rfl) ?_
    refine lv_icmp_ge (tgt := 21) hx hb d_Ea_powerOfTwo_6 (by decide) (fun c9 => ?_) (fun c9 => absurd (by decide) c9)
    refine lv_iconst (v := 0) hx hb d_Ea_powerOfTwo_21 (by decide) ?_
    refine lv_istore_n (lv' := [(3, .int 0), (1, .double FP.dconst1), (0, .int (-2))]) hx hb d_Ea_powerOfTwo_22 rfl hl (by decide) rfl (fun ls hl => ?_)
    refine lv_iload_n hx hb d_Ea_powerOfTwo_23 rfl (lv_at hl 0 rfl) ?_
    refine lv_iload_n hx hb d_Ea_powerOfTwo_24 rfl (lv_at hl 2 rfl) ?_
    refine lv_icmp_le (tgt := 40) hx hb d_Ea_powerOfTwo_25 (by decide) (fun c9 => absurd c9 (by decide)) (fun c9 => ?_)
    refine lv_dload_n hx hb d_Ea_powerOfTwo_28 rfl (lv_at hl 1 rfl) ?_
    refine lv_ldc2d (v := 4602678819172646912) hx hb hown (hg _ k_656) d_Ea_powerOfTwo_29 ?_
    refine lv_dmul hx hb d_Ea_powerOfTwo_32 (by unfold vf_n64; decide +kernel) ?_
    refine lv_dstore_n (lv' := [(1, .double (FP.dmul FP.dconst1 4602678819172646912)), (3, .int 0), (0, .int (-2))]) hx hb d_Ea_powerOfTwo_33 rfl hl (by decide) rfl (fun ls hl => ?_)
    refine lv_iinc (v := -1) (lv' := [(3, .int (-1)), (1, .double (FP.dmul FP.dconst1 4602678819172646912)), (0, .int (-2))]) hx hb d_Ea_powerOfTwo_34 hl (k := 1) rfl rfl (by decide) rfl (fun ls hl => ?_)
    refine lv_goto (tgt := 23) hx hb d_Ea_powerOfTwo_37 (by decide) ?_
    refine lv_iload_n hx hb d_Ea_powerOfTwo_23 rfl (lv_at hl 0 rfl) ?_
    refine lv_iload_n hx hb d_Ea_powerOfTwo_24 rfl (lv_at hl 2 rfl) ?_
    refine lv_icmp_le (tgt := 40) hx hb d_Ea_powerOfTwo_25 (by decide) (fun c9 => absurd c9 (by decide)) (fun c9 => ?_)
    refine lv_dload_n hx hb d_Ea_powerOfTwo_28 rfl (lv_at hl 1 rfl) ?_
    refine lv_ldc2d (v := 4602678819172646912) hx hb hown (hg _ k_656) d_Ea_powerOfTwo_29 ?_
    refine lv_dmul hx hb d_Ea_powerOfTwo_32 (by unfold vf_n64; decide +kernel) ?_
    refine lv_dstore_n (lv' := [(1, .double (FP.dmul (FP.dmul FP.dconst1 4602678819172646912) 4602678819172646912)), (3, .int (-1)), (0, .int (-2))]) hx hb d_Ea_powerOfTwo_33 rfl hl (by decide) rfl (fun ls hl => ?_)
    refine lv_iinc (v := -2) (lv' := [(3, .int (-2)), (1, .double (FP.dmul (FP.dmul FP.dconst1 4602678819172646912) 4602678819172646912)), (0, .int (-2))]) hx hb d_Ea_powerOfTwo_34 hl (k := 1) rfl rfl (by decide) rfl (fun ls hl => ?_)
    refine lv_goto (tgt := 23) hx hb d_Ea_powerOfTwo_37 (by decide) ?_
    refine lv_iload_n hx hb d_Ea_powerOfTwo_23 rfl (lv_at hl 0 rfl) ?_
    refine lv_iload_n hx hb d_Ea_powerOfTwo_24 rfl (lv_at hl 2 rfl) ?_
    refine lv_icmp_le (tgt := 40) hx hb d_Ea_powerOfTwo_25 (by decide) (fun c9 => ?_) (fun c9 => absurd (by decide) c9)
    refine lv_dload_n hx hb d_Ea_powerOfTwo_40 rfl (lv_at hl 1 rfl) ?_
    exact W.dret (v := (FP.dmul (FP.dmul FP.dconst1 4602678819172646912) 4602678819172646912)) hx hb hr (fun t ht hW => ⟨⟨(FP.dmul (FP.dmul FP.dconst1 4602678819172646912) 4602678819172646912), w, rfl, ⟨by decide +kernel, rfl⟩, eWo ht hI⟩, hS.F ht⟩) hS.2.2 d_Ea_powerOfTwo_41
  · refine Met.ofW (cc := b_Ea_powerOfTwo) (maxL := 4) (ret := (some .double)) (by decide) rfl ?_
    intro p e s m args below meth c s₁ B hml hv
    obtain ⟨rfl, hE, hI, hz⟩ := hv
    have hx := B.exec
    have hb := B.bytes
    have hr := B.returns
    have hts := atoms_spec (ws := w_Ea_powerOfTwo) B.pre
    have hg : ∀ w ∈ gw, w.before _ s = true := fun w h => hts w (List.mem_cons_of_mem _ h)
    have hown : s.vm.findClass "SceneEasel" = some m.cls := findClass_of_methodNamed B.named
    have hlocks := B.notSynchronized
    have hK := hE.K
    have hS : va_S (hp_A S0) s.heap s.heap [] := va_S.rf
    have hl := lv_entry ([.int (-1)]) (n := 4) (Nat.le_of_ble_eq_true rfl)
    rw [lg_entry_eq]
    generalize (lg_sl ([.int (-1)]) ++ List.replicate (4 - (lg_sl ([.int (-1)])).length) Slot.unset).toArray = ls at hl ⊢
    have hl : lv_has ls 4 [(0, .int (-1))] := hl
    refine lv_dconst1 hx hb d_Ea_powerOfTwo_0 ?_
    refine lv_dstore_n (lv' := [(1, .double FP.dconst1), (0, .int (-1))]) hx hb d_Ea_powerOfTwo_1 rfl hl (by decide) rfl (fun ls hl => ?_)
    refine lv_iconst (v := 0) hx hb d_Ea_powerOfTwo_2 (by decide) ?_
    refine lv_istore_n (lv' := [(3, .int 0), (1, .double FP.dconst1), (0, .int (-1))]) hx hb d_Ea_powerOfTwo_3 rfl hl (by decide) rfl (fun ls hl => ?_)
    refine lv_iload_n hx hb d_Ea_powerOfTwo_4 rfl (lv_at hl 0 rfl) ?_
    refine lv_iload_n hx hb d_Ea_powerOfTwo_5 rfl (lv_at hl 2 rfl) ?_
    refine lv_icmp_ge (tgt := 21) hx hb d_Ea_powerOfTwo_6 (by decide) (fun c9 => ?_) (fun c9 => absurd (by decide) c9)
    refine lv_iconst (v := 0) hx hb d_Ea_powerOfTwo_21 (by decide) ?_
    refine lv_istore_n (lv' := [(3, .int 0), (1, .double FP.dconst1), (0, .int (-1))]) hx hb d_Ea_powerOfTwo_22 rfl hl (by decide) rfl (fun ls hl => ?_)
    refine lv_iload_n hx hb d_Ea_powerOfTwo_23 rfl (lv_at hl 0 rfl) ?_
    refine lv_iload_n hx hb d_Ea_powerOfTwo_24 rfl (lv_at hl 2 rfl) ?_
    refine lv_icmp_le (tgt := 40) hx hb d_Ea_powerOfTwo_25 (by decide) (fun c9 => absurd c9 (by decide)) (fun c9 => ?_)
    refine lv_dload_n hx hb d_Ea_powerOfTwo_28 rfl (lv_at hl 1 rfl) ?_
    refine lv_ldc2d (v := 4602678819172646912) hx hb hown (hg _ k_656) d_Ea_powerOfTwo_29 ?_
    refine lv_dmul hx hb d_Ea_powerOfTwo_32 (by unfold vf_n64; decide +kernel) ?_
    refine lv_dstore_n (lv' := [(1, .double (FP.dmul FP.dconst1 4602678819172646912)), (3, .int 0), (0, .int (-1))]) hx hb d_Ea_powerOfTwo_33 rfl hl (by decide) rfl (fun ls hl => ?_)
    refine lv_iinc (v := -1) (lv' := [(3, .int (-1)), (1, .double (FP.dmul FP.dconst1 4602678819172646912)), (0, .int (-1))]) hx hb d_Ea_powerOfTwo_34 hl (k := 1) rfl rfl (by decide) rfl (fun ls hl => ?_)
    refine lv_goto (tgt := 23) hx hb d_Ea_powerOfTwo_37 (by decide) ?_
    refine lv_iload_n hx hb d_Ea_powerOfTwo_23 rfl (lv_at hl 0 rfl) ?_
    refine lv_iload_n hx hb d_Ea_powerOfTwo_24 rfl (lv_at hl 2 rfl) ?_
    refine lv_icmp_le (tgt := 40) hx hb d_Ea_powerOfTwo_25 (by decide) (fun c9 => ?_) (fun c9 => absurd (by decide) c9)
    refine lv_dload_n hx hb d_Ea_powerOfTwo_40 rfl (lv_at hl 1 rfl) ?_
    exact W.dret (v := (FP.dmul FP.dconst1 4602678819172646912)) hx hb hr (fun t ht hW => ⟨⟨(FP.dmul FP.dconst1 4602678819172646912), w, rfl, ⟨by decide +kernel, rfl⟩, eWo ht hI⟩, hS.F ht⟩) hS.2.2 d_Ea_powerOfTwo_41
  · refine Met.ofW (cc := b_Ea_powerOfTwo) (maxL := 4) (ret := (some .double)) (by decide) rfl ?_
    intro p e s m args below meth c s₁ B hml hv
    obtain ⟨rfl, hE, hI, hz⟩ := hv
    have hx := B.exec
    have hb := B.bytes
    have hr := B.returns
    have hts := atoms_spec (ws := w_Ea_powerOfTwo) B.pre
    have hg : ∀ w ∈ gw, w.before _ s = true := fun w h => hts w (List.mem_cons_of_mem _ h)
    have hown : s.vm.findClass "SceneEasel" = some m.cls := findClass_of_methodNamed B.named
    have hlocks := B.notSynchronized
    have hK := hE.K
    have hS : va_S (hp_A S0) s.heap s.heap [] := va_S.rf
    have hl := lv_entry ([.int 0]) (n := 4) (Nat.le_of_ble_eq_true rfl)
    rw [lg_entry_eq]
    generalize (lg_sl ([.int 0]) ++ List.replicate (4 - (lg_sl ([.int 0])).length) Slot.unset).toArray = ls at hl ⊢
    have hl : lv_has ls 4 [(0, .int 0)] := hl
    refine lv_dconst1 hx hb d_Ea_powerOfTwo_0 ?_
    refine lv_dstore_n (lv' := [(1, .double FP.dconst1), (0, .int 0)]) hx hb d_Ea_powerOfTwo_1 rfl hl (by decide) rfl (fun ls hl => ?_)
    refine lv_iconst (v := 0) hx hb d_Ea_powerOfTwo_2 (by decide) ?_
    refine lv_istore_n (lv' := [(3, .int 0), (1, .double FP.dconst1), (0, .int 0)]) hx hb d_Ea_powerOfTwo_3 rfl hl (by decide) rfl (fun ls hl => ?_)
    refine lv_iload_n hx hb d_Ea_powerOfTwo_4 rfl (lv_at hl 0 rfl) ?_
    refine lv_iload_n hx hb d_Ea_powerOfTwo_5 rfl (lv_at hl 2 rfl) ?_
    refine lv_icmp_ge (tgt := 21) hx hb d_Ea_powerOfTwo_6 (by decide) (fun c9 => ?_) (fun c9 => absurd (by decide) c9)
    refine lv_iconst (v := 0) hx hb d_Ea_powerOfTwo_21 (by decide) ?_
    refine lv_istore_n (lv' := [(3, .int 0), (1, .double FP.dconst1), (0, .int 0)]) hx hb d_Ea_powerOfTwo_22 rfl hl (by decide) rfl (fun ls hl => ?_)
    refine lv_iload_n hx hb d_Ea_powerOfTwo_23 rfl (lv_at hl 0 rfl) ?_
    refine lv_iload_n hx hb d_Ea_powerOfTwo_24 rfl (lv_at hl 2 rfl) ?_
    refine lv_icmp_le (tgt := 40) hx hb d_Ea_powerOfTwo_25 (by decide) (fun c9 => ?_) (fun c9 => absurd (by decide) c9)
    refine lv_dload_n hx hb d_Ea_powerOfTwo_40 rfl (lv_at hl 1 rfl) ?_
    exact W.dret (v := FP.dconst1) hx hb hr (fun t ht hW => ⟨⟨FP.dconst1, w, rfl, ⟨by decide +kernel, rfl⟩, eWo ht hI⟩, hS.F ht⟩) hS.2.2 d_Ea_powerOfTwo_41
  · refine Met.ofW (cc := b_Ea_powerOfTwo) (maxL := 4) (ret := (some .double)) (by decide) rfl ?_
    intro p e s m args below meth c s₁ B hml hv
    obtain ⟨rfl, hE, hI, hz⟩ := hv
    have hx := B.exec
    have hb := B.bytes
    have hr := B.returns
    have hts := atoms_spec (ws := w_Ea_powerOfTwo) B.pre
    have hg : ∀ w ∈ gw, w.before _ s = true := fun w h => hts w (List.mem_cons_of_mem _ h)
    have hown : s.vm.findClass "SceneEasel" = some m.cls := findClass_of_methodNamed B.named
    have hlocks := B.notSynchronized
    have hK := hE.K
    have hS : va_S (hp_A S0) s.heap s.heap [] := va_S.rf
    have hl := lv_entry ([.int 1]) (n := 4) (Nat.le_of_ble_eq_true rfl)
    rw [lg_entry_eq]
    generalize (lg_sl ([.int 1]) ++ List.replicate (4 - (lg_sl ([.int 1])).length) Slot.unset).toArray = ls at hl ⊢
    have hl : lv_has ls 4 [(0, .int 1)] := hl
    refine lv_dconst1 hx hb d_Ea_powerOfTwo_0 ?_
    refine lv_dstore_n (lv' := [(1, .double FP.dconst1), (0, .int 1)]) hx hb d_Ea_powerOfTwo_1 rfl hl (by decide) rfl (fun ls hl => ?_)
    refine lv_iconst (v := 0) hx hb d_Ea_powerOfTwo_2 (by decide) ?_
    refine lv_istore_n (lv' := [(3, .int 0), (1, .double FP.dconst1), (0, .int 1)]) hx hb d_Ea_powerOfTwo_3 rfl hl (by decide) rfl (fun ls hl => ?_)
    refine lv_iload_n hx hb d_Ea_powerOfTwo_4 rfl (lv_at hl 0 rfl) ?_
    refine lv_iload_n hx hb d_Ea_powerOfTwo_5 rfl (lv_at hl 2 rfl) ?_
    refine lv_icmp_ge (tgt := 21) hx hb d_Ea_powerOfTwo_6 (by decide) (fun c9 => absurd c9 (by decide)) (fun c9 => ?_)
    refine lv_dload_n hx hb d_Ea_powerOfTwo_9 rfl (lv_at hl 1 rfl) ?_
    refine lv_ldc2d (v := 4611686018427387904) hx hb hown (hg _ k_533) d_Ea_powerOfTwo_10 ?_
    refine lv_dmul hx hb d_Ea_powerOfTwo_13 (by unfold vf_n64; decide +kernel) ?_
    refine lv_dstore_n (lv' := [(1, .double (FP.dmul FP.dconst1 4611686018427387904)), (3, .int 0), (0, .int 1)]) hx hb d_Ea_powerOfTwo_14 rfl hl (by decide) rfl (fun ls hl => ?_)
    refine lv_iinc (v := 1) (lv' := [(3, .int (1)), (1, .double (FP.dmul FP.dconst1 4611686018427387904)), (0, .int 1)]) hx hb d_Ea_powerOfTwo_15 hl (k := 1) rfl rfl (by decide) rfl (fun ls hl => ?_)
    refine lv_goto (tgt := 4) hx hb d_Ea_powerOfTwo_18 (by decide) ?_
    refine lv_iload_n hx hb d_Ea_powerOfTwo_4 rfl (lv_at hl 0 rfl) ?_
    refine lv_iload_n hx hb d_Ea_powerOfTwo_5 rfl (lv_at hl 2 rfl) ?_
    refine lv_icmp_ge (tgt := 21) hx hb d_Ea_powerOfTwo_6 (by decide) (fun c9 => ?_) (fun c9 => absurd (by decide) c9)
    refine lv_iconst (v := 0) hx hb d_Ea_powerOfTwo_21 (by decide) ?_
    refine lv_istore_n (lv' := [(3, .int 0), (1, .double (FP.dmul FP.dconst1 4611686018427387904)), (0, .int 1)]) hx hb d_Ea_powerOfTwo_22 rfl hl (by decide) rfl (fun ls hl => ?_)
    refine lv_iload_n hx hb d_Ea_powerOfTwo_23 rfl (lv_at hl 0 rfl) ?_
    refine lv_iload_n hx hb d_Ea_powerOfTwo_24 rfl (lv_at hl 2 rfl) ?_
    refine lv_icmp_le (tgt := 40) hx hb d_Ea_powerOfTwo_25 (by decide) (fun c9 => ?_) (fun c9 => absurd (by decide) c9)
    refine lv_dload_n hx hb d_Ea_powerOfTwo_40 rfl (lv_at hl 1 rfl) ?_
    exact W.dret (v := (FP.dmul FP.dconst1 4611686018427387904)) hx hb hr (fun t ht hW => ⟨⟨(FP.dmul FP.dconst1 4611686018427387904), w, rfl, ⟨by decide +kernel, rfl⟩, eWo ht hI⟩, hS.F ht⟩) hS.2.2 d_Ea_powerOfTwo_41
  · refine Met.ofW (cc := b_Ea_powerOfTwo) (maxL := 4) (ret := (some .double)) (by decide) rfl ?_
    intro p e s m args below meth c s₁ B hml hv
    obtain ⟨rfl, hE, hI, hz⟩ := hv
    have hx := B.exec
    have hb := B.bytes
    have hr := B.returns
    have hts := atoms_spec (ws := w_Ea_powerOfTwo) B.pre
    have hg : ∀ w ∈ gw, w.before _ s = true := fun w h => hts w (List.mem_cons_of_mem _ h)
    have hown : s.vm.findClass "SceneEasel" = some m.cls := findClass_of_methodNamed B.named
    have hlocks := B.notSynchronized
    have hK := hE.K
    have hS : va_S (hp_A S0) s.heap s.heap [] := va_S.rf
    have hl := lv_entry ([.int 2]) (n := 4) (Nat.le_of_ble_eq_true rfl)
    rw [lg_entry_eq]
    generalize (lg_sl ([.int 2]) ++ List.replicate (4 - (lg_sl ([.int 2])).length) Slot.unset).toArray = ls at hl ⊢
    have hl : lv_has ls 4 [(0, .int 2)] := hl
    refine lv_dconst1 hx hb d_Ea_powerOfTwo_0 ?_
    refine lv_dstore_n (lv' := [(1, .double FP.dconst1), (0, .int 2)]) hx hb d_Ea_powerOfTwo_1 rfl hl (by decide) rfl (fun ls hl => ?_)
    refine lv_iconst (v := 0) hx hb d_Ea_powerOfTwo_2 (by decide) ?_
    refine lv_istore_n (lv' := [(3, .int 0), (1, .double FP.dconst1), (0, .int 2)]) hx hb d_Ea_powerOfTwo_3 rfl hl (by decide) rfl (fun ls hl => ?_)
    refine lv_iload_n hx hb d_Ea_powerOfTwo_4 rfl (lv_at hl 0 rfl) ?_
    refine lv_iload_n hx hb d_Ea_powerOfTwo_5 rfl (lv_at hl 2 rfl) ?_
    refine lv_icmp_ge (tgt := 21) hx hb d_Ea_powerOfTwo_6 (by decide) (fun c9 => absurd c9 (by decide)) (fun c9 => ?_)
    refine lv_dload_n hx hb d_Ea_powerOfTwo_9 rfl (lv_at hl 1 rfl) ?_
    refine lv_ldc2d (v := 4611686018427387904) hx hb hown (hg _ k_533) d_Ea_powerOfTwo_10 ?_
    refine lv_dmul hx hb d_Ea_powerOfTwo_13 (by unfold vf_n64; decide +kernel) ?_
    refine lv_dstore_n (lv' := [(1, .double (FP.dmul FP.dconst1 4611686018427387904)), (3, .int 0), (0, .int 2)]) hx hb d_Ea_powerOfTwo_14 rfl hl (by decide) rfl (fun ls hl => ?_)
    refine lv_iinc (v := 1) (lv' := [(3, .int (1)), (1, .double (FP.dmul FP.dconst1 4611686018427387904)), (0, .int 2)]) hx hb d_Ea_powerOfTwo_15 hl (k := 1) rfl rfl (by decide) rfl (fun ls hl => ?_)
    refine lv_goto (tgt := 4) hx hb d_Ea_powerOfTwo_18 (by decide) ?_
    refine lv_iload_n hx hb d_Ea_powerOfTwo_4 rfl (lv_at hl 0 rfl) ?_
    refine lv_iload_n hx hb d_Ea_powerOfTwo_5 rfl (lv_at hl 2 rfl) ?_
    refine lv_icmp_ge (tgt := 21) hx hb d_Ea_powerOfTwo_6 (by decide) (fun c9 => absurd c9 (by decide)) (fun c9 => ?_)
    refine lv_dload_n hx hb d_Ea_powerOfTwo_9 rfl (lv_at hl 1 rfl) ?_
    refine lv_ldc2d (v := 4611686018427387904) hx hb hown (hg _ k_533) d_Ea_powerOfTwo_10 ?_
    refine lv_dmul hx hb d_Ea_powerOfTwo_13 (by unfold vf_n64; decide +kernel) ?_
    refine lv_dstore_n (lv' := [(1, .double (FP.dmul (FP.dmul FP.dconst1 4611686018427387904) 4611686018427387904)), (3, .int (1)), (0, .int 2)]) hx hb d_Ea_powerOfTwo_14 rfl hl (by decide) rfl (fun ls hl => ?_)
    refine lv_iinc (v := 2) (lv' := [(3, .int (2)), (1, .double (FP.dmul (FP.dmul FP.dconst1 4611686018427387904) 4611686018427387904)), (0, .int 2)]) hx hb d_Ea_powerOfTwo_15 hl (k := 1) rfl rfl (by decide) rfl (fun ls hl => ?_)
    refine lv_goto (tgt := 4) hx hb d_Ea_powerOfTwo_18 (by decide) ?_
    refine lv_iload_n hx hb d_Ea_powerOfTwo_4 rfl (lv_at hl 0 rfl) ?_
    refine lv_iload_n hx hb d_Ea_powerOfTwo_5 rfl (lv_at hl 2 rfl) ?_
    refine lv_icmp_ge (tgt := 21) hx hb d_Ea_powerOfTwo_6 (by decide) (fun c9 => ?_) (fun c9 => absurd (by decide) c9)
    refine lv_iconst (v := 0) hx hb d_Ea_powerOfTwo_21 (by decide) ?_
    refine lv_istore_n (lv' := [(3, .int 0), (1, .double (FP.dmul (FP.dmul FP.dconst1 4611686018427387904) 4611686018427387904)), (0, .int 2)]) hx hb d_Ea_powerOfTwo_22 rfl hl (by decide) rfl (fun ls hl => ?_)
    refine lv_iload_n hx hb d_Ea_powerOfTwo_23 rfl (lv_at hl 0 rfl) ?_
    refine lv_iload_n hx hb d_Ea_powerOfTwo_24 rfl (lv_at hl 2 rfl) ?_
    refine lv_icmp_le (tgt := 40) hx hb d_Ea_powerOfTwo_25 (by decide) (fun c9 => ?_) (fun c9 => absurd (by decide) c9)
    refine lv_dload_n hx hb d_Ea_powerOfTwo_40 rfl (lv_at hl 1 rfl) ?_
    exact W.dret (v := (FP.dmul (FP.dmul FP.dconst1 4611686018427387904) 4611686018427387904)) hx hb hr (fun t ht hW => ⟨⟨(FP.dmul (FP.dmul FP.dconst1 4611686018427387904) 4611686018427387904), w, rfl, ⟨by decide +kernel, rfl⟩, eWo ht hI⟩, hS.F ht⟩) hS.2.2 d_Ea_powerOfTwo_41

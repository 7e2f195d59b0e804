set_option maxHeartbeats 4000000 in
set_option maxRecDepth 100000 in
theorem m_Ex_join0 (l : Launch) (G : EG) (S0 : Nat) (w : hp_M) (a b : Nat) {e0 oe : Int32} {la lb ga gb oa ob oc od : UInt64} (ha : w a = some (oEx e0 la lb ga gb)) (hb' : w b = some (oEx oe oa ob oc od)) (h0 : ¬ oe = 0) : Met l y_Ex_join w_Ex_join (rl 1 0 0) (eP G S0 w [.ref a, .ref b]) (va_Qv (fun u => u = w) (eW G S0) (hp_A S0)) 0 0 (hp_A S0) := by
  refine Met.ofW (cc := b_Ex_join) (maxL := 2) (ret := none) (by decide) rfl ?_
  intro p e s m args below meth c s₁ B hml hv
  obtain ⟨rfl, hE, hI, hz⟩ := hv
  have hx := B.exec
  have hb := B.bytes
  have hr := B.returns
  have hts := atoms_spec (ws := w_Ex_join) B.pre
  have hg : ∀ w ∈ gw, w.before _ s = true := fun w h => hts w (List.mem_cons_of_mem _ h)
  have hown : s.vm.findClass "SceneEasel$Extent" = some m.cls := findClass_of_methodNamed B.named
  have hlocks := B.notSynchronized
  have hK := hE.K
  have hS : va_S (hp_A S0) s.heap s.heap [] := va_S.rf
  have hl := lv_entry ([.ref a, .ref b]) (n := 2) (Nat.le_of_ble_eq_true rfl)
  rw [lg_entry_eq]
  generalize (lg_sl ([.ref a, .ref b]) ++ List.replicate (2 - (lg_sl ([.ref a, .ref b])).length) Slot.unset).toArray = ls at hl ⊢
  have hl : lv_has ls 2 [(0, .ref a), (1, .ref b)] := hl
  refine lv_aload_n hx hb d_Ex_join_0 rfl (lv_at hl 1 rfl) ?_
  refine hp_get (ci := 0) (v := .int oe) (C := R_Ex) (T := F_Ex) (N := 5) hx hb hg i_Ex hown hK hI hb' rfl 0 (by decide) (hg _ k_130) (fun _ h9 => h9) rfl d_Ex_join_1 ?_
  refine lv_if_eq (tgt := 8) hx hb d_Ex_join_4 (by decide) (fun c1 => ?_) (fun c1 => ?_)
  · exact absurd c1 h0
  · exact W.vret hx hb hr (fun t ht hW => ⟨⟨w, rfl, rfl, eWo ht hI⟩, hS.F ht⟩) hS.2.2 d_Ex_join_7
set_option maxHeartbeats 4000000 in
set_option maxRecDepth 100000 in
theorem m_Ex_join1 (l : Launch) (G : EG) (S0 : Nat) (w : hp_M) (a b : Nat) {e0 oe : Int32} {la lb ga gb oa ob oc od : UInt64} (ha : w a = some (oEx e0 la lb ga gb)) (hb' : w b = some (oEx oe oa ob oc od)) (h0 : oe = 0) (h1 : ¬ e0 = 0) : Met l y_Ex_join w_Ex_join (rl 1 0 0) (eP G S0 w [.ref a, .ref b]) (va_Qv (fun u => u = hp_set w a (oEx 0 oa ob oc od)) (eW G S0) (hp_A S0)) 0 0 (hp_A S0) := by
  refine Met.ofW (cc := b_Ex_join) (maxL := 2) (ret := none) (by decide) rfl ?_
  intro p e s m args below meth c s₁ B hml hv
  obtain ⟨rfl, hE, hI, hz⟩ := hv
  have hx := B.exec
  have hb := B.bytes
  have hr := B.returns
  have hts := atoms_spec (ws := w_Ex_join) B.pre
  have hg : ∀ w ∈ gw, w.before _ s = true := fun w h => hts w (List.mem_cons_of_mem _ h)
  have hown : s.vm.findClass "SceneEasel$Extent" = some m.cls := findClass_of_methodNamed B.named
  have hlocks := B.notSynchronized
  have hK := hE.K
  have hS : va_S (hp_A S0) s.heap s.heap [] := va_S.rf
  have hl := lv_entry ([.ref a, .ref b]) (n := 2) (Nat.le_of_ble_eq_true rfl)
  rw [lg_entry_eq]
  generalize (lg_sl ([.ref a, .ref b]) ++ List.replicate (2 - (lg_sl ([.ref a, .ref b])).length) Slot.unset).toArray = ls at hl ⊢
  have hl : lv_has ls 2 [(0, .ref a), (1, .ref b)] := hl
  refine lv_aload_n hx hb d_Ex_join_0 rfl (lv_at hl 1 rfl) ?_
  refine hp_get (ci := 0) (v := .int oe) (C := R_Ex) (T := F_Ex) (N := 5) hx hb hg i_Ex hown hK hI hb' rfl 0 (by decide) (hg _ k_130) (fun _ h9 => h9) rfl d_Ex_join_1 ?_
  refine lv_if_eq (tgt := 8) hx hb d_Ex_join_4 (by decide) (fun c1 => ?_) (fun c1 => ?_)
  · refine lv_aload_n hx hb d_Ex_join_8 rfl (lv_at hl 0 rfl) ?_
    refine hp_get (ci := 0) (v := .int e0) (C := R_Ex) (T := F_Ex) (N := 5) hx hb hg i_Ex hown hK hI ha rfl 0 (by decide) (hg _ k_130) (fun _ h9 => h9) rfl d_Ex_join_9 ?_
    refine lv_if_eq (tgt := 36) hx hb d_Ex_join_12 (by decide) (fun c2 => ?_) (fun c2 => ?_)
    · exact absurd c2 h1
    · refine lv_aload_n hx hb d_Ex_join_15 rfl (lv_at hl 0 rfl) ?_
      refine lv_aload_n hx hb d_Ex_join_16 rfl (lv_at hl 1 rfl) ?_
      refine hp_get (ci := 0) (v := .double oa) (C := R_Ex) (T := F_Ex) (N := 5) hx hb hg i_Ex hown hK hI hb' rfl 1 (by decide) (hg _ k_133) (fun _ h9 => h9) rfl d_Ex_join_17 ?_
      refine lv_aload_n hx hb d_Ex_join_20 rfl (lv_at hl 1 rfl) ?_
      refine hp_get (ci := 0) (v := .double ob) (C := R_Ex) (T := F_Ex) (N := 5) hx hb hg i_Ex hown hK hI hb' rfl 2 (by decide) (hg _ k_134) (fun _ h9 => h9) rfl d_Ex_join_21 ?_
      refine lv_aload_n hx hb d_Ex_join_24 rfl (lv_at hl 1 rfl) ?_
      refine hp_get (ci := 0) (v := .double oc) (C := R_Ex) (T := F_Ex) (N := 5) hx hb hg i_Ex hown hK hI hb' rfl 3 (by decide) (hg _ k_135) (fun _ h9 => h9) rfl d_Ex_join_25 ?_
      refine lv_aload_n hx hb d_Ex_join_28 rfl (lv_at hl 1 rfl) ?_
      refine hp_get (ci := 0) (v := .double od) (C := R_Ex) (T := F_Ex) (N := 5) hx hb hg i_Ex hown hK hI hb' rfl 4 (by decide) (hg _ k_136) (fun _ h9 => h9) rfl d_Ex_join_29 ?_
      refine ec_v (va_runV (As := [.double oa, .double ob, .double oc, .double od]) (rest := []) ⟨hx, hb, hml, hown, hts⟩ (m_Ex_span l G S0 w a oa ob oc od ha) (cwV 4 hts (gw_V k_735 k_725 k_35 k_65 k_726) rfl rfl rfl (by decide +kernel) ⟨Nat.le_of_ble_eq_true rfl, Nat.le_of_ble_eq_true rfl⟩) (eB.preV hE hI hS hz rfl ha) rfl rfl hl.1 rfl (lv_room (Nat.le_of_ble_eq_true rfl)) d_Ex_join_32 ⟨Nat.le_of_ble_eq_true rfl, Nat.le_of_ble_eq_true rfl⟩) hS (fun w_1 H locs ew_1 hI hsz hS => ?_)
      have hb' : w_1 b = some (.inr (0, [.int oe, .double oa, .double ob, .double oc, .double od])) := by rw [ew_1, hp_set_ne (fun h => h1 (by rw [h] at hb'; have := ha.symm.trans hb'; injection this with this; injection this with this; injection this with _ this; injection this with this; injection this with this; rw [this]; exact h0))]; exact hb'
      have ha : w_1 a = some (.inr (0, [.int 0, .double oa, .double ob, .double oc, .double od])) := by rw [ew_1]; exact hp_set_eq _ _ _
      exact W.vret hx hb hr (fun t ht hW => ⟨⟨w_1, rfl, ew_1, eWo ht hI⟩, hS.F ht⟩) hS.2.2 d_Ex_join_35
  · exact absurd h0 c1
set_option maxHeartbeats 4000000 in
set_option maxRecDepth 100000 in
theorem m_Ex_join2 (l : Launch) (G : EG) (S0 : Nat) (w : hp_M) (a b : Nat) (hab : b ≠ a) {e0 oe : Int32} {la lb ga gb oa ob oc od : UInt64} (ha : w a = some (oEx e0 la lb ga gb)) (hb' : w b = some (oEx oe oa ob oc od)) (h0 : oe = 0) (h1 : e0 = 0) : Met l y_Ex_join w_Ex_join (rl 1 0 0) (eP G S0 w [.ref a, .ref b]) (va_Qv (fun u => u = hp_set w a (oEx e0 (dlo oa la) (dlo ob lb) (dhi oc ga) (dhi od gb))) (eW G S0) (hp_A S0)) 0 0 (hp_A S0) := by
  refine Met.ofW (cc := b_Ex_join) (maxL := 2) (ret := none) (by decide) rfl ?_
  intro p e s m args below meth c s₁ B hml hv
  obtain ⟨rfl, hE, hI, hz⟩ := hv
  have hx := B.exec
  have hb := B.bytes
  have hr := B.returns
  have hts := atoms_spec (ws := w_Ex_join) B.pre
  have hg : ∀ w ∈ gw, w.before _ s = true := fun w h => hts w (List.mem_cons_of_mem _ h)
  have hown : s.vm.findClass "SceneEasel$Extent" = some m.cls := findClass_of_methodNamed B.named
  have hlocks := B.notSynchronized
  have hK := hE.K
  have hS : va_S (hp_A S0) s.heap s.heap [] := va_S.rf
  have hl := lv_entry ([.ref a, .ref b]) (n := 2) (Nat.le_of_ble_eq_true rfl)
  rw [lg_entry_eq]
  generalize (lg_sl ([.ref a, .ref b]) ++ List.replicate (2 - (lg_sl ([.ref a, .ref b])).length) Slot.unset).toArray = ls at hl ⊢
  have hl : lv_has ls 2 [(0, .ref a), (1, .ref b)] := hl
  refine lv_aload_n hx hb d_Ex_join_0 rfl (lv_at hl 1 rfl) ?_
  refine hp_get (ci := 0) (v := .int oe) (C := R_Ex) (T := F_Ex) (N := 5) hx hb hg i_Ex hown hK hI hb' rfl 0 (by decide) (hg _ k_130) (fun _ h9 => h9) rfl d_Ex_join_1 ?_
  refine lv_if_eq (tgt := 8) hx hb d_Ex_join_4 (by decide) (fun c1 => ?_) (fun c1 => ?_)
  · refine lv_aload_n hx hb d_Ex_join_8 rfl (lv_at hl 0 rfl) ?_
    refine hp_get (ci := 0) (v := .int e0) (C := R_Ex) (T := F_Ex) (N := 5) hx hb hg i_Ex hown hK hI ha rfl 0 (by decide) (hg _ k_130) (fun _ h9 => h9) rfl d_Ex_join_9 ?_
    refine lv_if_eq (tgt := 36) hx hb d_Ex_join_12 (by decide) (fun c2 => ?_) (fun c2 => ?_)
    · refine lv_aload_n hx hb d_Ex_join_36 rfl (lv_at hl 0 rfl) ?_
      refine lv_aload_n hx hb d_Ex_join_37 rfl (lv_at hl 1 rfl) ?_
      refine hp_get (ci := 0) (v := .double oa) (C := R_Ex) (T := F_Ex) (N := 5) hx hb hg i_Ex hown hK hI hb' rfl 1 (by decide) (hg _ k_133) (fun _ h9 => h9) rfl d_Ex_join_38 ?_
      refine lv_aload_n hx hb d_Ex_join_41 rfl (lv_at hl 0 rfl) ?_
      refine hp_get (ci := 0) (v := .double la) (C := R_Ex) (T := F_Ex) (N := 5) hx hb hg i_Ex hown hK hI ha rfl 1 (by decide) (hg _ k_133) (fun _ h9 => h9) rfl d_Ex_join_42 ?_
      refine lv_dcmp hx hb d_Ex_join_45 ?_
      refine W.mi1 (fun v1 : UInt64 => v1 = dlo oa la) (fun v1 => F0 m 60 ls (.double v1 :: .ref a :: [])) (fun v1 ev1 => ?_) (fun key => ?_)
      · refine hp_putC (ci := 0) (v := .double v1) (ty := .double) (C := R_Ex) (T := F_Ex) (N := 5) hx hb hg i_Ex t_Ex t_Ex_ok n_Ex hown hK hI hS ha rfl 1 (by decide) (hg _ k_133) (fun _ h9 => h9) rfl (by decide +kernel) rfl rfl (Nat.le_of_ble_eq_true rfl) d_Ex_join_60 (fun H locs hI hS hsz => ?_)
        obtain ⟨w_1, ew_1⟩ : ∃ z, z = hp_set w a (.inr (0, [.int e0, .double v1, .double lb, .double ga, .double gb])) := ⟨_, rfl⟩
        have hI : eI G S0 w_1 H := by rw [ew_1]; exact hI
        have hb' : w_1 b = some (.inr (0, [.int oe, .double oa, .double ob, .double oc, .double od])) := by rw [ew_1, hp_set_ne hab]; exact hb'
        have ha : w_1 a = some (.inr (0, [.int e0, .double v1, .double lb, .double ga, .double gb])) := by rw [ew_1]; exact hp_set_eq _ _ _
        refine lv_aload_n hx hb d_Ex_join_63 rfl (lv_at hl 0 rfl) ?_
        refine lv_aload_n hx hb d_Ex_join_64 rfl (lv_at hl 1 rfl) ?_
        refine hp_get (ci := 0) (v := .double ob) (C := R_Ex) (T := F_Ex) (N := 5) hx hb hg i_Ex hown hK hI hb' rfl 2 (by decide) (hg _ k_134) (fun _ h9 => h9) rfl d_Ex_join_65 ?_
        refine lv_aload_n hx hb d_Ex_join_68 rfl (lv_at hl 0 rfl) ?_
        refine hp_get (ci := 0) (v := .double lb) (C := R_Ex) (T := F_Ex) (N := 5) hx hb hg i_Ex hown hK hI ha rfl 2 (by decide) (hg _ k_134) (fun _ h9 => h9) rfl d_Ex_join_69 ?_
        refine lv_dcmp hx hb d_Ex_join_72 ?_
        refine W.mi1 (fun v2 : UInt64 => v2 = dlo ob lb) (fun v2 => F0 m 87 ls (.double v2 :: .ref a :: [])) (fun v2 ev2 => ?_) (fun key => ?_)
        · refine hp_putC (ci := 0) (v := .double v2) (ty := .double) (C := R_Ex) (T := F_Ex) (N := 5) hx hb hg i_Ex t_Ex t_Ex_ok n_Ex hown hK hI hS ha rfl 2 (by decide) (hg _ k_134) (fun _ h9 => h9) rfl (by decide +kernel) rfl rfl (Nat.le_of_ble_eq_true rfl) d_Ex_join_87 (fun H locs hI hS hsz => ?_)
          obtain ⟨w_2, ew_2⟩ : ∃ z, z = hp_set w_1 a (.inr (0, [.int e0, .double v1, .double v2, .double ga, .double gb])) := ⟨_, rfl⟩
          have hI : eI G S0 w_2 H := by rw [ew_2]; exact hI
          have hb' : w_2 b = some (.inr (0, [.int oe, .double oa, .double ob, .double oc, .double od])) := by rw [ew_2, hp_set_ne hab]; exact hb'
          have ha : w_2 a = some (.inr (0, [.int e0, .double v1, .double v2, .double ga, .double gb])) := by rw [ew_2]; exact hp_set_eq _ _ _
          refine lv_aload_n hx hb d_Ex_join_90 rfl (lv_at hl 0 rfl) ?_
          refine lv_aload_n hx hb d_Ex_join_91 rfl (lv_at hl 1 rfl) ?_
          refine hp_get (ci := 0) (v := .double oc) (C := R_Ex) (T := F_Ex) (N := 5) hx hb hg i_Ex hown hK hI hb' rfl 3 (by decide) (hg _ k_135) (fun _ h9 => h9) rfl d_Ex_join_92 ?_
          refine lv_aload_n hx hb d_Ex_join_95 rfl (lv_at hl 0 rfl) ?_
          refine hp_get (ci := 0) (v := .double ga) (C := R_Ex) (T := F_Ex) (N := 5) hx hb hg i_Ex hown hK hI ha rfl 3 (by decide) (hg _ k_135) (fun _ h9 => h9) rfl d_Ex_join_96 ?_
          refine lv_dcmp hx hb d_Ex_join_99 ?_
          refine W.mi1 (fun v3 : UInt64 => v3 = dhi oc ga) (fun v3 => F0 m 114 ls (.double v3 :: .ref a :: [])) (fun v3 ev3 => ?_) (fun key => ?_)
          · refine hp_putC (ci := 0) (v := .double v3) (ty := .double) (C := R_Ex) (T := F_Ex) (N := 5) hx hb hg i_Ex t_Ex t_Ex_ok n_Ex hown hK hI hS ha rfl 3 (by decide) (hg _ k_135) (fun _ h9 => h9) rfl (by decide +kernel) rfl rfl (Nat.le_of_ble_eq_true rfl) d_Ex_join_114 (fun H locs hI hS hsz => ?_)
            obtain ⟨w_3, ew_3⟩ : ∃ z, z = hp_set w_2 a (.inr (0, [.int e0, .double v1, .double v2, .double v3, .double gb])) := ⟨_, rfl⟩
            have hI : eI G S0 w_3 H := by rw [ew_3]; exact hI
            have hb' : w_3 b = some (.inr (0, [.int oe, .double oa, .double ob, .double oc, .double od])) := by rw [ew_3, hp_set_ne hab]; exact hb'
            have ha : w_3 a = some (.inr (0, [.int e0, .double v1, .double v2, .double v3, .double gb])) := by rw [ew_3]; exact hp_set_eq _ _ _
            refine lv_aload_n hx hb d_Ex_join_117 rfl (lv_at hl 0 rfl) ?_
            refine lv_aload_n hx hb d_Ex_join_118 rfl (lv_at hl 1 rfl) ?_
            refine hp_get (ci := 0) (v := .double od) (C := R_Ex) (T := F_Ex) (N := 5) hx hb hg i_Ex hown hK hI hb' rfl 4 (by decide) (hg _ k_136) (fun _ h9 => h9) rfl d_Ex_join_119 ?_
            refine lv_aload_n hx hb d_Ex_join_122 rfl (lv_at hl 0 rfl) ?_
            refine hp_get (ci := 0) (v := .double gb) (C := R_Ex) (T := F_Ex) (N := 5) hx hb hg i_Ex hown hK hI ha rfl 4 (by decide) (hg _ k_136) (fun _ h9 => h9) rfl d_Ex_join_123 ?_
            refine lv_dcmp hx hb d_Ex_join_126 ?_
            refine W.mi1 (fun v4 : UInt64 => v4 = dhi od gb) (fun v4 => F0 m 141 ls (.double v4 :: .ref a :: [])) (fun v4 ev4 => ?_) (fun key => ?_)
            · refine hp_putC (ci := 0) (v := .double v4) (ty := .double) (C := R_Ex) (T := F_Ex) (N := 5) hx hb hg i_Ex t_Ex t_Ex_ok n_Ex hown hK hI hS ha rfl 4 (by decide) (hg _ k_136) (fun _ h9 => h9) rfl (by decide +kernel) rfl rfl (Nat.le_of_ble_eq_true rfl) d_Ex_join_141 (fun H locs hI hS hsz => ?_)
              obtain ⟨w_4, ew_4⟩ : ∃ z, z = hp_set w_3 a (.inr (0, [.int e0, .double v1, .double v2, .double v3, .double v4])) := ⟨_, rfl⟩
              have hI : eI G S0 w_4 H := by rw [ew_4]; exact hI
              have hb' : w_4 b = some (.inr (0, [.int oe, .double oa, .double ob, .double oc, .double od])) := by rw [ew_4, hp_set_ne hab]; exact hb'
              have ha : w_4 a = some (.inr (0, [.int e0, .double v1, .double v2, .double v3, .double v4])) := by rw [ew_4]; exact hp_set_eq _ _ _
              exact W.vret hx hb hr (fun t ht hW => ⟨⟨w_4, rfl, by rw [ew_4, ew_3, ew_2, ew_1, hp_set_set, hp_set_set, hp_set_set]; rw [ev1, ev2, ev3, ev4], eWo ht hI⟩, hS.F ht⟩) hS.2.2 d_Ex_join_144
            · refine lv_if_le (tgt := 137) hx hb d_Ex_join_127 (by decide) (fun c3 => ?_) (fun c3 => ?_)
              · refine lv_aload_n hx hb d_Ex_join_137 rfl (lv_at hl 0 rfl) ?_
                refine hp_get (ci := 0) (v := .double gb) (C := R_Ex) (T := F_Ex) (N := 5) hx hb hg i_Ex hown hK hI ha rfl 4 (by decide) (hg _ k_136) (fun _ h9 => h9) rfl d_Ex_join_138 ?_
                exact key _ (by unfold dhi; rw [if_neg (cv_l_le.mp c3)])
              · refine lv_aload_n hx hb d_Ex_join_130 rfl (lv_at hl 1 rfl) ?_
                refine hp_get (ci := 0) (v := .double od) (C := R_Ex) (T := F_Ex) (N := 5) hx hb hg i_Ex hown hK hI hb' rfl 4 (by decide) (hg _ k_136) (fun _ h9 => h9) rfl d_Ex_join_131 ?_
                refine lv_goto (tgt := 141) hx hb d_Ex_join_134 (by decide) ?_
                exact key _ (by unfold dhi; rw [if_pos (Classical.not_not.mp (fun h => c3 (cv_l_le.mpr h)))])
          · refine lv_if_le (tgt := 110) hx hb d_Ex_join_100 (by decide) (fun c3 => ?_) (fun c3 => ?_)
            · refine lv_aload_n hx hb d_Ex_join_110 rfl (lv_at hl 0 rfl) ?_
              refine hp_get (ci := 0) (v := .double ga) (C := R_Ex) (T := F_Ex) (N := 5) hx hb hg i_Ex hown hK hI ha rfl 3 (by decide) (hg _ k_135) (fun _ h9 => h9) rfl d_Ex_join_111 ?_
              exact key _ (by unfold dhi; rw [if_neg (cv_l_le.mp c3)])
            · refine lv_aload_n hx hb d_Ex_join_103 rfl (lv_at hl 1 rfl) ?_
              refine hp_get (ci := 0) (v := .double oc) (C := R_Ex) (T := F_Ex) (N := 5) hx hb hg i_Ex hown hK hI hb' rfl 3 (by decide) (hg _ k_135) (fun _ h9 => h9) rfl d_Ex_join_104 ?_
              refine lv_goto (tgt := 114) hx hb d_Ex_join_107 (by decide) ?_
              exact key _ (by unfold dhi; rw [if_pos (Classical.not_not.mp (fun h => c3 (cv_l_le.mpr h)))])
        · refine lv_if_ge (tgt := 83) hx hb d_Ex_join_73 (by decide) (fun c3 => ?_) (fun c3 => ?_)
          · refine lv_aload_n hx hb d_Ex_join_83 rfl (lv_at hl 0 rfl) ?_
            refine hp_get (ci := 0) (v := .double lb) (C := R_Ex) (T := F_Ex) (N := 5) hx hb hg i_Ex hown hK hI ha rfl 2 (by decide) (hg _ k_134) (fun _ h9 => h9) rfl d_Ex_join_84 ?_
            exact key _ (by unfold dlo; rw [if_neg (cv_g_ge.mp c3)])
          · refine lv_aload_n hx hb d_Ex_join_76 rfl (lv_at hl 1 rfl) ?_
            refine hp_get (ci := 0) (v := .double ob) (C := R_Ex) (T := F_Ex) (N := 5) hx hb hg i_Ex hown hK hI hb' rfl 2 (by decide) (hg _ k_134) (fun _ h9 => h9) rfl d_Ex_join_77 ?_
            refine lv_goto (tgt := 87) hx hb d_Ex_join_80 (by decide) ?_
            exact key _ (by unfold dlo; rw [if_pos (Classical.not_not.mp (fun h => c3 (cv_g_ge.mpr h)))])
      · refine lv_if_ge (tgt := 56) hx hb d_Ex_join_46 (by decide) (fun c3 => ?_) (fun c3 => ?_)
        · refine lv_aload_n hx hb d_Ex_join_56 rfl (lv_at hl 0 rfl) ?_
          refine hp_get (ci := 0) (v := .double la) (C := R_Ex) (T := F_Ex) (N := 5) hx hb hg i_Ex hown hK hI ha rfl 1 (by decide) (hg _ k_133) (fun _ h9 => h9) rfl d_Ex_join_57 ?_
          exact key _ (by unfold dlo; rw [if_neg (cv_g_ge.mp c3)])
        · refine lv_aload_n hx hb d_Ex_join_49 rfl (lv_at hl 1 rfl) ?_
          refine hp_get (ci := 0) (v := .double oa) (C := R_Ex) (T := F_Ex) (N := 5) hx hb hg i_Ex hown hK hI hb' rfl 1 (by decide) (hg _ k_133) (fun _ h9 => h9) rfl d_Ex_join_50 ?_
          refine lv_goto (tgt := 60) hx hb d_Ex_join_53 (by decide) ?_
          exact key _ (by unfold dlo; rw [if_pos (Classical.not_not.mp (fun h => c3 (cv_g_ge.mpr h)))])
    · exact absurd h1 c2
  · exact absurd h0 c1
def xSide (k : Nat) (la lb ga gb : UInt64) : UInt64 := if k = 0 then la else if k = 1 then lb else if k = 2 then ga else gb
set_option maxHeartbeats 4000000 in
set_option maxRecDepth 100000 in
theorem m_Ex_side (l : Launch) (G : EG) (S0 : Nat) (w : hp_M) (a k : Nat) (hk : k < 4) {e0 : Int32} {la lb ga gb : UInt64} (ha : w a = some (oEx e0 la lb ga gb)) : Met l y_Ex_side w_Ex_side (rl 0 0 0) (eP G S0 w [.ref a, .int (nI k)]) (va_Qd (fun r u => r = dz0 (xSide k la lb ga gb) ∧ u = w) (eW G S0) (hp_A S0)) 0 0 (hp_A S0) := by
  refine Met.ofW (cc := b_Ex_side) (maxL := 4) (ret := (some .double)) (by decide) rfl ?_
  intro p e s m args below meth c s₁ B hml hv
  obtain ⟨rfl, hE, hI, hz⟩ := hv
  have hx := B.exec
  have hb := B.bytes
  have hr := B.returns
  have hts := atoms_spec (ws := w_Ex_side) B.pre
  have hg : ∀ w ∈ gw, w.before _ s = true := fun w h => hts w (List.mem_cons_of_mem _ h)
  have hown : s.vm.findClass "SceneEasel$Extent" = some m.cls := findClass_of_methodNamed B.named
  have hlocks := B.notSynchronized
  have hK := hE.K
  have hS : va_S (hp_A S0) s.heap s.heap [] := va_S.rf
  have hl := lv_entry ([.ref a, .int (nI k)]) (n := 4) (Nat.le_of_ble_eq_true rfl)
  rw [lg_entry_eq]
  generalize (lg_sl ([.ref a, .int (nI k)]) ++ List.replicate (4 - (lg_sl ([.ref a, .int (nI k)])).length) Slot.unset).toArray = ls at hl ⊢
  have hl : lv_has ls 4 [(0, .ref a), (1, .int (nI k))] := hl
  refine lv_iload_n hx hb d_Ex_side_0 rfl (lv_at hl 1 rfl) ?_
  refine W.mi1 (fun q : UInt64 × Array Slot => q.1 = xSide k la lb ga gb ∧ lv_has q.2 4 [(2, .double q.1), (0, .ref a), (1, .int (nI k))]) (fun q => F0 m 57 q.2 []) (fun q hq => ?_) (fun key => ?_)
  · obtain ⟨v, ls⟩ := q
    obtain ⟨ev, hl⟩ := hq
    dsimp only at ev hl ⊢
    refine lv_dload_n hx hb d_Ex_side_57 rfl (lv_at hl 0 rfl) ?_
    refine lv_dconst0 hx hb d_Ex_side_58 ?_
    refine lv_dcmp hx hb d_Ex_side_59 ?_
    refine lv_if_ne (tgt := 67) hx hb d_Ex_side_60 (by decide) (fun c1 => ?_) (fun c1 => ?_)
    · refine lv_dload_n hx hb d_Ex_side_67 rfl (lv_at hl 0 rfl) ?_
      exact W.dret (v := v) hx hb hr (fun t ht hW => ⟨⟨v, w, rfl, ⟨by rw [← ev]; unfold dz0; rw [if_neg (fun h => c1 (cv_l_eq.mpr h))], rfl⟩, eWo ht hI⟩, hS.F ht⟩) hS.2.2 d_Ex_side_68
    · refine lv_dconst0 hx hb d_Ex_side_63 ?_
      refine lv_goto (tgt := 68) hx hb d_Ex_side_64 (by decide) ?_
      exact W.dret (v := FP.dconst0) hx hb hr (fun t ht hW => ⟨⟨FP.dconst0, w, rfl, ⟨by rw [← ev]; unfold dz0; rw [if_pos (cv_l_eq.mp c1)], rfl⟩, eWo ht hI⟩, hS.F ht⟩) hS.2.2 d_Ex_side_68
  · have hti := nI_toInt (n := k) (by omega)
    rcases (show k = 0 ∨ k = 1 ∨ k = 2 ∨ k = 3 by omega) with h | h | h | h
    · refine lv_tableIn (tgt := 28) hx hb d_Ex_side_1 (by rw [hti]; omega) (by rw [hti]; omega) (off := 27) (by rw [hti, h]; rfl) (by decide) ?_
      refine lv_aload_n hx hb d_Ex_side_28 rfl (lv_at hl 0 rfl) ?_
      refine hp_get (ci := 0) (v := .double la) (C := R_Ex) (T := F_Ex) (N := 5) hx hb hg i_Ex hown hK hI ha rfl 1 (by decide) (hg _ k_133) (fun _ h9 => h9) rfl d_Ex_side_29 ?_
      refine lv_dstore_n (lv' := [(2, .double la), (0, .ref a), (1, .int (nI k))]) hx hb d_Ex_side_32 rfl hl (by decide) rfl (fun ls hl => ?_)
      refine lv_goto (tgt := 57) hx hb d_Ex_side_33 (by decide) ?_
      exact key (la, ls) ⟨by rw [h]; rfl, hl⟩
    · refine lv_tableIn (tgt := 36) hx hb d_Ex_side_1 (by rw [hti]; omega) (by rw [hti]; omega) (off := 35) (by rw [hti, h]; rfl) (by decide) ?_
      refine lv_aload_n hx hb d_Ex_side_36 rfl (lv_at hl 0 rfl) ?_
      refine hp_get (ci := 0) (v := .double lb) (C := R_Ex) (T := F_Ex) (N := 5) hx hb hg i_Ex hown hK hI ha rfl 2 (by decide) (hg _ k_134) (fun _ h9 => h9) rfl d_Ex_side_37 ?_
      refine lv_dstore_n (lv' := [(2, .double lb), (0, .ref a), (1, .int (nI k))]) hx hb d_Ex_side_40 rfl hl (by decide) rfl (fun ls hl => ?_)
      refine lv_goto (tgt := 57) hx hb d_Ex_side_41 (by decide) ?_
      exact key (lb, ls) ⟨by rw [h]; rfl, hl⟩
    · refine lv_tableIn (tgt := 44) hx hb d_Ex_side_1 (by rw [hti]; omega) (by rw [hti]; omega) (off := 43) (by rw [hti, h]; rfl) (by decide) ?_
      refine lv_aload_n hx hb d_Ex_side_44 rfl (lv_at hl 0 rfl) ?_
      refine hp_get (ci := 0) (v := .double ga) (C := R_Ex) (T := F_Ex) (N := 5) hx hb hg i_Ex hown hK hI ha rfl 3 (by decide) (hg _ k_135) (fun _ h9 => h9) rfl d_Ex_side_45 ?_
      refine lv_dstore_n (lv' := [(2, .double ga), (0, .ref a), (1, .int (nI k))]) hx hb d_Ex_side_48 rfl hl (by decide) rfl (fun ls hl => ?_)
      refine lv_goto (tgt := 57) hx hb d_Ex_side_49 (by decide) ?_
      exact key (ga, ls) ⟨by rw [h]; rfl, hl⟩
    · refine lv_tableOut (tgt := 52) hx hb d_Ex_side_1 (Or.inr (by rw [hti]; omega)) (by decide) ?_
      refine lv_aload_n hx hb d_Ex_side_52 rfl (lv_at hl 0 rfl) ?_
      refine hp_get (ci := 0) (v := .double gb) (C := R_Ex) (T := F_Ex) (N := 5) hx hb hg i_Ex hown hK hI ha rfl 4 (by decide) (hg _ k_136) (fun _ h9 => h9) rfl d_Ex_side_53 ?_
      refine lv_dstore_n (lv' := [(2, .double gb), (0, .ref a), (1, .int (nI k))]) hx hb d_Ex_side_56 rfl hl (by decide) rfl (fun ls hl => ?_)
      exact key (gb, ls) ⟨by rw [h]; rfl, hl⟩

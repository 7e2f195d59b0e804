def kJump (ft fv : Nat → UInt64) (n : Nat) (u d : UInt64) : UInt64 := if n = 0 then d else fv (kfF ft u n)
def gSpan (ft : Nat → UInt64) (i : Nat) : UInt64 := FP.dsub (ft (i + 1)) (ft i)
def gNum (ft fv : Nat → UInt64) (u : UInt64) (i : Nat) : UInt64 := FP.dmul (FP.dsub (fv (i + 1)) (fv i)) (FP.dsub u (ft i))
def gQuo (ft fv : Nat → UInt64) (u : UInt64) (i : Nat) : UInt64 := FP.ddiv (gNum ft fv u i) (gSpan ft i)
def kGlide (ft fv : Nat → UInt64) (n : Nat) (u d : UInt64) : UInt64 :=
  if n = 0 then d else
  if n ≤ kfF ft u n + 1 ∨ dle u (ft (kfF ft u n)) then fv (kfF ft u n) else
  if dle (gSpan ft (kfF ft u n)) FP.dconst0 then fv (kfF ft u n) else
  FP.dadd (fv (kfF ft u n)) (fx_rd (gQuo ft fv u (kfF ft u n)))
/-- no NaN comes up on the way -/
def gOk (ft fv : Nat → UInt64) (u : UInt64) (i : Nat) : Prop :=
  vf_n64 (gSpan ft i) ∧ vf_n64 (FP.dsub (fv (i + 1)) (fv i)) ∧ vf_n64 (FP.dsub u (ft i)) ∧ vf_n64 (gNum ft fv u i) ∧
  (¬ dle (gSpan ft i) FP.dconst0 → vf_n64 (gQuo ft fv u i) ∧ vf_n64 (FP.dmul (gQuo ft fv u i) fx_64) ∧ vf_n64 (fx_rd (gQuo ft fv u i)) ∧ vf_n64 (FP.dadd (fv i) (fx_rd (gQuo ft fv u i))))
set_option maxHeartbeats 4000000 in
set_option maxRecDepth 100000 in
theorem m_Tr_jumping (l : Launch) (G : EG) (S0 : Nat) (w : hp_M) (a ta va n : Nat) (ft fv : Nat → UInt64) (u d : UInt64) (hn : n ≤ 4) (ha : w a = some (oTr ta va n)) (ht : w ta = some (aD G 4 ft)) (hv' : w va = some (aD G 4 fv)) : Met l y_Tr_jumping w_Tr_jumping (rl 1 0 0) (eP G S0 w [.ref a, .double u, .double d]) (va_Qd (fun r z => r = kJump ft fv n u d ∧ z = w) (eW G S0) (hp_A S0)) 0 0 (hp_A S0) := by
  refine Met.ofW (cc := b_Tr_jumping) (maxL := 5) (ret := (some .double)) (by decide) rfl ?_
  intro p e s m args below meth c s₁ B hml hv
  obtain ⟨rfl, hE, hI, hz⟩ := hv
  have hx := B.exec
  have hb := B.bytes
  have hr := B.returns
  have hts := atoms_spec (ws := w_Tr_jumping) B.pre
  have hg : ∀ w ∈ gw, w.before _ s = true := fun w h => hts w (List.mem_cons_of_mem _ h)
  have hown : s.vm.findClass "SceneEasel$Track" = some m.cls := findClass_of_methodNamed B.named
  have hlocks := B.notSynchronized
  have hK := hE.K
  have hS : va_S (hp_A S0) s.heap s.heap [] := va_S.rf
  have hl := lv_entry ([.ref a, .double u, .double d]) (n := 5) (Nat.le_of_ble_eq_true rfl)
  rw [lg_entry_eq]
  generalize (lg_sl ([.ref a, .double u, .double d]) ++ List.replicate (5 - (lg_sl ([.ref a, .double u, .double d])).length) Slot.unset).toArray = ls at hl ⊢
  have hl : lv_has ls 5 [(0, .ref a), (1, .double u), (3, .double d)] := hl
  refine lv_aload_n hx hb d_Tr_jumping_0 rfl (lv_at hl 0 rfl) ?_
  refine hp_get (ci := 2) (v := .int (nI n)) (C := R_Tr) (T := F_Tr) (N := 3) hx hb hg i_Tr hown hK hI ha rfl 2 (by decide) (hg _ k_155) (fun _ h9 => h9) rfl d_Tr_jumping_1 ?_
  refine lv_if_ne (tgt := 11) hx hb d_Tr_jumping_4 (by decide) (fun c1 => ?_) (fun c1 => ?_)
  · refine lv_aload_n hx hb d_Tr_jumping_11 rfl (lv_at hl 0 rfl) ?_
    refine hp_get (ci := 2) (v := .ref va) (C := R_Tr) (T := F_Tr) (N := 3) hx hb hg i_Tr hown hK hI ha rfl 1 (by decide) (hg _ k_154) (fun _ h9 => h9) rfl d_Tr_jumping_12 ?_
    refine lv_aload_n hx hb d_Tr_jumping_15 rfl (lv_at hl 0 rfl) ?_
    refine lv_dload_n hx hb d_Tr_jumping_16 rfl (lv_at hl 1 rfl) ?_
    refine ec_i (va_runV (As := [.double u]) (rest := [.ref va]) ⟨hx, hb, hml, hown, hts⟩ (m_Tr_frameFor l G S0 w a ta va n ft u hn ha ht) (cwV 1 hts (gw_V k_641 k_643 k_25 k_66 k_644) rfl rfl rfl (by decide +kernel) ⟨Nat.le_of_ble_eq_true rfl, Nat.le_of_ble_eq_true rfl⟩) (eB.preV hE hI hS hz rfl ha) rfl rfl hl.1 rfl (lv_room (Nat.le_of_ble_eq_true rfl)) d_Tr_jumping_17 ⟨Nat.le_of_ble_eq_true rfl, Nat.le_of_ble_eq_true rfl⟩) hS (fun r_2 w_1 H locs ew_1 hI hsz hS => ?_)
    obtain ⟨er_2, ew_1⟩ := ew_1
    have ew_1 := ew_1.symm
    subst ew_1
    have h0 : 0 < n := by
      rcases Nat.eq_zero_or_pos n with q | q
      · subst q; exact absurd rfl c1
      · exact q
    have hi := kfF_lt ft u n h0
    subst er_2
    refine hp_dald hx hb hK hI 1 hv' rfl (vp_in_nI (by omega) (by decide)) d_Tr_jumping_20 ?_
    rw [nI_clamp (n := kfF ft u n) (by omega)]
    exact W.dret (v := (fv (kfF ft u n))) hx hb hr (fun t ht hW => ⟨⟨(fv (kfF ft u n)), w, rfl, ⟨by unfold kJump; rw [if_neg (by omega)], rfl⟩, eWo ht hI⟩, hS.F ht⟩) hS.2.2 d_Tr_jumping_21
  · have h0 : n = 0 := (nI_eq (a := n) (b := 0) (by omega) (by decide)).mp c1
    refine lv_dload_n hx hb d_Tr_jumping_7 rfl (lv_at hl 2 rfl) ?_
    refine lv_goto (tgt := 21) hx hb d_Tr_jumping_8 (by decide) ?_
    exact W.dret (v := d) hx hb hr (fun t ht hW => ⟨⟨d, w, rfl, ⟨by unfold kJump; rw [if_pos h0], rfl⟩, eWo ht hI⟩, hS.F ht⟩) hS.2.2 d_Tr_jumping_21
set_option maxHeartbeats 4000000 in
set_option maxRecDepth 100000 in
theorem m_Tr_gliding (l : Launch) (G : EG) (S0 : Nat) (w : hp_M) (a ta va n : Nat) (ft fv : Nat → UInt64) (u d : UInt64) (hn : n ≤ 4) (ha : w a = some (oTr ta va n)) (ht : w ta = some (aD G 4 ft)) (hv' : w va = some (aD G 4 fv)) (hok : ∀ i, i + 1 < n → gOk ft fv u i) : Met l y_Tr_gliding w_Tr_gliding (rl 2 0 0) (eP G S0 w [.ref a, .double u, .double d]) (va_Qd (fun r z => r = kGlide ft fv n u d ∧ z = w) (eW G S0) (hp_A S0)) 0 0 (hp_A S0) := by
  refine Met.ofW (cc := b_Tr_gliding) (maxL := 8) (ret := (some .double)) (by decide) rfl ?_
  intro p e s m args below meth c s₁ B hml hv
  obtain ⟨rfl, hE, hI, hz⟩ := hv
  have hx := B.exec
  have hb := B.bytes
  have hr := B.returns
  have hts := atoms_spec (ws := w_Tr_gliding) B.pre
  have hg : ∀ w ∈ gw, w.before _ s = true := fun w h => hts w (List.mem_cons_of_mem _ h)
  have hown : s.vm.findClass "SceneEasel$Track" = some m.cls := findClass_of_methodNamed B.named
  have hlocks := B.notSynchronized
  have hK := hE.K
  have hS : va_S (hp_A S0) s.heap s.heap [] := va_S.rf
  have hl := lv_entry ([.ref a, .double u, .double d]) (n := 8) (Nat.le_of_ble_eq_true rfl)
  rw [lg_entry_eq]
  generalize (lg_sl ([.ref a, .double u, .double d]) ++ List.replicate (8 - (lg_sl ([.ref a, .double u, .double d])).length) Slot.unset).toArray = ls at hl ⊢
  have hl : lv_has ls 8 [(0, .ref a), (1, .double u), (3, .double d)] := hl
  refine lv_aload_n hx hb d_Tr_gliding_0 rfl (lv_at hl 0 rfl) ?_
  refine hp_get (ci := 2) (v := .int (nI n)) (C := R_Tr) (T := F_Tr) (N := 3) hx hb hg i_Tr hown hK hI ha rfl 2 (by decide) (hg _ k_155) (fun _ h9 => h9) rfl d_Tr_gliding_1 ?_
  refine lv_if_ne (tgt := 9) hx hb d_Tr_gliding_4 (by decide) (fun c1 => ?_) (fun c1 => ?_)
  · refine lv_aload_n hx hb d_Tr_gliding_9 rfl (lv_at hl 0 rfl) ?_
    refine lv_dload_n hx hb d_Tr_gliding_10 rfl (lv_at hl 1 rfl) ?_
    refine ec_i (va_runV (As := [.double u]) (rest := []) ⟨hx, hb, hml, hown, hts⟩ (m_Tr_frameFor l G S0 w a ta va n ft u hn ha ht) (cwV 1 hts (gw_V k_641 k_643 k_25 k_66 k_644) rfl rfl rfl (by decide +kernel) ⟨Nat.le_of_ble_eq_true rfl, Nat.le_of_ble_eq_true rfl⟩) (eB.preV hE hI hS hz rfl ha) rfl rfl hl.1 rfl (lv_room (Nat.le_of_ble_eq_true rfl)) d_Tr_gliding_11 ⟨Nat.le_of_ble_eq_true rfl, Nat.le_of_ble_eq_true rfl⟩) hS (fun r_2 w_1 H locs ew_1 hI hsz hS => ?_)
    obtain ⟨er_2, ew_1⟩ := ew_1
    have ew_1 := ew_1.symm
    subst ew_1
    have h0 : 0 < n := by
      rcases Nat.eq_zero_or_pos n with q | q
      · subst q; exact absurd rfl c1
      · exact q
    have hi := kfF_lt ft u n h0
    have hkg : kGlide ft fv n u d = if n ≤ kfF ft u n + 1 ∨ dle u (ft (kfF ft u n)) then fv (kfF ft u n) else if dle (gSpan ft (kfF ft u n)) FP.dconst0 then fv (kfF ft u n) else FP.dadd (fv (kfF ft u n)) (fx_rd (gQuo ft fv u (kfF ft u n))) := by
      unfold kGlide
      rw [if_neg (by omega)]
    rw [er_2]
    obtain ⟨i, ei⟩ : ∃ z, z = kfF ft u n := ⟨_, rfl⟩
    rw [← ei] at hi hkg ⊢
    refine W.mi1 (fun ls : Array Slot => (n ≤ i + 1 ∨ dle u (ft i)) ∧ lv_has ls 8 [(5, .int (nI i)), (0, .ref a), (1, .double u), (3, .double d)]) (fun ls => F0 m 39 ls []) (fun ls hq => ?_) (fun key => ?_)
    · obtain ⟨hq, hl⟩ := hq
      refine lv_aload_n hx hb d_Tr_gliding_39 rfl (lv_at hl 1 rfl) ?_
      refine hp_get (ci := 2) (v := .ref va) (C := R_Tr) (T := F_Tr) (N := 3) hx hb hg i_Tr hown hK hI ha rfl 1 (by decide) (hg _ k_154) (fun _ h9 => h9) rfl d_Tr_gliding_40 ?_
      refine lv_iload hx hb d_Tr_gliding_43 (lv_at hl 0 rfl) ?_
      refine hp_dald hx hb hK hI 1 hv' rfl (vp_in_nI (by omega) (by decide)) d_Tr_gliding_45 ?_
      rw [nI_clamp (n := i) (by omega)]
      exact W.dret (v := (fv i)) hx hb hr (fun t ht hW => ⟨⟨(fv i), w, rfl, ⟨by rw [hkg, if_pos hq], rfl⟩, eWo ht hI⟩, hS.F ht⟩) hS.2.2 d_Tr_gliding_46
    · refine lv_istore (lv' := [(5, .int (nI i)), (0, .ref a), (1, .double u), (3, .double d)]) hx hb d_Tr_gliding_14 hl (by decide) rfl (fun ls hl => ?_)
      refine lv_iload hx hb d_Tr_gliding_16 (lv_at hl 0 rfl) ?_
      refine lv_iconst (v := 1) hx hb d_Tr_gliding_18 (by decide) ?_
      refine lv_iadd hx hb d_Tr_gliding_19 ?_
      rw [nI_1]
      refine lv_aload_n hx hb d_Tr_gliding_20 rfl (lv_at hl 1 rfl) ?_
      refine hp_get (ci := 2) (v := .int (nI n)) (C := R_Tr) (T := F_Tr) (N := 3) hx hb hg i_Tr hown hK hI ha rfl 2 (by decide) (hg _ k_155) (fun _ h9 => h9) rfl d_Tr_gliding_21 ?_
      refine lv_icmp_ge (tgt := 39) hx hb d_Tr_gliding_24 (by decide) (fun c2 => ?_) (fun c2 => ?_)
      · exact key ls ⟨Or.inl ((nI_leI (by omega) (by omega)).mp c2), hl⟩
      · have hlt : i + 1 < n := by
          rcases Nat.lt_or_ge (i + 1) n with q | q
          · exact q
          · exact absurd ((nI_leI (by omega) (by omega)).mpr q) c2
        obtain ⟨g1, g2, g3, g4, g5⟩ := hok i hlt
        refine lv_dload_n hx hb d_Tr_gliding_27 rfl (lv_at hl 2 rfl) ?_
        refine lv_aload_n hx hb d_Tr_gliding_28 rfl (lv_at hl 1 rfl) ?_
        refine hp_get (ci := 2) (v := .ref ta) (C := R_Tr) (T := F_Tr) (N := 3) hx hb hg i_Tr hown hK hI ha rfl 0 (by decide) (hg _ k_153) (fun _ h9 => h9) rfl d_Tr_gliding_29 ?_
        refine lv_iload hx hb d_Tr_gliding_32 (lv_at hl 0 rfl) ?_
        refine hp_dald hx hb hK hI 1 ht rfl (vp_in_nI (by omega) (by decide)) d_Tr_gliding_34 ?_
        rw [nI_clamp (n := i) (by omega)]
        refine lv_dcmp hx hb d_Tr_gliding_35 ?_
        refine lv_if_gt (tgt := 47) hx hb d_Tr_gliding_36 (by decide) (fun c3 => ?_) (fun c3 => ?_)
        · have hnq : ¬ (n ≤ i + 1 ∨ dle u (ft i)) := by
            rintro (q | q)
            · omega
            · have := cv_g_le.mpr q
              exact absurd c3 (Int32.not_lt.mpr this)
          refine lv_aload_n hx hb d_Tr_gliding_47 rfl (lv_at hl 1 rfl) ?_
          refine hp_get (ci := 2) (v := .ref ta) (C := R_Tr) (T := F_Tr) (N := 3) hx hb hg i_Tr hown hK hI ha rfl 0 (by decide) (hg _ k_153) (fun _ h9 => h9) rfl d_Tr_gliding_48 ?_
          refine lv_iload hx hb d_Tr_gliding_51 (lv_at hl 0 rfl) ?_
          refine lv_iconst (v := 1) hx hb d_Tr_gliding_53 (by decide) ?_
          refine lv_iadd hx hb d_Tr_gliding_54 ?_
          rw [nI_1]
          refine hp_dald hx hb hK hI 1 ht rfl (vp_in_nI (by omega) (by decide)) d_Tr_gliding_55 ?_
          rw [nI_clamp (n := i + 1) (by omega)]
          refine lv_aload_n hx hb d_Tr_gliding_56 rfl (lv_at hl 1 rfl) ?_
          refine hp_get (ci := 2) (v := .ref ta) (C := R_Tr) (T := F_Tr) (N := 3) hx hb hg i_Tr hown hK hI ha rfl 0 (by decide) (hg _ k_153) (fun _ h9 => h9) rfl d_Tr_gliding_57 ?_
          refine lv_iload hx hb d_Tr_gliding_60 (lv_at hl 0 rfl) ?_
          refine hp_dald hx hb hK hI 1 ht rfl (vp_in_nI (by omega) (by decide)) d_Tr_gliding_62 ?_
          rw [nI_clamp (n := i) (by omega)]
          refine lv_dsub hx hb d_Tr_gliding_63 g1 ?_
          refine lv_dstore (lv' := [(6, .double (FP.dsub (ft (i + 1)) (ft i))), (5, .int (nI i)), (0, .ref a), (1, .double u), (3, .double d)]) hx hb d_Tr_gliding_64 hl (by decide) rfl (fun ls hl => ?_)
          refine lv_dload hx hb d_Tr_gliding_66 (lv_at hl 0 rfl) ?_
          refine lv_dconst0 hx hb d_Tr_gliding_68 ?_
          refine lv_dcmp hx hb d_Tr_gliding_69 ?_
          refine lv_if_gt (tgt := 81) hx hb d_Tr_gliding_70 (by decide) (fun c4 => ?_) (fun c4 => ?_)
          · have hns : ¬ dle (gSpan ft i) FP.dconst0 := by
              intro q
              have := cv_g_le.mpr q
              exact absurd c4 (Int32.not_lt.mpr this)
            obtain ⟨g6, g7, g8, g9⟩ := g5 hns
            refine lv_aload_n hx hb d_Tr_gliding_81 rfl (lv_at hl 2 rfl) ?_
            refine hp_get (ci := 2) (v := .ref va) (C := R_Tr) (T := F_Tr) (N := 3) hx hb hg i_Tr hown hK hI ha rfl 1 (by decide) (hg _ k_154) (fun _ h9 => h9) rfl d_Tr_gliding_82 ?_
            refine lv_iload hx hb d_Tr_gliding_85 (lv_at hl 1 rfl) ?_
            refine hp_dald hx hb hK hI 1 hv' rfl (vp_in_nI (by omega) (by decide)) d_Tr_gliding_87 ?_
            rw [nI_clamp (n := i) (by omega)]
            refine lv_aload_n hx hb d_Tr_gliding_88 rfl (lv_at hl 2 rfl) ?_
            refine hp_get (ci := 2) (v := .ref va) (C := R_Tr) (T := F_Tr) (N := 3) hx hb hg i_Tr hown hK hI ha rfl 1 (by decide) (hg _ k_154) (fun _ h9 => h9) rfl d_Tr_gliding_89 ?_
            refine lv_iload hx hb d_Tr_gliding_92 (lv_at hl 1 rfl) ?_
            refine lv_iconst (v := 1) hx hb d_Tr_gliding_94 (by decide) ?_
            refine lv_iadd hx hb d_Tr_gliding_95 ?_
            rw [nI_1]
            refine hp_dald hx hb hK hI 1 hv' rfl (vp_in_nI (by omega) (by decide)) d_Tr_gliding_96 ?_
            rw [nI_clamp (n := i + 1) (by omega)]
            refine lv_aload_n hx hb d_Tr_gliding_97 rfl (lv_at hl 2 rfl) ?_
            refine hp_get (ci := 2) (v := .ref va) (C := R_Tr) (T := F_Tr) (N := 3) hx hb hg i_Tr hown hK hI ha rfl 1 (by decide) (hg _ k_154) (fun _ h9 => h9) rfl d_Tr_gliding_98 ?_
            refine lv_iload hx hb d_Tr_gliding_101 (lv_at hl 1 rfl) ?_
            refine hp_dald hx hb hK hI 1 hv' rfl (vp_in_nI (by omega) (by decide)) d_Tr_gliding_103 ?_
            rw [nI_clamp (n := i) (by omega)]
            refine lv_dsub hx hb d_Tr_gliding_104 g2 ?_
            refine lv_dload_n hx hb d_Tr_gliding_105 rfl (lv_at hl 3 rfl) ?_
            refine lv_aload_n hx hb d_Tr_gliding_106 rfl (lv_at hl 2 rfl) ?_
            refine hp_get (ci := 2) (v := .ref ta) (C := R_Tr) (T := F_Tr) (N := 3) hx hb hg i_Tr hown hK hI ha rfl 0 (by decide) (hg _ k_153) (fun _ h9 => h9) rfl d_Tr_gliding_107 ?_
            refine lv_iload hx hb d_Tr_gliding_110 (lv_at hl 1 rfl) ?_
            refine hp_dald hx hb hK hI 1 ht rfl (vp_in_nI (by omega) (by decide)) d_Tr_gliding_112 ?_
            rw [nI_clamp (n := i) (by omega)]
            refine lv_dsub hx hb d_Tr_gliding_113 g3 ?_
            refine lv_dmul hx hb d_Tr_gliding_114 g4 ?_
            refine lv_dload hx hb d_Tr_gliding_115 (lv_at hl 0 rfl) ?_
            refine lv_ddiv hx hb d_Tr_gliding_117 g6 ?_
            refine ec_d (va_runSN (As := [.double (FP.ddiv (FP.dmul (FP.dsub (fv (i + 1)) (fv i)) (FP.dsub u (ft i))) (FP.dsub (ft (i + 1)) (ft i)))]) (rest := [.double (fv i)]) ⟨hx, hb, hml, hown, hts⟩ (m_Ea_rounded l G S0 w (gQuo ft fv u i) g7 g8) ⟨va_cnB 1 hts (gw_code k_647) rfl rfl rfl (hE.Nw q_645) (hg _ k_60) (by decide +kernel) ⟨Nat.le_of_ble_eq_true rfl, Nat.le_of_ble_eq_true rfl⟩, hg _ k_646, trivial⟩ (eB.preS hE hI hS hz) rfl rfl hl.1 rfl (lv_room (Nat.le_of_ble_eq_true rfl)) d_Tr_gliding_118 ⟨Nat.le_of_ble_eq_true rfl, Nat.le_of_ble_eq_true rfl⟩) hS (fun r_4 w_3 H locs ew_3 hI hsz hS => ?_)
            obtain ⟨er_4, ew_3⟩ := ew_3
            have ew_3 := ew_3.symm
            subst ew_3
            refine lv_dadd hx hb d_Tr_gliding_121 (by rw [er_4]; exact g9) ?_
            exact W.dret (v := (FP.dadd (fv i) r_4)) hx hb hr (fun t ht hW => ⟨⟨(FP.dadd (fv i) r_4), w, rfl, ⟨by rw [hkg, if_neg hnq, if_neg hns, er_4], rfl⟩, eWo ht hI⟩, hS.F ht⟩) hS.2.2 d_Tr_gliding_122
          · refine lv_aload_n hx hb d_Tr_gliding_73 rfl (lv_at hl 2 rfl) ?_
            refine hp_get (ci := 2) (v := .ref va) (C := R_Tr) (T := F_Tr) (N := 3) hx hb hg i_Tr hown hK hI ha rfl 1 (by decide) (hg _ k_154) (fun _ h9 => h9) rfl d_Tr_gliding_74 ?_
            refine lv_iload hx hb d_Tr_gliding_77 (lv_at hl 1 rfl) ?_
            refine hp_dald hx hb hK hI 1 hv' rfl (vp_in_nI (by omega) (by decide)) d_Tr_gliding_79 ?_
            rw [nI_clamp (n := i) (by omega)]
            exact W.dret (v := (fv i)) hx hb hr (fun t ht hW => ⟨⟨(fv i), w, rfl, ⟨by rw [hkg, if_neg hnq, if_pos (show dle (gSpan ft i) FP.dconst0 from cv_g_le.mp (Int32.not_lt.mp c4))], rfl⟩, eWo ht hI⟩, hS.F ht⟩) hS.2.2 d_Tr_gliding_80
        · exact key ls ⟨Or.inr (cv_g_le.mp (Int32.not_lt.mp c3)), hl⟩
  · have h0 : n = 0 := (nI_eq (a := n) (b := 0) (by omega) (by decide)).mp c1
    refine lv_dload_n hx hb d_Tr_gliding_7 rfl (lv_at hl 2 rfl) ?_
    exact W.dret (v := d) hx hb hr (fun t ht hW => ⟨⟨d, w, rfl, ⟨by unfold kGlide; rw [if_pos h0], rfl⟩, eWo ht hI⟩, hS.F ht⟩) hS.2.2 d_Tr_gliding_8

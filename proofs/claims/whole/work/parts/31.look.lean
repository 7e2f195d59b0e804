/-! the top shape at a point -/
theorem dgt_no {x y : UInt64} (h : 0 < Op.cmpValue (FP.dcmp x y) .g) : ¬ dle x y := by
  rcases cv_g_gt.mp h with q | q <;> (rintro (h1 | h1) <;> (rw [q] at h1; cases h1))
theorem dgt_le {x y : UInt64} (h : ¬ 0 < Op.cmpValue (FP.dcmp x y) .g) : dle x y := by
  show FP.dcmp x y = some .lt ∨ FP.dcmp x y = some .eq
  rcases hq : FP.dcmp x y with _ | (_ | _ | _)
  · exact absurd (cv_g_gt.mpr (Or.inr hq)) h
  · exact Or.inl rfl
  · exact Or.inr rfl
  · exact absurd (cv_g_gt.mpr (Or.inl hq)) h
def bI (b : Bool) : Int32 := if b then 1 else 0
theorem pR.bnd {g : Nat} (hg : g ≤ 5) {a : UInt64} (h : pR g a) : FP.Core.DFin a ∧ (FP.Core.zval FP.Core.b64 (FP.Core.val64 a)).natAbs ≤ 49151600 * FP.Core.one64 := by
  obtain ⟨n, h1, h2⟩ := h
  refine ⟨h1.1, Nat.le_trans (fx_bnd h1 h2) (Nat.mul_le_mul_right _ ?_)⟩
  rcases (show g = 0 ∨ g = 1 ∨ g = 2 ∨ g = 3 ∨ g = 4 ∨ g = 5 by omega) with rfl | rfl | rfl | rfl | rfl | rfl <;> decide
theorem lnO.bnd {a : UInt64} (h : lnO a) : FP.Core.DFin a ∧ (FP.Core.zval FP.Core.b64 (FP.Core.val64 a)).natAbs ≤ 100 * FP.Core.one64 := by
  obtain ⟨n, h1, h2, h3⟩ := h
  exact ⟨h1.1, fx_bnd h1 (by rw [show (2 : Nat) ^ 3 = 8 from rfl]; omega)⟩
theorem fin_mul {A B : Nat} {x y : UInt64} (hx : FP.Core.DFin x ∧ (FP.Core.zval FP.Core.b64 (FP.Core.val64 x)).natAbs ≤ A * FP.Core.one64) (hy : FP.Core.DFin y ∧ (FP.Core.zval FP.Core.b64 (FP.Core.val64 y)).natAbs ≤ B * FP.Core.one64) (h : A * B < 2 ^ 53) : FP.Core.DFin (FP.dmul x y) := (fx_mle hx.1 hy.1 hx.2 hy.2 h).1
set_option maxHeartbeats 4000000 in
set_option maxRecDepth 100000 in
theorem m_No_covers (l : Launch) (G : EG) (S0 : Nat) (w : hp_M) (ms : MS) (d : DS) (hp' : ePic G ms d w) (hv0 : vOk d) (k : Nat) (hk : k < 14) (hkt : sTh d k = true) (hk0 : ¬ sNi d k 0 = 0) (g : Nat) (hg5 : g ≤ 5) (a b : UInt64) (ha : pR g a) (hb' : pR g b) : Met l y_No_covers w_No_covers (rl 0 0 0) (eP G S0 w [.ref (mAd ms k 0), .double a, .double b]) (va_Qi (fun r z => r = bI (covB (sNi d k 0) (sNd d k 0) (sNd d k 1) a b) ∧ z = w) (eW G S0) (hp_A S0)) 0 0 (hp_A S0) := by
  refine Met.ofW (cc := b_No_covers) (maxL := 5) (ret := (some .boolean)) (by decide) rfl ?_
  intro p e s m args below meth c s₁ B hml hv
  obtain ⟨rfl, hE, hI, hz⟩ := hv
  have hx := B.exec
  have hb := B.bytes
  have hr := B.returns
  have hts := atoms_spec (ws := w_No_covers) B.pre
  have hg : ∀ w ∈ gw, w.before _ s = true := fun w h => hts w (List.mem_cons_of_mem _ h)
  have hown : s.vm.findClass "SceneEasel$Node" = some m.cls := findClass_of_methodNamed B.named
  have hlocks := B.notSynchronized
  have hK := hE.K
  have hS : va_S (hp_A S0) s.heap s.heap [] := va_S.rf
  have hl := lv_entry ([.ref (mAd ms k 0), .double a, .double b]) (n := 5) (Nat.le_of_ble_eq_true rfl)
  rw [lg_entry_eq]
  generalize (lg_sl ([.ref (mAd ms k 0), .double a, .double b]) ++ List.replicate (5 - (lg_sl ([.ref (mAd ms k 0), .double a, .double b])).length) Slot.unset).toArray = ls at hl ⊢
  have hl : lv_has ls 5 [(0, .ref (mAd ms k 0)), (1, .double a), (3, .double b)] := hl
  have hn := hp'.node hk hkt
  obtain ⟨⟨c0, hc0, ekd⟩, -, -, -, -, -, hP, hQ, -⟩ := hv0 k hk hkt
  have fa := ha.bnd hg5
  have fb := hb'.bnd hg5
  have fp := hP.bnd
  have fq := hQ.bnd
  refine lv_aload_n hx hb d_No_covers_0 rfl (lv_at hl 0 rfl) ?_
  refine hp_get (ci := 1) (v := .int (sNi d k 0)) (C := R_No) (T := F_No) (N := 20) hx hb hg i_No hown hK hI hn rfl 1 (by decide) (hg _ k_168) (fun _ h9 => h9) rfl d_No_covers_1 ?_
  have h3 : sNi d k 0 = 1 ∨ sNi d k 0 = 2 ∨ sNi d k 0 = 3 := by
    rcases (show c0 = 0 ∨ c0 = 1 ∨ c0 = 2 ∨ c0 = 3 by omega) with rfl | rfl | rfl | rfl
    · exact absurd ekd hk0
    · exact Or.inl ekd
    · exact Or.inr (Or.inl ekd)
    · exact Or.inr (Or.inr ekd)
  rcases h3 with hkd | hkd | hkd
  · refine lv_lookup (off := 28) (tgt := 32) hx hb d_No_covers_4 (by decide) (by rw [hkd]; decide) (by decide) ?_
    have hcov : covB (sNi d k 0) (sNd d k 0) (sNd d k 1) a b = decide (dle FP.dconst0 a ∧ dle a (sNd d k 0) ∧ dle FP.dconst0 b ∧ dle b (sNd d k 1)) := by unfold covB; rw [if_pos hkd]
    refine lv_dconst0 hx hb d_No_covers_32 ?_
    refine lv_dload_n hx hb d_No_covers_33 rfl (lv_at hl 1 rfl) ?_
    refine lv_dcmp hx hb d_No_covers_34 ?_
    refine lv_if_gt (tgt := 66) hx hb d_No_covers_35 (by decide) (fun q0 => ?_) (fun q0 => ?_)
    · refine lv_iconst (v := 0) hx hb d_No_covers_66 (by decide) ?_
      exact W.zret (v := 0) hx hb hr rfl (fun t ht hW => ⟨⟨0, w, rfl, ⟨by rw [hcov, decide_eq_false (fun h => dgt_no q0 h.1)]; rfl, rfl⟩, eWo ht hI⟩, hS.F ht⟩) hS.2.2 d_No_covers_67
    · refine lv_dload_n hx hb d_No_covers_38 rfl (lv_at hl 1 rfl) ?_
      refine lv_aload_n hx hb d_No_covers_39 rfl (lv_at hl 0 rfl) ?_
      refine hp_get (ci := 1) (v := .double (sNd d k 0)) (C := R_No) (T := F_No) (N := 20) hx hb hg i_No hown hK hI hn rfl 8 (by decide) (hg _ k_181) (fun _ h9 => h9) rfl d_No_covers_40 ?_
      refine lv_dcmp hx hb d_No_covers_43 ?_
      refine lv_if_gt (tgt := 66) hx hb d_No_covers_44 (by decide) (fun q1 => ?_) (fun q1 => ?_)
      · refine lv_iconst (v := 0) hx hb d_No_covers_66 (by decide) ?_
        exact W.zret (v := 0) hx hb hr rfl (fun t ht hW => ⟨⟨0, w, rfl, ⟨by rw [hcov, decide_eq_false (fun h => dgt_no q1 h.2.1)]; rfl, rfl⟩, eWo ht hI⟩, hS.F ht⟩) hS.2.2 d_No_covers_67
      · refine lv_dconst0 hx hb d_No_covers_47 ?_
        refine lv_dload_n hx hb d_No_covers_48 rfl (lv_at hl 2 rfl) ?_
        refine lv_dcmp hx hb d_No_covers_49 ?_
        refine lv_if_gt (tgt := 66) hx hb d_No_covers_50 (by decide) (fun q2 => ?_) (fun q2 => ?_)
        · refine lv_iconst (v := 0) hx hb d_No_covers_66 (by decide) ?_
          exact W.zret (v := 0) hx hb hr rfl (fun t ht hW => ⟨⟨0, w, rfl, ⟨by rw [hcov, decide_eq_false (fun h => dgt_no q2 h.2.2.1)]; rfl, rfl⟩, eWo ht hI⟩, hS.F ht⟩) hS.2.2 d_No_covers_67
        · refine lv_dload_n hx hb d_No_covers_53 rfl (lv_at hl 2 rfl) ?_
          refine lv_aload_n hx hb d_No_covers_54 rfl (lv_at hl 0 rfl) ?_
          refine hp_get (ci := 1) (v := .double (sNd d k 1)) (C := R_No) (T := F_No) (N := 20) hx hb hg i_No hown hK hI hn rfl 9 (by decide) (hg _ k_183) (fun _ h9 => h9) rfl d_No_covers_55 ?_
          refine lv_dcmp hx hb d_No_covers_58 ?_
          refine lv_if_gt (tgt := 66) hx hb d_No_covers_59 (by decide) (fun q3 => ?_) (fun q3 => ?_)
          · refine lv_iconst (v := 0) hx hb d_No_covers_66 (by decide) ?_
            exact W.zret (v := 0) hx hb hr rfl (fun t ht hW => ⟨⟨0, w, rfl, ⟨by rw [hcov, decide_eq_false (fun h => dgt_no q3 h.2.2.2)]; rfl, rfl⟩, eWo ht hI⟩, hS.F ht⟩) hS.2.2 d_No_covers_67
          · refine lv_iconst (v := 1) hx hb d_No_covers_62 (by decide) ?_
            refine lv_goto (tgt := 67) hx hb d_No_covers_63 (by decide) ?_
            exact W.zret (v := 1) hx hb hr rfl (fun t ht hW => ⟨⟨1, w, rfl, ⟨by rw [hcov, decide_eq_true ⟨dgt_le q0, dgt_le q1, dgt_le q2, dgt_le q3⟩]; rfl, rfl⟩, eWo ht hI⟩, hS.F ht⟩) hS.2.2 d_No_covers_67
  · refine lv_lookup (off := 64) (tgt := 68) hx hb d_No_covers_4 (by decide) (by rw [hkd]; decide) (by decide) ?_
    have hcov : covB (sNi d k 0) (sNd d k 0) (sNd d k 1) a b = decide (dle (FP.dadd (FP.dmul a a) (FP.dmul b b)) (FP.dmul (sNd d k 0) (sNd d k 0))) := by unfold covB; rw [if_neg (by rw [hkd]; decide), if_pos hkd]
    refine lv_dload_n hx hb d_No_covers_68 rfl (lv_at hl 1 rfl) ?_
    refine lv_dload_n hx hb d_No_covers_69 rfl (lv_at hl 1 rfl) ?_
    refine lv_dmul hx hb d_No_covers_70 (fx_nmul fa.1 fa.1) ?_
    refine lv_dload_n hx hb d_No_covers_71 rfl (lv_at hl 2 rfl) ?_
    refine lv_dload_n hx hb d_No_covers_72 rfl (lv_at hl 2 rfl) ?_
    refine lv_dmul hx hb d_No_covers_73 (fx_nmul fb.1 fb.1) ?_
    refine lv_dadd hx hb d_No_covers_74 (fx_nadd (fin_mul fa fa (by decide)) (fin_mul fb fb (by decide))) ?_
    refine lv_aload_n hx hb d_No_covers_75 rfl (lv_at hl 0 rfl) ?_
    refine hp_get (ci := 1) (v := .double (sNd d k 0)) (C := R_No) (T := F_No) (N := 20) hx hb hg i_No hown hK hI hn rfl 8 (by decide) (hg _ k_181) (fun _ h9 => h9) rfl d_No_covers_76 ?_
    refine lv_aload_n hx hb d_No_covers_79 rfl (lv_at hl 0 rfl) ?_
    refine hp_get (ci := 1) (v := .double (sNd d k 0)) (C := R_No) (T := F_No) (N := 20) hx hb hg i_No hown hK hI hn rfl 8 (by decide) (hg _ k_181) (fun _ h9 => h9) rfl d_No_covers_80 ?_
    refine lv_dmul hx hb d_No_covers_83 (fx_nmul fp.1 fp.1) ?_
    refine lv_dcmp hx hb d_No_covers_84 ?_
    refine lv_if_gt (tgt := 92) hx hb d_No_covers_85 (by decide) (fun q0 => ?_) (fun q0 => ?_)
    · refine lv_iconst (v := 0) hx hb d_No_covers_92 (by decide) ?_
      exact W.zret (v := 0) hx hb hr rfl (fun t ht hW => ⟨⟨0, w, rfl, ⟨by rw [hcov, decide_eq_false (fun h => dgt_no q0 h)]; rfl, rfl⟩, eWo ht hI⟩, hS.F ht⟩) hS.2.2 d_No_covers_93
    · refine lv_iconst (v := 1) hx hb d_No_covers_88 (by decide) ?_
      refine lv_goto (tgt := 93) hx hb d_No_covers_89 (by decide) ?_
      exact W.zret (v := 1) hx hb hr rfl (fun t ht hW => ⟨⟨1, w, rfl, ⟨by rw [hcov, decide_eq_true (dgt_le q0)]; rfl, rfl⟩, eWo ht hI⟩, hS.F ht⟩) hS.2.2 d_No_covers_93
  · refine lv_lookup (off := 90) (tgt := 94) hx hb d_No_covers_4 (by decide) (by rw [hkd]; decide) (by decide) ?_
    have hcov : covB (sNi d k 0) (sNd d k 0) (sNd d k 1) a b = decide (dle FP.dconst0 a ∧ dle FP.dconst0 b ∧ dle (FP.dadd (FP.dmul a (sNd d k 1)) (FP.dmul b (sNd d k 0))) (FP.dmul (sNd d k 0) (sNd d k 1))) := by unfold covB; rw [if_neg (by rw [hkd]; decide), if_neg (by rw [hkd]; decide)]
    refine lv_dconst0 hx hb d_No_covers_94 ?_
    refine lv_dload_n hx hb d_No_covers_95 rfl (lv_at hl 1 rfl) ?_
    refine lv_dcmp hx hb d_No_covers_96 ?_
    refine lv_if_gt (tgt := 136) hx hb d_No_covers_97 (by decide) (fun q0 => ?_) (fun q0 => ?_)
    · refine lv_iconst (v := 0) hx hb d_No_covers_136 (by decide) ?_
      exact W.zret (v := 0) hx hb hr rfl (fun t ht hW => ⟨⟨0, w, rfl, ⟨by rw [hcov, decide_eq_false (fun h => dgt_no q0 h.1)]; rfl, rfl⟩, eWo ht hI⟩, hS.F ht⟩) hS.2.2 d_No_covers_137
    · refine lv_dconst0 hx hb d_No_covers_100 ?_
      refine lv_dload_n hx hb d_No_covers_101 rfl (lv_at hl 2 rfl) ?_
      refine lv_dcmp hx hb d_No_covers_102 ?_
      refine lv_if_gt (tgt := 136) hx hb d_No_covers_103 (by decide) (fun q1 => ?_) (fun q1 => ?_)
      · refine lv_iconst (v := 0) hx hb d_No_covers_136 (by decide) ?_
        exact W.zret (v := 0) hx hb hr rfl (fun t ht hW => ⟨⟨0, w, rfl, ⟨by rw [hcov, decide_eq_false (fun h => dgt_no q1 h.2.1)]; rfl, rfl⟩, eWo ht hI⟩, hS.F ht⟩) hS.2.2 d_No_covers_137
      · refine lv_dload_n hx hb d_No_covers_106 rfl (lv_at hl 1 rfl) ?_
        refine lv_aload_n hx hb d_No_covers_107 rfl (lv_at hl 0 rfl) ?_
        refine hp_get (ci := 1) (v := .double (sNd d k 1)) (C := R_No) (T := F_No) (N := 20) hx hb hg i_No hown hK hI hn rfl 9 (by decide) (hg _ k_183) (fun _ h9 => h9) rfl d_No_covers_108 ?_
        refine lv_dmul hx hb d_No_covers_111 (fx_nmul fa.1 fq.1) ?_
        refine lv_dload_n hx hb d_No_covers_112 rfl (lv_at hl 2 rfl) ?_
        refine lv_aload_n hx hb d_No_covers_113 rfl (lv_at hl 0 rfl) ?_
        refine hp_get (ci := 1) (v := .double (sNd d k 0)) (C := R_No) (T := F_No) (N := 20) hx hb hg i_No hown hK hI hn rfl 8 (by decide) (hg _ k_181) (fun _ h9 => h9) rfl d_No_covers_114 ?_
        refine lv_dmul hx hb d_No_covers_117 (fx_nmul fb.1 fp.1) ?_
        refine lv_dadd hx hb d_No_covers_118 (fx_nadd (fin_mul fa fq (by decide)) (fin_mul fb fp (by decide))) ?_
        refine lv_aload_n hx hb d_No_covers_119 rfl (lv_at hl 0 rfl) ?_
        refine hp_get (ci := 1) (v := .double (sNd d k 0)) (C := R_No) (T := F_No) (N := 20) hx hb hg i_No hown hK hI hn rfl 8 (by decide) (hg _ k_181) (fun _ h9 => h9) rfl d_No_covers_120 ?_
        refine lv_aload_n hx hb d_No_covers_123 rfl (lv_at hl 0 rfl) ?_
        refine hp_get (ci := 1) (v := .double (sNd d k 1)) (C := R_No) (T := F_No) (N := 20) hx hb hg i_No hown hK hI hn rfl 9 (by decide) (hg _ k_183) (fun _ h9 => h9) rfl d_No_covers_124 ?_
        refine lv_dmul hx hb d_No_covers_127 (fx_nmul fp.1 fq.1) ?_
        refine lv_dcmp hx hb d_No_covers_128 ?_
        refine lv_if_gt (tgt := 136) hx hb d_No_covers_129 (by decide) (fun q2 => ?_) (fun q2 => ?_)
        · refine lv_iconst (v := 0) hx hb d_No_covers_136 (by decide) ?_
          exact W.zret (v := 0) hx hb hr rfl (fun t ht hW => ⟨⟨0, w, rfl, ⟨by rw [hcov, decide_eq_false (fun h => dgt_no q2 h.2.2)]; rfl, rfl⟩, eWo ht hI⟩, hS.F ht⟩) hS.2.2 d_No_covers_137
        · refine lv_iconst (v := 1) hx hb d_No_covers_132 (by decide) ?_
          refine lv_goto (tgt := 137) hx hb d_No_covers_133 (by decide) ?_
          exact W.zret (v := 1) hx hb hr rfl (fun t ht hW => ⟨⟨1, w, rfl, ⟨by rw [hcov, decide_eq_true ⟨dgt_le q0, dgt_le q1, dgt_le q2⟩]; rfl, rfl⟩, eWo ht hI⟩, hS.F ht⟩) hS.2.2 d_No_covers_137
set_option maxHeartbeats 4000000 in
set_option maxRecDepth 100000 in
theorem m_No_inTile (l : Launch) (G : EG) (S0 : Nat) (w : hp_M) (ms : MS) (d : DS) (hp' : ePic G ms d w) (hv0 : vOk d) (k : Nat) (hk : k < 14) (hkt : sTh d k = true) (g : Nat) (hg5 : g ≤ 5) (a : UInt64) (ha : pR g a) : Met l y_No_inTile w_No_inTile (rl 1 0 0) (eP G S0 w [.ref (mAd ms k 0), .double a]) (va_Qd (fun r z => r = tilF (sNd d k 4) a ∧ z = w) (eW G S0) (hp_A S0)) 0 0 (hp_A S0) := by
  refine Met.ofW (cc := b_No_inTile) (maxL := 3) (ret := (some .double)) (by decide) rfl ?_
  intro p e s m args below meth c s₁ B hml hv
  obtain ⟨rfl, hE, hI, hz⟩ := hv
  have hx := B.exec
  have hb := B.bytes
  have hr := B.returns
  have hts := atoms_spec (ws := w_No_inTile) B.pre
  have hg : ∀ w ∈ gw, w.before _ s = true := fun w h => hts w (List.mem_cons_of_mem _ h)
  have hown : s.vm.findClass "SceneEasel$Node" = some m.cls := findClass_of_methodNamed B.named
  have hlocks := B.notSynchronized
  have hK := hE.K
  have hS : va_S (hp_A S0) s.heap s.heap [] := va_S.rf
  have hl := lv_entry ([.ref (mAd ms k 0), .double a]) (n := 3) (Nat.le_of_ble_eq_true rfl)
  rw [lg_entry_eq]
  generalize (lg_sl ([.ref (mAd ms k 0), .double a]) ++ List.replicate (3 - (lg_sl ([.ref (mAd ms k 0), .double a])).length) Slot.unset).toArray = ls at hl ⊢
  have hl : lv_has ls 3 [(0, .ref (mAd ms k 0)), (1, .double a)] := hl
  have hn := hp'.node hk hkt
  have hst := (hv0 k hk hkt).2.2.2.2.2.2.2.2.2.2.1
  obtain ⟨t1, t2, t3, -⟩ := tilF_ok hg5 ha hst
  have hge : ¬ Op.cmpValue (FP.dcmp (sNd d k 4) FP.dconst1) .l < 0 := by
    obtain ⟨n, n1, n2, n3⟩ := hst
    rw [cv_l_lt, fx_cmp n1 (fx_up 3 fx_c1)]
    rintro (h | h)
    · rw [Option.some.injEq, FP.Core.compare_lt_iff] at h
      rw [show ((2 ^ 3 : Nat) : Int) = 8 from rfl] at h
      omega
    · cases h
  refine lv_aload_n hx hb d_No_inTile_0 rfl (lv_at hl 0 rfl) ?_
  refine hp_get (ci := 1) (v := .double (sNd d k 4)) (C := R_No) (T := F_No) (N := 20) hx hb hg i_No hown hK hI hn rfl 15 (by decide) (hg _ k_195) (fun _ h9 => h9) rfl d_No_inTile_1 ?_
  refine lv_dconst1 hx hb d_No_inTile_4 ?_
  refine lv_dcmp hx hb d_No_inTile_5 ?_
  refine lv_if_lt (tgt := 28) hx hb d_No_inTile_6 (by decide) (fun c9 => absurd c9 (fun h => hge h)) (fun c9 => ?_)
  refine lv_dload_n hx hb d_No_inTile_9 rfl (lv_at hl 1 rfl) ?_
  refine lv_aload_n hx hb d_No_inTile_10 rfl (lv_at hl 0 rfl) ?_
  refine hp_get (ci := 1) (v := .double (sNd d k 4)) (C := R_No) (T := F_No) (N := 20) hx hb hg i_No hown hK hI hn rfl 15 (by decide) (hg _ k_195) (fun _ h9 => h9) rfl d_No_inTile_11 ?_
  refine lv_dload_n hx hb d_No_inTile_14 rfl (lv_at hl 1 rfl) ?_
  refine lv_aload_n hx hb d_No_inTile_15 rfl (lv_at hl 0 rfl) ?_
  refine hp_get (ci := 1) (v := .double (sNd d k 4)) (C := R_No) (T := F_No) (N := 20) hx hb hg i_No hown hK hI hn rfl 15 (by decide) (hg _ k_195) (fun _ h9 => h9) rfl d_No_inTile_16 ?_
  refine lv_ddiv hx hb d_No_inTile_19 t2 ?_
  refine ec_d (va_runSN (As := [.double (FP.ddiv a (sNd d k 4))]) (rest := [.double (sNd d k 4), .double a]) ⟨hx, hb, hml, hown, hts⟩ (m_Ea_floorOf l G S0 w (FP.ddiv a (sNd d k 4))) ⟨va_cnB 1 hts (gw_code k_651) rfl rfl rfl (hE.Nw q_665) (hg _ k_60) (by decide +kernel) ⟨Nat.le_of_ble_eq_true rfl, Nat.le_of_ble_eq_true rfl⟩, hg _ k_650, trivial⟩ (eB.preS hE hI hS hz) rfl rfl hl.1 rfl (lv_room (Nat.le_of_ble_eq_true rfl)) d_No_inTile_20 ⟨Nat.le_of_ble_eq_true rfl, Nat.le_of_ble_eq_true rfl⟩) hS (fun fl w_1 H locs ew_1 hI hsz hS => ?_)
  obtain ⟨efl, ew_1⟩ := ew_1
  have ew_1 := ew_1.symm
  subst ew_1
  have efl := efl.symm
  subst efl
  refine lv_dmul hx hb d_No_inTile_23 t3 ?_
  refine lv_dsub hx hb d_No_inTile_24 t1.nn ?_
  refine lv_goto (tgt := 29) hx hb d_No_inTile_25 (by decide) ?_
  exact W.dret (v := (FP.dsub a (FP.dmul (sNd d k 4) (fx_fl (FP.ddiv a (sNd d k 4)))))) hx hb hr (fun t ht hW => ⟨⟨(FP.dsub a (FP.dmul (sNd d k 4) (fx_fl (FP.ddiv a (sNd d k 4))))), w, rfl, ⟨rfl, rfl⟩, eWo ht hI⟩, hS.F ht⟩) hS.2.2 d_No_inTile_29
/-- settled values are good -/
def rdy (d : DS) (nx : Nat → Nat → UInt64) (ns : Nat → Int32) : Prop := ∀ k, k < 14 → sTh d k = true → nxO (nx k 0) ∧ nxO (nx k 1) ∧ s5 (ns k)
def TAc (l : Launch) (G : EG) (S0 : Nat) (w : hp_M) (ms : MS) (d : DS) (dp : Nat → Nat) (f : Nat) : Prop :=
  ∀ k, k < 14 → sTh d k = true → k ≠ 0 → dp k + f = 5 → ∀ a b, pOk (dp k - 1) a → pOk (dp k - 1) b → Met l y_No_topAt w_No_topAt (rl (3 * f + 6) 0 0) (eP G S0 w [.ref (mAd ms k 0), .double a, .double b]) (va_Qo (fun r z => r = (tA d (mNx ms) (fun j => mNi ms j 0) (f + 1) k a b).map (fun c => mAd ms c 0) ∧ z = w) (eW G S0) (hp_A S0)) 0 0 (hp_A S0)
theorem tOk.child {d : DS} {dp : Nat → Nat} (h : tOk d dp) {k c : Nat} (hk : k < 14) (ht : sTh d k = true) (hc : c ∈ sCh d k) : c < 14 ∧ sTh d c = true ∧ sPa d c = some k ∧ c ≠ 0 ∧ dp c = dp k + 1 ∧ dp c ≤ 5 := by
  obtain ⟨h1, h2, h3⟩ := (h.2.2.2.2.2.1 k hk ht).2.1 c hc
  have h0 : c ≠ 0 := by
    intro e
    subst e
    rw [h.2.1] at h3
    cases h3
  obtain ⟨g, -, e2, -, -, e5, -⟩ := h.2.2.2.2.1 c h1 h2 h0
  rw [h3] at e2
  cases e2
  exact ⟨h1, h2, h3, h0, e5, h.2.2.2.2.2.2 c h1 h2⟩
/-- the list of a node's children, where there are some -/
theorem ePic.list {G : EG} {m : MS} {d : DS} {w : hp_M} (h : ePic G m d w) {k : Nat} (hk : k < 14) (ht : sTh d k = true) (hlen : 0 < (sCh d k).length) : w (mAd m k 1) = some (oAl (mMc m k) (mAd m k 4) (sCh d k).length) ∧ w (mAd m k 4) = some (aO G (mCap m k) (elF m d k)) ∧ (sCh d k).length ≤ mCap m k ∧ mCap m k < 2 ^ 31 := by
  obtain ⟨-, hal, hel, -, -, -, hlc, hcap⟩ := h.2.2.2.1 k hk ht
  have hc0 : mCap m k ≠ 0 := by omega
  rw [show elA G m k = mAd m k 4 from if_neg hc0] at hal
  exact ⟨hal, hel hc0, hlc, by omega⟩
set_option maxHeartbeats 4000000 in
set_option maxRecDepth 100000 in
theorem m_No_firstHas (l : Launch) (G : EG) (S0 : Nat) (w : hp_M) (ms : MS) (d : DS) (dp : Nat → Nat) (hp' : ePic G ms d w) (htr : tOk d dp) (f : Nat) (hTA : TAc l G S0 w ms d dp f) (k : Nat) (hk : k < 14) (hkt : sTh d k = true) (hdk : dp k + (f + 1) = 5) (a b : UInt64) (ha : pOk (dp k) a) (hb' : pOk (dp k) b) : Met l y_No_firstHas w_No_firstHas (rl (3 * f + 7) 0 0) (eP G S0 w [.ref (mAd ms k 0), .double a, .double b]) (va_Qi (fun r z => r = bI (fstH (sCh d k) (fun x => tA d (mNx ms) (fun j => mNi ms j 0) (f + 1) x a b)) ∧ z = w) (eW G S0) (hp_A S0)) 0 0 (hp_A S0) := by
  refine Met.ofW (cc := b_No_firstHas) (maxL := 5) (ret := (some .boolean)) (by decide) rfl ?_
  intro p e s m args below meth c s₁ B hml hv
  obtain ⟨rfl, hE, hI, hz⟩ := hv
  have hx := B.exec
  have hb := B.bytes
  have hr := B.returns
  have hts := atoms_spec (ws := w_No_firstHas) B.pre
  have hg : ∀ w ∈ gw, w.before _ s = true := fun w h => hts w (List.mem_cons_of_mem _ h)
  have hown : s.vm.findClass "SceneEasel$Node" = some m.cls := findClass_of_methodNamed B.named
  have hlocks := B.notSynchronized
  have hK := hE.K
  have hS : va_S (hp_A S0) s.heap s.heap [] := va_S.rf
  have hl := lv_entry ([.ref (mAd ms k 0), .double a, .double b]) (n := 5) (Nat.le_of_ble_eq_true rfl)
  rw [lg_entry_eq]
  generalize (lg_sl ([.ref (mAd ms k 0), .double a, .double b]) ++ List.replicate (5 - (lg_sl ([.ref (mAd ms k 0), .double a, .double b])).length) Slot.unset).toArray = ls at hl ⊢
  have hl : lv_has ls 5 [(0, .ref (mAd ms k 0)), (1, .double a), (3, .double b)] := hl
  have hn := hp'.node hk hkt
  obtain ⟨-, hal0, -, -, -, -, hlc0, hcap0⟩ := hp'.2.2.2.1 k hk hkt
  refine lv_aload_n hx hb d_No_firstHas_0 rfl (lv_at hl 0 rfl) ?_
  refine hp_get (ci := 1) (v := .ref (mAd ms k 1)) (C := R_No) (T := F_No) (N := 20) hx hb hg i_No hown hK hI hn rfl 3 (by decide) (hg _ k_171) (fun _ h9 => h9) rfl d_No_firstHas_1 ?_
  refine ec_i (va_runV (As := []) (rest := []) ⟨hx, hb, hml, hown, hts⟩ (m_Al_isEmpty l G S0 w (mAd ms k 1) (elA G ms k) (sCh d k).length (by omega) hal0) (cwV 0 hts (gw_V k_670 k_671 k_672 k_64 k_673) rfl rfl rfl (by decide +kernel) ⟨(by show 10 + 0 + 1 ≤ 10 + (3 * f + 7); omega), (by show 8 + (1 + 11) + (100 + 60 * 0) ≤ 100 + 60 * (3 * f + 7); omega)⟩) (eB.preV hE hI hS hz rfl hal0) rfl rfl hl.1 rfl (lv_room (Nat.le_of_ble_eq_true rfl)) d_No_firstHas_4 ⟨Nat.le_of_ble_eq_true rfl, Nat.le_of_ble_eq_true rfl⟩) hS (fun ie w_1 H locs ew_1 hI hsz hS => ?_)
  obtain ⟨eie, ew_1⟩ := ew_1
  have ew_1 := ew_1.symm
  subst ew_1
  refine lv_if_ne (tgt := 33) hx hb d_No_firstHas_7 (by decide) (fun c1 => ?_) (fun c1 => ?_)
  · have hz0 : (sCh d k).length = 0 := by
      by_cases h : (sCh d k).length = 0
      · exact h
      · rw [if_neg h] at eie; exact absurd eie c1
    have hnil := List.eq_nil_of_length_eq_zero hz0
    refine lv_iconst (v := 0) hx hb d_No_firstHas_33 (by decide) ?_
    exact W.zret (v := 0) hx hb hr rfl (fun t ht hW => ⟨⟨0, w, rfl, ⟨by rw [hnil]; rfl, rfl⟩, eWo ht hI⟩, hS.F ht⟩) hS.2.2 d_No_firstHas_34
  · have hz0 : 0 < (sCh d k).length := by
      by_cases h : (sCh d k).length = 0
      · rw [if_pos h, c1] at eie; exact absurd eie (by decide)
      · omega
    obtain ⟨hal, hel, hlc, hcap⟩ := hp'.list hk hkt hz0
    obtain ⟨c1', c2', c3', c4', c5', c6'⟩ := htr.child hk hkt (List.getElem_mem hz0)
    have hnc := hp'.node c1' c2'
    refine lv_aload_n hx hb d_No_firstHas_10 rfl (lv_at hl 0 rfl) ?_
    refine hp_get (ci := 1) (v := .ref (mAd ms k 1)) (C := R_No) (T := F_No) (N := 20) hx hb hg i_No hown hK hI hn rfl 3 (by decide) (hg _ k_171) (fun _ h9 => h9) rfl d_No_firstHas_11 ?_
    refine lv_iconst (v := 0) hx hb d_No_firstHas_14 (by decide) ?_
    refine ec_o (va_runV (As := [.int (nI 0)]) (rest := []) ⟨hx, hb, hml, hown, hts⟩ (m_Al_get l G S0 w (mAd ms k 1) (mAd ms k 4) (sCh d k).length 0 (mCap ms k) (elF ms d k) hz0 hlc hcap hal hel) (cwV 1 hts (gw_V k_592 k_593 k_594 k_64 k_595) rfl rfl rfl (by decide +kernel) ⟨(by show 10 + 2 + 1 ≤ 10 + (3 * f + 7); omega), (by show 8 + (2 + 11) + (100 + 60 * 2) ≤ 100 + 60 * (3 * f + 7); omega)⟩) (eB.preV hE hI hS hz rfl hal) rfl rfl hl.1 rfl (lv_room (Nat.le_of_ble_eq_true rfl)) d_No_firstHas_15 ⟨Nat.le_of_ble_eq_true rfl, Nat.le_of_ble_eq_true rfl⟩) hS (fun gt w_2 H locs ew_2 hI hsz hS => ?_)
    obtain ⟨egt, ew_2⟩ := ew_2
    have ew_2 := ew_2.symm
    subst ew_2
    rw [elF_lt hz0] at egt
    subst egt
    refine va_castE hx hb hown (hg _ k_674) (hp_recv hK hI rfl hnc) d_No_firstHas_18 ?_
    refine lv_dload_n hx hb d_No_firstHas_21 rfl (lv_at hl 1 rfl) ?_
    refine lv_dload_n hx hb d_No_firstHas_22 rfl (lv_at hl 2 rfl) ?_
    refine ec_o (va_runV (As := [.double a, .double b]) (rest := []) ⟨hx, hb, hml, hown, hts⟩ (hTA ((sCh d k)[0]) c1' c2' c4' (by omega) a b (by rw [c5']; exact ha) (by rw [c5']; exact hb')) (cwV 2 hts (gw_V k_675 k_677 k_30 k_61 k_678) rfl rfl rfl (by decide +kernel) ⟨(by show 10 + (3 * f + 6) + 1 ≤ 10 + (3 * f + 7); omega), (by show 8 + (12 + 11) + (100 + 60 * (3 * f + 6)) ≤ 100 + 60 * (3 * f + 7); omega)⟩) (eB.preV hE hI hS hz rfl hnc) rfl rfl hl.1 rfl (lv_room (Nat.le_of_ble_eq_true rfl)) d_No_firstHas_23 ⟨Nat.le_of_ble_eq_true rfl, Nat.le_of_ble_eq_true rfl⟩) hS (fun tp w_3 H locs ew_3 hI hsz hS => ?_)
    obtain ⟨etp, ew_3⟩ := ew_3
    have ew_3 := ew_3.symm
    subst ew_3
    have hfs : fstH (sCh d k) (fun x => tA d (mNx ms) (fun j => mNi ms j 0) (f + 1) x a b) = (tA d (mNx ms) (fun j => mNi ms j 0) (f + 1) ((sCh d k)[0]) a b).isSome := by
      unfold fstH
      rw [List.getElem?_eq_getElem hz0]
    cases hT : tA d (mNx ms) (fun j => mNi ms j 0) (f + 1) ((sCh d k)[0]) a b with
    | none =>
      rw [hT] at etp hfs
      have etp : tp = none := etp
      subst etp
      refine lv_ifnullN (tgt := 33) hx hb d_No_firstHas_26 (by decide) ?_
      refine lv_iconst (v := 0) hx hb d_No_firstHas_33 (by decide) ?_
      exact W.zret (v := 0) hx hb hr rfl (fun t ht hW => ⟨⟨0, w, rfl, ⟨by rw [hfs]; rfl, rfl⟩, eWo ht hI⟩, hS.F ht⟩) hS.2.2 d_No_firstHas_34
    | some x =>
      rw [hT] at etp hfs
      have etp : tp = some (mAd ms x 0) := etp
      subst etp
      refine lv_ifnull hx hb d_No_firstHas_26 ?_
      refine lv_iconst (v := 1) hx hb d_No_firstHas_29 (by decide) ?_
      refine lv_goto (tgt := 34) hx hb d_No_firstHas_30 (by decide) ?_
      exact W.zret (v := 1) hx hb hr rfl (fun t ht hW => ⟨⟨1, w, rfl, ⟨by rw [hfs]; rfl, rfl⟩, eWo ht hI⟩, hS.F ht⟩) hS.2.2 d_No_firstHas_34

/-! the model: the value of a property at a time -/
theorem T_mono {T : Nat → Int} {n : Nat} (h : ∀ j, j + 1 < n → T j < T (j + 1)) : ∀ {i j : Nat}, i < j → j < n → T i < T j := by
  intro i j hij hj
  induction j with
  | zero => exact absurd hij (Nat.not_lt_zero i)
  | succ j ih =>
    have h1 := h j hj
    rcases Nat.lt_or_ge i j with q | q
    · have := ih q (by omega)
      omega
    · rw [show i = j by omega]; exact h1
theorem kfF_eq {ft : Nat → UInt64} {T : Nat → Int} {u : UInt64} {U : Int} {n a : Nat} (hu : fx 3 U u) (hT : ∀ j, j < n → fx 3 (T j) (ft j)) (hm : ∀ j, j + 1 < n → T j < T (j + 1)) (han : a < n) (ha : a = 0 ∨ T a ≤ U) (hx : a + 1 < n → U < T (a + 1)) : kfF ft u n = a := by
  obtain ⟨h1, h2⟩ := kfF_spec hu n hT
  have h3 := kfF_lt ft u n (by omega)
  rcases Nat.lt_trichotomy (kfF ft u n) a with q | q | q
  · have := h2 a q han
    rcases ha with e | e <;> omega
  · exact q
  · have h4 := hx (by omega)
    have h5 : T (a + 1) ≤ T (kfF ft u n) := by
      rcases Nat.lt_or_ge (a + 1) (kfF ft u n) with r | r
      · exact Int.le_of_lt (T_mono hm r h3)
      · rw [show kfF ft u n = a + 1 by omega]; exact Int.le_refl _
    rcases h1 with e | e <;> omega
def bsF (d : DS) (k i : Nat) : UInt64 := if i = 0 then sNd d k 2 else if i = 1 then sNd d k 3 else if i = 2 then FP.i2d (sNi d k 4) else FP.i2d (sNi d k 1)
theorem mV.bs {X : XS} {d : DS} (h : mV X d) {k : Nat} (hk : k < 14) (ht : sTh d k = true) (h0 : k ≠ 0) {i : Nat} (hi : i < 4) : X.2.1 17 (k * 4 + i) = bsF d k i := by
  obtain ⟨-, -, b3, b4, b5, b6⟩ := h.ba hk ht h0
  unfold bsF
  rcases (show i = 0 ∨ i = 1 ∨ i = 2 ∨ i = 3 by omega) with e | e | e | e
  · rw [e]; exact b3
  · rw [e]; exact b4
  · rw [e]; exact b5
  · rw [e]; exact b6
/-- the value of a property at a time -/
def vA (d : DS) (u : UInt64) (k i : Nat) : UInt64 := if i < 2 then kGlide (sTt d k i) (sTv d k i) (sTn d k i) u (bsF d k i) else kJump (sTt d k i) (sTv d k i) (sTn d k i) u (bsF d k i)
theorem vA_x {d : DS} {u : UInt64} {k i : Nat} (hi : i < 2) : vA d u k i = vX d u k i := by
  unfold vA vX
  rw [if_pos hi]
  rcases (show i = 0 ∨ i = 1 by omega) with e | e
  · rw [e]; rfl
  · rw [e]; rfl
theorem vA_s {d : DS} {u : UInt64} {k : Nat} : vA d u k 2 = vJ d u k 2 (FP.i2d (sNi d k 4)) := rfl
theorem vA_c {d : DS} {u : UInt64} {k : Nat} : vA d u k 3 = vJ d u k 3 (FP.i2d (sNi d k 1)) := rfl
theorem gl_fl {ft fv : Nat → UInt64} {n k : Nat} {u : UInt64} (h : tkOk ft fv n) (hu : tiO u) (ek : kfF ft u n = k) (hc : ¬ (n ≤ k + 1 ∨ dle u (ft k))) : ¬ dle (gSpan ft k) FP.dconst0 ∧ fx_mfl (FP.dmul (gQuo ft fv u k) fx_64) = fx_fl (FP.dmul (gQuo ft fv u k) fx_64) := by
  obtain ⟨T, V, h1, h2⟩ := h
  obtain ⟨U, hU, hU0, hU1⟩ := hu
  obtain ⟨s1, s2⟩ := kfF_spec hU n (fun j hj => (h1 j hj).1)
  rw [ek] at s1 s2
  have hk1 : k + 1 < n := by omega
  obtain ⟨t0, t00, t01, v0, v01⟩ := h1 k (by omega)
  obtain ⟨t1, t10, t11, v1, v11⟩ := h1 (k + 1) hk1
  have hT0 : T k < U := by
    have : ¬ U ≤ T k := fun q => hc (Or.inr ((fx_le hU t0).mpr q))
    omega
  have hT1 := s2 (k + 1) (by omega) hk1
  have a1 := fx_sub (by decide) t1 t0 (by omega)
  have a2 := fx_sub (by decide) v1 v0 (by omega)
  have a3 := fx_sub (by decide) hU t0 (by omega)
  have hmul : ((V (k + 1) - V k) * (U - T k)).natAbs ≤ 1600 * (T (k + 1) - T k).natAbs := by
    rw [Int.natAbs_mul]
    exact Nat.mul_le_mul (by omega) (by omega)
  have a4 := fx_mul (by decide) a2 a3 (by omega)
  have a5 := fx_qle (b := 200) a4 a1 (by omega) (by decide) (by rw [show (2 : Nat) ^ 3 = 8 from rfl, show (2 : Nat) ^ (3 + 3) = 64 from rfl]; omega)
  have c64 := fx_bnd (b := 64) fx_c64 (by decide)
  have a6 := fx_mle a5.1 fx_c64.1 a5.2 c64 (by decide)
  refine ⟨fun q => ?_, fx_mfl_eq a6.1 a6.2 (by decide)⟩
  have z0 : fx 3 0 FP.dconst0 := fx_up 3 (n := 0) (k := 0) (by have := fx_i2d 0; rw [i2d_z] at this; exact this)
  have := (fx_le a1 z0).mp q
  omega
set_option maxHeartbeats 4000000 in
set_option maxRecDepth 100000 in
theorem m_Mo_at (l : Launch) (G : EG) (S0 : Nat) (Q : Nat → Nat) (hQ : qInj Q) (X : XS) (w0 : hp_M) (d : DS) (hM : mV X d) (hv1 : vOk d) (k i : Nat) (hk : k < 14) (ht : sTh d k = true) (hk0 : k ≠ 0) (hi : i < 4) (u : UInt64) (hu : tiO u) : Met l y_Mo_at w_Mo_at (rl 1 0 0) (eP G S0 (mW G Q X w0) [.ref (Q 25), .int (nI k), .int (nI i), .double u]) (va_Qd (fun r z => r = vA d u k i ∧ z = mW G Q X w0) (eW G S0) (hp_A S0)) 0 0 (hp_A S0) := by
  refine Met.ofW (cc := b_Mo_at) (maxL := 16) (ret := (some .double)) (by decide) rfl ?_
  intro p e s m args below meth c s₁ B hml hv
  obtain ⟨rfl, hE, hI, hz⟩ := hv
  have hx := B.exec
  have hb := B.bytes
  have hr := B.returns
  have hts := atoms_spec (ws := w_Mo_at) B.pre
  have hg : ∀ w ∈ gw, w.before _ s = true := fun w h => hts w (List.mem_cons_of_mem _ h)
  have hown : s.vm.findClass "SceneEaselModel" = some m.cls := findClass_of_methodNamed B.named
  have hlocks := B.notSynchronized
  have hK := hE.K
  have hS : va_S (hp_A S0) s.heap s.heap [] := va_S.rf
  have hl := lv_entry ([.ref (Q 25), .int (nI k), .int (nI i), .double u]) (n := 16) (Nat.le_of_ble_eq_true rfl)
  rw [lg_entry_eq]
  generalize (lg_sl ([.ref (Q 25), .int (nI k), .int (nI i), .double u]) ++ List.replicate (16 - (lg_sl ([.ref (Q 25), .int (nI k), .int (nI i), .double u])).length) Slot.unset).toArray = ls at hl ⊢
  have hl : lv_has ls 16 [(0, .ref (Q 25)), (1, .int (nI k)), (2, .int (nI i)), (3, .double u)] := hl
  have htk := (hv1 k hk ht).2.2.2.2.2.2.2.2.2.2.2.1 i hi
  have h4 := hM.k4 hk ht hi
  have hkv := fun {j : Nat} (hj : j < sTn d k i) => hM.kv hk ht hi hj
  have hgok := gOk_of htk hu
  unfold vA
  obtain ⟨ft, eft⟩ : ∃ z9, z9 = sTt d k i := ⟨_, rfl⟩
  obtain ⟨fv, efv⟩ : ∃ z9, z9 = sTv d k i := ⟨_, rfl⟩
  obtain ⟨c0, ec0⟩ : ∃ z9, z9 = sTn d k i := ⟨_, rfl⟩
  have hkn := hM.kn hk ht hi
  rw [← eft, ← efv, ← ec0] at htk hgok ⊢
  rw [← ec0] at h4 hkn hkv
  rw [← eft, ← efv] at hkv
  refine lv_iload_n hx hb d_Mo_at_0 rfl (lv_at hl 1 rfl) ?_
  refine lv_iconst (v := 4) hx hb d_Mo_at_1 (by decide) ?_
  refine mv_imul hx hb k 4 rfl rfl d_Mo_at_2 ?_
  refine lv_iload_n hx hb d_Mo_at_3 rfl (lv_at hl 2 rfl) ?_
  refine mv_iadd hx hb (k * 4) i rfl rfl d_Mo_at_4 ?_
  refine lv_istore (lv' := [(5, .int (nI (k * 4 + i))), (0, .ref (Q 25)), (1, .int (nI k)), (2, .int (nI i)), (3, .double u)]) hx hb d_Mo_at_5 hl (by decide) rfl (fun ls hl => ?_)
  refine lv_aload_n hx hb d_Mo_at_7 rfl (lv_at hl 1 rfl) ?_
  refine hp_get (ci := 5) (v := .ref (Q 10)) (C := R_Mo) (T := F_Mo) (N := 28) hx hb hg i_Mo hown hK hI (mw_o hQ) rfl 10 (by decide) (hg _ k_783) (fun _ h9 => h9) rfl d_Mo_at_8 ?_
  refine lv_iload hx hb d_Mo_at_11 (lv_at hl 0 rfl) ?_
  refine mv_iald hx hb hK hI 0 (X.1 10) (mw_10 hQ) rfl (k * 4 + i) (rfl) (by omega) (by decide) d_Mo_at_13 ?_
  refine mv_i (y := nI c0) (hkn) ?_
  refine lv_istore (lv' := [(6, .int (nI c0)), (5, .int (nI (k * 4 + i))), (0, .ref (Q 25)), (1, .int (nI k)), (2, .int (nI i)), (3, .double u)]) hx hb d_Mo_at_14 hl (by decide) rfl (fun ls hl => ?_)
  refine lv_iload hx hb d_Mo_at_16 (lv_at hl 0 rfl) ?_
  refine mv_ine (tgt := 29) hx hb c0 rfl (by omega) d_Mo_at_18 (by decide) (fun c1 => ?_) (fun c1 => ?_)
  rotate_left
  · refine lv_aload_n hx hb d_Mo_at_21 rfl (lv_at hl 2 rfl) ?_
    refine hp_get (ci := 5) (v := .ref (Q 17)) (C := R_Mo) (T := F_Mo) (N := 28) hx hb hg i_Mo hown hK hI (mw_o hQ) rfl 17 (by decide) (hg _ k_790) (fun _ h9 => h9) rfl d_Mo_at_22 ?_
    refine lv_iload hx hb d_Mo_at_25 (lv_at hl 1 rfl) ?_
    refine mv_dald hx hb hK hI 1 (X.2.1 17) (mw_17 hQ) rfl (k * 4 + i) (rfl) (by omega) (by decide) d_Mo_at_27 ?_
    refine mv_d (y := bsF d k i) (hM.bs hk ht hk0 hi) ?_
    exact W.dret (v := (bsF d k i)) hx hb hr (fun t9 ht9 hW9 => ⟨⟨(bsF d k i), (mW G Q X w0), rfl, ⟨by unfold kGlide kJump; rw [if_pos c1, if_pos c1]; split <;> rfl, rfl⟩, eWo ht9 hI⟩, hS.F ht9⟩) hS.2.2 d_Mo_at_28
  refine lv_iconst (v := 0) hx hb d_Mo_at_29 (by decide) ?_
  refine lv_istore (lv' := [(7, .int 0), (6, .int (nI c0)), (5, .int (nI (k * 4 + i))), (0, .ref (Q 25)), (1, .int (nI k)), (2, .int (nI i)), (3, .double u)]) hx hb d_Mo_at_30 hl (by decide) rfl (fun ls hl => ?_)
  have htk' := htk
  obtain ⟨T, V, t1, t2⟩ := htk'
  have hu' := hu
  obtain ⟨U, hU, hU0, hU1⟩ := hu'
  refine W.midw (G := G) (S0 := S0) (fun (a : Nat) => a < c0 ∧ kfF ft u c0 = a) (fun (a : Nat) => (mW G Q X w0)) (fun (a : Nat) => [(7, .int (nI a)), (6, .int (nI c0)), (5, .int (nI (k * 4 + i))), (0, .ref (Q 25)), (1, .int (nI k)), (2, .int (nI i)), (3, .double u)]) (fun (a : Nat) => 0) (fun (a : Nat) => 0) 16 66 (fun (a : Nat) => []) ?_ (fun A => ?_)
  · rintro a ls H locs hP hl hI hS
    try dsimp only at hP hl hI ⊢
    obtain ⟨hac, hkf⟩ := hP
    refine lv_aload_n hx hb d_Mo_at_66 rfl (lv_at hl 3 rfl) ?_
    refine hp_get (ci := 5) (v := .ref (Q 19)) (C := R_Mo) (T := F_Mo) (N := 28) hx hb hg i_Mo hown hK hI (mw_o hQ) rfl 19 (by decide) (hg _ k_792) (fun _ h9 => h9) rfl d_Mo_at_67 ?_
    refine lv_iload hx hb d_Mo_at_70 (lv_at hl 2 rfl) ?_
    refine lv_iconst (v := 4) hx hb d_Mo_at_72 (by decide) ?_
    refine mv_imul hx hb (k * 4 + i) 4 rfl rfl d_Mo_at_73 ?_
    refine lv_iload hx hb d_Mo_at_74 (lv_at hl 0 rfl) ?_
    refine mv_iadd hx hb ((k * 4 + i) * 4) a rfl rfl d_Mo_at_76 ?_
    refine mv_dald hx hb hK hI 1 (X.2.1 19) (mw_19 hQ) rfl ((k * 4 + i) * 4 + a) (rfl) (by omega) (by decide) d_Mo_at_77 ?_
    refine mv_d (y := fv a) ((hkv hac).2) ?_
    refine lv_dstore (lv' := [(8, .double (fv a)), (7, .int (nI a)), (6, .int (nI c0)), (5, .int (nI (k * 4 + i))), (0, .ref (Q 25)), (1, .int (nI k)), (2, .int (nI i)), (3, .double u)]) hx hb d_Mo_at_78 hl (by decide) rfl (fun ls hl => ?_)
    refine lv_aload_n hx hb d_Mo_at_80 rfl (lv_at hl 4 rfl) ?_
    refine hp_get (ci := 5) (v := .ref (Q 18)) (C := R_Mo) (T := F_Mo) (N := 28) hx hb hg i_Mo hown hK hI (mw_o hQ) rfl 18 (by decide) (hg _ k_791) (fun _ h9 => h9) rfl d_Mo_at_81 ?_
    refine lv_iload hx hb d_Mo_at_84 (lv_at hl 3 rfl) ?_
    refine lv_iconst (v := 4) hx hb d_Mo_at_86 (by decide) ?_
    refine mv_imul hx hb (k * 4 + i) 4 rfl rfl d_Mo_at_87 ?_
    refine lv_iload hx hb d_Mo_at_88 (lv_at hl 1 rfl) ?_
    refine mv_iadd hx hb ((k * 4 + i) * 4) a rfl rfl d_Mo_at_90 ?_
    refine mv_dald hx hb hK hI 1 (X.2.1 18) (mw_18 hQ) rfl ((k * 4 + i) * 4 + a) (rfl) (by omega) (by decide) d_Mo_at_91 ?_
    refine mv_d (y := ft a) ((hkv hac).1) ?_
    refine lv_dstore (lv' := [(10, .double (ft a)), (8, .double (fv a)), (7, .int (nI a)), (6, .int (nI c0)), (5, .int (nI (k * 4 + i))), (0, .ref (Q 25)), (1, .int (nI k)), (2, .int (nI i)), (3, .double u)]) hx hb d_Mo_at_92 hl (by decide) rfl (fun ls hl => ?_)
    refine lv_iload_n hx hb d_Mo_at_94 rfl (lv_at hl 7 rfl) ?_
    refine lv_iconst (v := 1) hx hb d_Mo_at_95 (by decide) ?_
    refine mv_cgt (tgt := 115) hx hb i 1 rfl rfl (by omega) (by omega) d_Mo_at_96 (by decide) (fun c2 => ?_) (fun c2 => ?_)
    · refine lv_dload hx hb d_Mo_at_115 (lv_at hl 1 rfl) ?_
      exact W.dret (v := (fv a)) hx hb hr (fun t9 ht9 hW9 => ⟨⟨(fv a), (mW G Q X w0), rfl, ⟨by rw [if_neg (by omega)]; unfold kJump; rw [if_neg c1, hkf], rfl⟩, eWo ht9 hI⟩, hS.F ht9⟩) hS.2.2 d_Mo_at_117
    · refine lv_dload_n hx hb d_Mo_at_99 rfl (lv_at hl 8 rfl) ?_
      refine lv_dload hx hb d_Mo_at_100 (lv_at hl 0 rfl) ?_
      refine lv_dcmp hx hb d_Mo_at_102 ?_
      refine lv_if_le (tgt := 115) hx hb d_Mo_at_103 (by decide) (fun c3 => ?_) (fun c3 => ?_)
      · refine lv_dload hx hb d_Mo_at_115 (lv_at hl 1 rfl) ?_
        exact W.dret (v := (fv a)) hx hb hr (fun t9 ht9 hW9 => ⟨⟨(fv a), (mW G Q X w0), rfl, ⟨by rw [if_pos (by omega)]; unfold kGlide; rw [if_neg c1, hkf, if_pos (Or.inr (cv_g_le.mp c3))], rfl⟩, eWo ht9 hI⟩, hS.F ht9⟩) hS.2.2 d_Mo_at_117
      · have c3' : ¬ dle u (ft a) := fun h => c3 (cv_g_le.mpr h)
        refine lv_iload hx hb d_Mo_at_106 (lv_at hl 2 rfl) ?_
        refine lv_iconst (v := 1) hx hb d_Mo_at_108 (by decide) ?_
        refine mv_iadd hx hb a 1 rfl rfl d_Mo_at_109 ?_
        refine lv_iload hx hb d_Mo_at_110 (lv_at hl 3 rfl) ?_
        refine mv_cne (tgt := 118) hx hb (a + 1) c0 rfl rfl (by omega) (by omega) d_Mo_at_112 (by decide) (fun c4 => ?_) (fun c4 => ?_)
        · have hc : ¬ (c0 ≤ a + 1 ∨ dle u (ft a)) := fun h => h.elim (fun h => by omega) c3'
          obtain ⟨f1, f2⟩ := gl_fl htk hu hkf hc
          obtain ⟨g1, g2, g3, g4, g5⟩ := hgok a (by omega)
          obtain ⟨g6, g7, g8, g9⟩ := g5 f1
          refine lv_aload_n hx hb d_Mo_at_118 rfl (lv_at hl 5 rfl) ?_
          refine hp_get (ci := 5) (v := .ref (Q 18)) (C := R_Mo) (T := F_Mo) (N := 28) hx hb hg i_Mo hown hK hI (mw_o hQ) rfl 18 (by decide) (hg _ k_791) (fun _ h9 => h9) rfl d_Mo_at_119 ?_
          refine lv_iload hx hb d_Mo_at_122 (lv_at hl 4 rfl) ?_
          refine lv_iconst (v := 4) hx hb d_Mo_at_124 (by decide) ?_
          refine mv_imul hx hb (k * 4 + i) 4 rfl rfl d_Mo_at_125 ?_
          refine lv_iload hx hb d_Mo_at_126 (lv_at hl 2 rfl) ?_
          refine mv_iadd hx hb ((k * 4 + i) * 4) a rfl rfl d_Mo_at_128 ?_
          refine lv_iconst (v := 1) hx hb d_Mo_at_129 (by decide) ?_
          refine mv_iadd hx hb ((k * 4 + i) * 4 + a) 1 rfl rfl d_Mo_at_130 ?_
          refine mv_dald hx hb hK hI 1 (X.2.1 18) (mw_18 hQ) rfl ((k * 4 + i) * 4 + a + 1) (rfl) (by omega) (by decide) d_Mo_at_131 ?_
          refine mv_d (y := ft (a + 1)) ((hkv (j := a + 1) (by omega)).1) ?_
          refine lv_dstore (lv' := [(12, .double (ft (a + 1))), (10, .double (ft a)), (8, .double (fv a)), (7, .int (nI a)), (6, .int (nI c0)), (5, .int (nI (k * 4 + i))), (0, .ref (Q 25)), (1, .int (nI k)), (2, .int (nI i)), (3, .double u)]) hx hb d_Mo_at_132 hl (by decide) rfl (fun ls hl => ?_)
          refine lv_aload_n hx hb d_Mo_at_134 rfl (lv_at hl 6 rfl) ?_
          refine hp_get (ci := 5) (v := .ref (Q 19)) (C := R_Mo) (T := F_Mo) (N := 28) hx hb hg i_Mo hown hK hI (mw_o hQ) rfl 19 (by decide) (hg _ k_792) (fun _ h9 => h9) rfl d_Mo_at_135 ?_
          refine lv_iload hx hb d_Mo_at_138 (lv_at hl 5 rfl) ?_
          refine lv_iconst (v := 4) hx hb d_Mo_at_140 (by decide) ?_
          refine mv_imul hx hb (k * 4 + i) 4 rfl rfl d_Mo_at_141 ?_
          refine lv_iload hx hb d_Mo_at_142 (lv_at hl 3 rfl) ?_
          refine mv_iadd hx hb ((k * 4 + i) * 4) a rfl rfl d_Mo_at_144 ?_
          refine lv_iconst (v := 1) hx hb d_Mo_at_145 (by decide) ?_
          refine mv_iadd hx hb ((k * 4 + i) * 4 + a) 1 rfl rfl d_Mo_at_146 ?_
          refine mv_dald hx hb hK hI 1 (X.2.1 19) (mw_19 hQ) rfl ((k * 4 + i) * 4 + a + 1) (rfl) (by omega) (by decide) d_Mo_at_147 ?_
          refine mv_d (y := fv (a + 1)) ((hkv (j := a + 1) (by omega)).2) ?_
          refine lv_dstore (lv' := [(14, .double (fv (a + 1))), (12, .double (ft (a + 1))), (10, .double (ft a)), (8, .double (fv a)), (7, .int (nI a)), (6, .int (nI c0)), (5, .int (nI (k * 4 + i))), (0, .ref (Q 25)), (1, .int (nI k)), (2, .int (nI i)), (3, .double u)]) hx hb d_Mo_at_148 hl (by decide) rfl (fun ls hl => ?_)
          refine lv_dload hx hb d_Mo_at_150 (lv_at hl 3 rfl) ?_
          refine lv_dload hx hb d_Mo_at_152 (lv_at hl 0 rfl) ?_
          refine lv_dload hx hb d_Mo_at_154 (lv_at hl 3 rfl) ?_
          refine lv_dsub hx hb d_Mo_at_156 g2 ?_
          refine lv_dload_n hx hb d_Mo_at_157 rfl (lv_at hl 10 rfl) ?_
          refine lv_dload hx hb d_Mo_at_158 (lv_at hl 2 rfl) ?_
          refine lv_dsub hx hb d_Mo_at_160 g3 ?_
          refine lv_dmul hx hb d_Mo_at_161 g4 ?_
          refine lv_dload hx hb d_Mo_at_162 (lv_at hl 1 rfl) ?_
          refine lv_dload hx hb d_Mo_at_164 (lv_at hl 2 rfl) ?_
          refine lv_dsub hx hb d_Mo_at_166 g1 ?_
          refine lv_ddiv hx hb d_Mo_at_167 g6 ?_
          refine lv_ldc2d (v := 4634204016564240384) hx hb hown (hg _ k_969) d_Mo_at_168 ?_
          refine lv_dmul hx hb d_Mo_at_171 g7 ?_
          refine ec_d (va_runS (As := [.double (FP.dmul (FP.ddiv (FP.dmul (FP.dsub (fv (a + 1)) (fv a)) (FP.dsub u (ft a))) (FP.dsub (ft (a + 1)) (ft a))) 4634204016564240384)]) (rest := [.double (fv a)]) ⟨hx, hb, hml, hown, hts⟩ (m_Mo_floor l G S0 (mW G Q X w0) (FP.dmul (gQuo ft fv u a) fx_64)) (cwS 1 hts (gw_S k_922 k_923 k_67 k_924) rfl rfl rfl (by decide +kernel) ⟨Nat.le_of_ble_eq_true rfl, Nat.le_of_ble_eq_true rfl⟩) (eB.preS hE hI hS hz) rfl rfl hl.1 rfl (lv_room (Nat.le_of_ble_eq_true rfl)) d_Mo_at_172 ⟨Nat.le_of_ble_eq_true rfl, Nat.le_of_ble_eq_true rfl⟩) hS (fun fl w_1 H locs ew_1 hI hsz hS => ?_)
          obtain ⟨efl, ew_1⟩ := ew_1
          have ew_1 := ew_1.symm
          subst ew_1
          rw [f2] at efl
          subst efl
          refine lv_ldc2d (v := 4634204016564240384) hx hb hown (hg _ k_969) d_Mo_at_175 ?_
          refine lv_ddiv hx hb d_Mo_at_178 g8 ?_
          refine lv_dadd hx hb d_Mo_at_179 g9 ?_
          exact W.dret (v := (FP.dadd (fv a) (FP.ddiv (fx_fl (FP.dmul (gQuo ft fv u a) fx_64)) 4634204016564240384))) hx hb hr (fun t9 ht9 hW9 => ⟨⟨(FP.dadd (fv a) (FP.ddiv (fx_fl (FP.dmul (gQuo ft fv u a) fx_64)) 4634204016564240384)), (mW G Q X w0), rfl, ⟨by rw [if_pos (by omega)]; unfold kGlide; rw [if_neg c1, hkf, if_neg hc, if_neg f1]; rfl, rfl⟩, eWo ht9 hI⟩, hS.F ht9⟩) hS.2.2 d_Mo_at_180
        · refine lv_dload hx hb d_Mo_at_115 (lv_at hl 1 rfl) ?_
          exact W.dret (v := (fv a)) hx hb hr (fun t9 ht9 hW9 => ⟨⟨(fv a), (mW G Q X w0), rfl, ⟨by rw [if_pos (by omega)]; unfold kGlide; rw [if_neg c1, hkf, if_pos (Or.inl (by omega))], rfl⟩, eWo ht9 hI⟩, hS.F ht9⟩) hS.2.2 d_Mo_at_117
  · refine W.lpw (fun j (a : Nat) => a < c0 ∧ j = c0 - a ∧ (a = 0 ∨ T a ≤ U)) (fun (a : Nat) => (mW G Q X w0)) (fun (a : Nat) => [(7, .int (nI a)), (6, .int (nI c0)), (5, .int (nI (k * 4 + i))), (0, .ref (Q 25)), (1, .int (nI k)), (2, .int (nI i)), (3, .double u)]) (fun (a : Nat) => 0) (fun (a : Nat) => 0) 16 32 (fun (a : Nat) => []) (c0) (0) (⟨by omega, rfl, Or.inl rfl⟩) (lv_sub hl [0, 1, 2, 3, 4, 5, 6] rfl) hI hS ?_
    rintro j a ls H locs hP hl hI hS O
    try dsimp only at hP hl hI ⊢
    obtain ⟨hac, ej, haT⟩ := hP
    refine lv_iload hx hb d_Mo_at_32 (lv_at hl 0 rfl) ?_
    refine lv_iconst (v := 1) hx hb d_Mo_at_34 (by decide) ?_
    refine mv_iadd hx hb a 1 rfl rfl d_Mo_at_35 ?_
    refine lv_iload hx hb d_Mo_at_36 (lv_at hl 1 rfl) ?_
    refine mv_cge (tgt := 66) hx hb (a + 1) c0 rfl rfl (by omega) (by omega) d_Mo_at_38 (by decide) (fun c2 => ?_) (fun c2 => ?_)
    · exact A (a) _ _ _ (⟨hac, kfF_eq hU (fun j hj => (t1 j hj).1) t2 hac haT (fun h => by omega)⟩) (lv_sub hl [0, 1, 2, 3, 4, 5, 6] rfl) hI hS
    · refine lv_aload_n hx hb d_Mo_at_41 rfl (lv_at hl 3 rfl) ?_
      refine hp_get (ci := 5) (v := .ref (Q 18)) (C := R_Mo) (T := F_Mo) (N := 28) hx hb hg i_Mo hown hK hI (mw_o hQ) rfl 18 (by decide) (hg _ k_791) (fun _ h9 => h9) rfl d_Mo_at_42 ?_
      refine lv_iload hx hb d_Mo_at_45 (lv_at hl 2 rfl) ?_
      refine lv_iconst (v := 4) hx hb d_Mo_at_47 (by decide) ?_
      refine mv_imul hx hb (k * 4 + i) 4 rfl rfl d_Mo_at_48 ?_
      refine lv_iload hx hb d_Mo_at_49 (lv_at hl 0 rfl) ?_
      refine mv_iadd hx hb ((k * 4 + i) * 4) a rfl rfl d_Mo_at_51 ?_
      refine lv_iconst (v := 1) hx hb d_Mo_at_52 (by decide) ?_
      refine mv_iadd hx hb ((k * 4 + i) * 4 + a) 1 rfl rfl d_Mo_at_53 ?_
      refine mv_dald hx hb hK hI 1 (X.2.1 18) (mw_18 hQ) rfl ((k * 4 + i) * 4 + a + 1) (rfl) (by omega) (by decide) d_Mo_at_54 ?_
      refine mv_d (y := ft (a + 1)) ((hkv (j := a + 1) (by omega)).1) ?_
      refine lv_dload_n hx hb d_Mo_at_55 rfl (lv_at hl 6 rfl) ?_
      refine lv_dcmp hx hb d_Mo_at_56 ?_
      refine lv_if_gt (tgt := 66) hx hb d_Mo_at_57 (by decide) (fun c3 => ?_) (fun c3 => ?_)
      · have c3' : U < T (a + 1) := by
          have h9 : ¬ dle (ft (a + 1)) u := fun h => absurd (cv_g_le.mpr h) (Int32.not_le.mpr c3)
          rcases Int.lt_or_le U (T (a + 1)) with q | q
          · exact q
          · exact absurd ((fx_le (t1 (a + 1) (by omega)).1 hU).mpr q) h9
        exact A (a) _ _ _ (⟨hac, kfF_eq hU (fun j hj => (t1 j hj).1) t2 hac haT (fun _ => c3')⟩) (lv_sub hl [0, 1, 2, 3, 4, 5, 6] rfl) hI hS
      · have c3' : T (a + 1) ≤ U := (fx_le (t1 (a + 1) (by omega)).1 hU).mp (cv_g_le.mp (Int32.not_lt.mp c3))
        refine lv_iinc (v := nI (a + 1)) (lv' := [(7, .int (nI (a + 1))), (6, .int (nI c0)), (5, .int (nI (k * 4 + i))), (0, .ref (Q 25)), (1, .int (nI k)), (2, .int (nI i)), (3, .double u)]) hx hb d_Mo_at_60 hl (k := 0) rfl (nI_inc a) (by decide) rfl (fun ls hl => ?_)
        refine lv_goto (tgt := 32) hx hb d_Mo_at_63 (by decide) ?_
        exact O (c0 - (a + 1)) (a + 1) _ _ _ (by omega) (⟨c2, rfl, Or.inr c3'⟩) (lv_sub hl [0, 1, 2, 3, 4, 5, 6] rfl) hI hS

/-! Easel's calls: paint -/
abbrev c05 : UInt64 := 4602678819172646912
/-- the middle of a cell -/
def mid5 (i : Nat) : UInt64 := FP.dadd (FP.i2d (nI i)) c05
theorem fx_05 : fx 1 1 c05 := by
  have := fx_div (u := 1) (N := 1) (by decide) (fx_i2d 1) (fx_i2d 2) (by decide) (by decide) (by decide)
  have e : FP.ddiv (FP.i2d 1) (FP.i2d 2) = c05 := by decide +kernel
  rw [e] at this
  exact this
theorem mid5_p {i : Nat} (hi : i < 16) : pR 0 (mid5 i) := by
  have h1 := fx_up 1 (fx_i2d (nI i))
  have h2 : (nI i).toInt = (i : Int) := nI_toInt (by omega)
  rw [h2] at h1
  have h3 := fx_add (by decide) h1 fx_05 (by rw [show ((2 ^ 1 : Nat) : Int) = 2 from rfl]; omega)
  have h4 := fx_up 5 h3
  exact ⟨_, h4, by show (((i : Int) * ((2 ^ 1 : Nat) : Int) + 1) * ((2 ^ 5 : Nat) : Int)).natAbs ≤ 1000 * 2 ^ 6; rw [show ((2 ^ 1 : Nat) : Int) = 2 from rfl, show ((2 ^ 5 : Nat) : Int) = 32 from rfl, show (2 : Nat) ^ 6 = 64 from rfl]; omega⟩
theorem mid5_n (i : Nat) : vf_n64 (FP.dadd (FP.i2d (nI i)) c05) := fx_nadd (FP.Core.i2d_fin _) fx_05.1
/-- what is seen in a cell -/
def seenF (d : DS) (u : UInt64) (x : Nat) : Option Nat := topF d u (mid5 (x % 16)) (mid5 (x / 16))
def clrF (d : DS) (u : UInt64) (x : Nat) : Int32 := match seenF d u x with
  | none => 0
  | some c => vC d u c
/-- the cells, of which so many are painted -/
def ptF (d : DS) (u : UInt64) (n : Nat) : Nat → Int32 := fun x => if x < n then clrF d u x else sCl d x
def cnF (d : DS) (u : UInt64) : Nat → Nat
  | 0 => 0
  | x + 1 => cnF d u x + (if (seenF d u x).isSome then 1 else 0)
theorem ptF_step (d : DS) (u : UInt64) (n : Nat) : upd (ptF d u n) n (clrF d u n) = ptF d u (n + 1) := by
  funext x
  unfold upd ptF
  by_cases h : x = n
  · subst h; rw [if_pos rfl, if_pos (by omega)]
  · rw [if_neg h]
    by_cases h2 : x < n
    · rw [if_pos h2, if_pos (by omega)]
    · rw [if_neg h2, if_neg (by omega)]
theorem cnF_le (d : DS) (u : UInt64) : ∀ n, cnF d u n ≤ n
  | 0 => Nat.le_refl 0
  | n + 1 => by
    have := cnF_le d u n
    unfold cnF
    split <;> omega
def dCl (d : DS) (f : Nat → Int32) : DS := (d.1, d.2.1, d.2.2.1, d.2.2.2.1, d.2.2.2.2.1, d.2.2.2.2.2.1, d.2.2.2.2.2.2.1, d.2.2.2.2.2.2.2.1, f, d.2.2.2.2.2.2.2.2.2)
def dPt (d : DS) (n : Int32) : DS := (d.1, d.2.1, d.2.2.1, d.2.2.2.1, d.2.2.2.2.1, d.2.2.2.2.2.1, d.2.2.2.2.2.2.1, d.2.2.2.2.2.2.2.1, d.2.2.2.2.2.2.2.2.1, n)
theorem cellOf_c (G : EG) (m : MS) (d : DS) (f : Nat → Int32) (n : Int32) (k r : Nat) : cellOf G m (dPt (dCl d f) n) k r = cellOf G m d k r := rfl
/-- the easel's own cells change -/
theorem ePic.top3 {G : EG} {m : MS} {d : DS} {w z : hp_M} (h : ePic G m d w) (f : Nat → Int32) (n : Int32) (h1 : z (mEo m) = some (.inr (3, [.ref (mAd m 0 0), .ref (mNa m), .ref (mCa m), .int n]))) (h2 : z (mNa m) = some (aN G 14 (mNf m))) (h3 : z (mCa m) = some (aI G 192 f)) (ho : ∀ a, a ≠ mEo m → a ≠ mCa m → z a = w a) : ePic G m (dPt (dCl d f) n) z := by
  refine ⟨h1, h2, h3, fun k hk ht => ?_, h.2.2.2.2⟩
  have ht : sTh d k = true := ht
  have hob := nPic_iff.mp (h.2.2.2.1 k hk ht)
  refine nPic_iff.mpr ⟨fun r hr => ?_, hob.2⟩
  obtain ⟨n1, n2, n3⟩ := h.ne3 hk ht hr
  rw [ho _ (Ne.symm n1) (Ne.symm n3)]
  exact hob.1 r hr
theorem ePic.neE {G : EG} {m : MS} {d : DS} {w : hp_M} (h : ePic G m d w) : mEo m ≠ mNa m ∧ mEo m ≠ mCa m ∧ mNa m ≠ mCa m := by
  refine ⟨hp_ne_oa h.1 h.2.1, hp_ne_oa h.1 h.2.2.1, fun e => ?_⟩
  have a := h.2.1
  rw [e, h.2.2.1] at a
  injection a with a
  injection a with a
  injection a with _ a
  injection a with _ a
  cases a
set_option maxHeartbeats 4000000 in
set_option maxRecDepth 100000 in
theorem m_Ea_paint (l : Launch) (hlt : l.stackTraces = false) (G : EG) (S0 : Nat) (w : hp_M) (ms : MS) (d : DS) (hp' : ePic G ms d w) (hno : nOk ms d) (dp : Nat → Nat) (htr : tOk d dp) (hv0 : vOk d) (u : UInt64) (hu : fx3 u) : vx_Met l y_Ea_paint w_Ea_paint (rl 22 40 200) (eP G S0 w [.ref (mEo ms), .double u]) (va_Qi (fun r z => inT u ∧ r = nI (cnF d u 192) ∧ pubR G ms d w (dPt (dCl d (ptF d u 192)) (sPt d + 1)) z) (eW G S0) (hp_A S0)) (eX G S0 (pIA w (¬ inT u))) 40 200 (hp_A S0) := by
  refine vx_ofW (cc := b_Ea_paint) (maxL := 7) (ret := (some .int)) (by decide) rfl ?_
  intro p e s m args below meth c s₁ B hml hnx hv
  obtain ⟨rfl, hE, hI, hz⟩ := hv
  have hx := B.exec
  have hb := B.bytes
  have hr := B.returns
  have hts := atoms_spec (ws := w_Ea_paint) B.pre
  have hg : ∀ w ∈ gw, w.before _ s = true := fun w h => hts w (List.mem_cons_of_mem _ h)
  have hown : s.vm.findClass "SceneEasel" = some m.cls := findClass_of_methodNamed B.named
  have hlocks := B.notSynchronized
  have hK := hE.K
  have hS : va_S (hp_A S0) s.heap s.heap [] := va_S.rf
  have hl := lv_entry ([.ref (mEo ms), .double u]) (n := 7) (Nat.le_of_ble_eq_true rfl)
  rw [lg_entry_eq]
  generalize (lg_sl ([.ref (mEo ms), .double u]) ++ List.replicate (7 - (lg_sl ([.ref (mEo ms), .double u])).length) Slot.unset).toArray = ls at hl ⊢
  have hl : lv_has ls 7 [(0, .ref (mEo ms)), (1, .double u)] := hl
  have hob := hp'.1
  refine lv_dload_n hx hb d_Ea_paint_0 rfl (lv_at hl 1 rfl) ?_
  refine xc_v (vx_runS (As := [.double u]) (rest := []) ⟨hx, hb, hml, hown, hts⟩ (m_Ea_requireTime l hlt G S0 w u) (cwS 1 hts (gw_S k_525 k_526 k_60 k_527) rfl rfl rfl (by decide +kernel) ⟨Nat.le_of_ble_eq_true rfl, Nat.le_of_ble_eq_true rfl⟩) (eB.preS hE hI hS hz) rfl rfl hl.1 rfl (lv_room (Nat.le_of_ble_eq_true rfl)) d_Ea_paint_1 ⟨Nat.le_of_ble_eq_true rfl, Nat.le_of_ble_eq_true rfl⟩) hS (fun E9 ce9 q9 u9 H9 locs9 hpx9 hI9 hsz9 hS9 g1 g2 g3 => xc_out hnx hlocks g1 g2 g3 (hpx9) hI9 hS9 (Nat.le_of_ble_eq_true rfl) (Nat.le_of_ble_eq_true rfl)) (fun w_1 H locs ew_1 hI hsz hS => ?_)
  obtain ⟨ew_1, h3⟩ := ew_1
  have ew_1 := ew_1.symm
  subst ew_1
  refine lv_aload_n hx hb d_Ea_paint_4 rfl (lv_at hl 0 rfl) ?_
  refine lv_dload_n hx hb d_Ea_paint_5 rfl (lv_at hl 1 rfl) ?_
  refine ec_v (va_runV (As := [.double u]) (rest := []) ⟨hx, hb, hml, hown, hts⟩ (m_Ea_settle l G S0 w ms d hp' hno hv0 u (inT_ti hu h3)) (cwV 1 hts (gw_V k_629 k_631 k_22 k_60 k_632) rfl rfl rfl (by decide +kernel) ⟨Nat.le_of_ble_eq_true rfl, Nat.le_of_ble_eq_true rfl⟩) (eB.preV hE hI hS hz rfl hob) rfl rfl hl.1 rfl (lv_room (Nat.le_of_ble_eq_true rfl)) d_Ea_paint_6 ⟨Nat.le_of_ble_eq_true rfl, Nat.le_of_ble_eq_true rfl⟩) hS (fun w1 H locs ew1 hI hsz hS => ?_)
  obtain ⟨m1, e1, e2, hp1, hf1, hst⟩ := ew1
  have eo : mEo m1 = mEo ms := by show m1.1.1 = ms.1.1; rw [e1]
  have hrd := stld.rdy hv0 (inT_ti hu h3) hst
  have hneq := stld.neq hst
  have hne3 := hp1.neE
  refine lv_iconst (v := 0) hx hb d_Ea_paint_9 (by decide) ?_
  refine lv_istore_n (lv' := [(3, .int 0), (0, .ref (mEo ms)), (1, .double u)]) hx hb d_Ea_paint_10 rfl hl (by decide) rfl (fun ls hl => ?_)
  refine lv_iconst (v := 0) hx hb d_Ea_paint_11 (by decide) ?_
  refine lv_istore (lv' := [(4, .int 0), (3, .int 0), (0, .ref (mEo ms)), (1, .double u)]) hx hb d_Ea_paint_12 hl (by decide) rfl (fun ls hl => ?_)
  refine W.lpw (fun j (q : Nat × hp_M) => match q with | (j9, z) => j9 ≤ 12 ∧ z = hp_set w1 (mCa m1) (aI G 192 (ptF d u (j9 * 16))) ∧ j = 12 - j9) (fun (q : Nat × hp_M) => match q with | (j9, z) => z) (fun (q : Nat × hp_M) => match q with | (j9, z) => [(4, .int (nI j9)), (3, .int (nI (cnF d u (j9 * 16)))), (0, .ref (mEo ms)), (1, .double u)]) (fun (q : Nat × hp_M) => match q with | (j9, z) => 1) (fun (q : Nat × hp_M) => match q with | (j9, z) => 6) 7 14 (fun (q : Nat × hp_M) => match q with | (j9, z) => []) (12) ((0, w1)) (⟨by omega, by show w1 = hp_set w1 (mCa m1) (aI G 192 (ptF d u (0 * 16))); rw [show ptF d u (0 * 16) = sCl d from funext fun x => if_neg (by omega), hp_set_self hp1.2.2.1], rfl⟩) (lv_sub hl [0, 1, 2, 3] rfl) hI hS ?_
  rintro j ⟨j9, z⟩ ls H locs hP hl hI hS io
  try dsimp only at hP hl hI ⊢
  obtain ⟨hj1, ez, hj3⟩ := hP
  refine lv_iload hx hb d_Ea_paint_14 (lv_at hl 0 rfl) ?_
  refine lv_bipush (v := 12) hx hb d_Ea_paint_16 (by decide) ?_
  refine lv_icmp_ge (tgt := 106) hx hb d_Ea_paint_18 (by decide) (fun c1 => ?_) (fun c1 => ?_)
  · have hj : j9 = 12 := by
      have := (nI_leI (a := 12) (b := j9) (by omega) (by omega)).mp c1
      omega
    rw [hj] at ez
    have hob2 : z (mEo m1) = some (.inr (3, [.ref (mAd m1 0 0), .ref (mNa m1), .ref (mCa m1), .int (sPt d)])) := by rw [ez, hp_set_ne hne3.2.1]; exact hp1.1
    rw [eo] at hob2
    refine lv_aload_n hx hb d_Ea_paint_106 rfl (lv_at hl 2 rfl) ?_
    refine lv_dup hx hb d_Ea_paint_107 rfl ?_
    refine hp_get (ci := 3) (v := .int (sPt d)) (C := R_Ea) (T := F_Ea) (N := 4) hx hb hg i_Ea hown hK hI hob2 rfl 3 (by decide) (hg _ k_246) (fun _ h9 => h9) rfl d_Ea_paint_108 ?_
    refine lv_iconst (v := 1) hx hb d_Ea_paint_111 (by decide) ?_
    refine lv_iadd hx hb d_Ea_paint_112 ?_
    refine hp_putC (ci := 3) (v := .int ((sPt d) + 1)) (ty := .int) (C := R_Ea) (T := F_Ea) (N := 4) hx hb hg i_Ea t_Ea t_Ea_ok n_Ea hown hK hI hS hob2 rfl 3 (by decide) (hg _ k_246) (fun _ h9 => h9) rfl (by decide +kernel) rfl rfl (Nat.le_of_ble_eq_true rfl) d_Ea_paint_113 (fun H locs hI hS hsz => ?_)
    obtain ⟨w_2, ew_2⟩ : ∃ z9, z9 = hp_set z (mEo ms) (.inr (3, [.ref (mAd m1 0 0), .ref (mNa m1), .ref (mCa m1), .int ((sPt d) + 1)])) := ⟨_, rfl⟩
    have hI : eI G S0 w_2 H := by rw [ew_2]; exact hI
    have hob2 : w_2 (mEo ms) = some (.inr (3, [.ref (mAd m1 0 0), .ref (mNa m1), .ref (mCa m1), .int ((sPt d) + 1)])) := by rw [ew_2]; exact hp_set_eq _ _ _
    refine lv_iload_n hx hb d_Ea_paint_116 rfl (lv_at hl 1 rfl) ?_
    have ezz : w_2 = hp_set (hp_set w1 (mCa m1) (aI G 192 (ptF d u 192))) (mEo m1) (.inr (3, [.ref (mAd m1 0 0), .ref (mNa m1), .ref (mCa m1), .int (sPt d + 1)])) := by rw [ew_2, ez, eo]
    have hpz : ePic G m1 (dPt (dCl d (ptF d u 192)) (sPt d + 1)) w_2 := by
      rw [ezz]
      exact hp1.top3 _ _ (hp_set_eq _ _ _) (by rw [hp_set_ne (Ne.symm hne3.1), hp_set_ne hne3.2.2]; exact hp1.2.1) (by rw [hp_set_ne (Ne.symm hne3.2.1)]; exact hp_set_eq _ _ _) (fun a q1 q2 => by rw [hp_set_ne q1, hp_set_ne q2])
    have hfz : fR m1 d w1 m1 (dPt (dCl d (ptF d u 192)) (sPt d + 1)) w_2 := by
      refine fR.eq ⟨fun a x q1 q2 => ?_, fun a q => Or.inl q⟩ rfl
      rw [ezz, hp_set_ne (fun e => q2 (Or.inl e)), hp_set_ne (fun e => q2 (Or.inr (Or.inr (Or.inl e))))]
      exact q1
    refine vx_ret ?_
    refine W.widen (k := 40) (n := 200) (Nat.le_of_ble_eq_true rfl) (Nat.le_of_ble_eq_true rfl) ?_
    exact W.iret (v := (nI (cnF d u (j9 * 16)))) hx hb hr (fun t9 ht9 hW9 => ⟨⟨(nI (cnF d u (j9 * 16))), w_2, rfl, ⟨h3, by rw [hj], m1, eo, hpz, fun k hk => hno.st e1 e2 k hk, hf1.tr hfz⟩, eWo ht9 hI⟩, hS.F ht9⟩) hS.2.2 d_Ea_paint_117
  · have hj : j9 < 12 := by
      rcases Nat.lt_or_ge j9 12 with q | q
      · exact q
      · exact absurd ((nI_leI (a := 12) (b := j9) (by omega) (by omega)).mpr q) c1
    refine lv_iconst (v := 0) hx hb d_Ea_paint_21 (by decide) ?_
    refine lv_istore (lv' := [(5, .int 0), (4, .int (nI j9)), (3, .int (nI (cnF d u (j9 * 16)))), (0, .ref (mEo ms)), (1, .double u)]) hx hb d_Ea_paint_22 hl (by decide) rfl (fun ls hl => ?_)
    refine W.lpw (fun j (q : Nat × hp_M) => match q with | (i9, y) => i9 ≤ 16 ∧ y = hp_set w1 (mCa m1) (aI G 192 (ptF d u (j9 * 16 + i9))) ∧ j = 16 - i9) (fun (q : Nat × hp_M) => match q with | (i9, y) => y) (fun (q : Nat × hp_M) => match q with | (i9, y) => [(5, .int (nI i9)), (3, .int (nI (cnF d u (j9 * 16 + i9)))), (4, .int (nI j9)), (0, .ref (mEo ms)), (1, .double u)]) (fun (q : Nat × hp_M) => match q with | (i9, y) => 1) (fun (q : Nat × hp_M) => match q with | (i9, y) => 6) 7 24 (fun (q : Nat × hp_M) => match q with | (i9, y) => []) (16) ((0, z)) (⟨by omega, ez, rfl⟩) (lv_sub hl [0, 2, 1, 3, 4] rfl) hI hS ?_
    rintro j ⟨i9, y⟩ ls H locs hP hl hI hS ii
    try dsimp only at hP hl hI ⊢
    obtain ⟨hi1, ey, hi3⟩ := hP
    refine lv_iload hx hb d_Ea_paint_24 (lv_at hl 0 rfl) ?_
    refine lv_bipush (v := 16) hx hb d_Ea_paint_26 (by decide) ?_
    refine lv_icmp_ge (tgt := 100) hx hb d_Ea_paint_28 (by decide) (fun c2 => ?_) (fun c2 => ?_)
    · have hi : i9 = 16 := by
        have := (nI_leI (a := 16) (b := i9) (by omega) (by omega)).mp c2
        omega
      rw [hi, show j9 * 16 + 16 = (j9 + 1) * 16 by omega] at ey
      rw [hi, show j9 * 16 + 16 = (j9 + 1) * 16 by omega] at hl
      refine lv_iinc (v := nI (j9 + 1)) (lv' := [(4, .int (nI (j9 + 1))), (5, .int (nI 16)), (3, .int (nI (cnF d u ((j9 + 1) * 16)))), (0, .ref (mEo ms)), (1, .double u)]) hx hb d_Ea_paint_100 hl (k := 2) rfl (nI_inc j9) (by decide) rfl (fun ls hl => ?_)
      refine lv_goto (tgt := 14) hx hb d_Ea_paint_103 (by decide) ?_
      exact io (12 - (j9 + 1)) ((j9 + 1, y)) ls H locs (by omega) (⟨by omega, ey, rfl⟩) (lv_sub hl [0, 2, 3, 4] rfl) hI hS
    · have hi : i9 < 16 := by
        rcases Nat.lt_or_ge i9 16 with q | q
        · exact q
        · exact absurd ((nI_leI (a := 16) (b := i9) (by omega) (by omega)).mpr q) c2
      have hpy : ePic G m1 (dPt (dCl d (ptF d u (j9 * 16 + i9))) (sPt d)) y := by
        rw [ey]
        exact hp1.top3 _ _ (by rw [hp_set_ne hne3.2.1]; exact hp1.1) (by rw [hp_set_ne hne3.2.2]; exact hp1.2.1) (hp_set_eq _ _ _) (fun a q1 q2 => hp_set_ne q2)
      have hoby := hpy.1
      have hcay := hpy.2.2.1
      have hn0 := hpy.node (by decide) htr.1
      rw [eo, e2] at hoby
      rw [e2] at hn0
      have hn0 : y (mAd ms 0 0) = some (nC m1 d 0) := hn0
      have hoby : y (mEo ms) = some (.inr (3, [.ref (mAd ms 0 0), .ref (mNa m1), .ref (mCa m1), .int (sPt d)])) := hoby
      have hcay : y (mCa m1) = some (aI G 192 (ptF d u (j9 * 16 + i9))) := hcay
      refine lv_aload_n hx hb d_Ea_paint_31 rfl (lv_at hl 3 rfl) ?_
      refine hp_get (ci := 3) (v := .ref (mAd ms 0 0)) (C := R_Ea) (T := F_Ea) (N := 4) hx hb hg i_Ea hown hK hI hoby rfl 0 (by decide) (hg _ k_243) (fun _ h9 => h9) rfl d_Ea_paint_32 ?_
      refine lv_iload hx hb d_Ea_paint_35 (lv_at hl 0 rfl) ?_
      refine lv_i2d hx hb d_Ea_paint_37 ?_
      refine lv_ldc2d (v := 4602678819172646912) hx hb hown (hg _ k_656) d_Ea_paint_38 ?_
      refine lv_dadd hx hb d_Ea_paint_41 (mid5_n i9) ?_
      refine lv_iload hx hb d_Ea_paint_42 (lv_at hl 2 rfl) ?_
      refine lv_i2d hx hb d_Ea_paint_44 ?_
      refine lv_ldc2d (v := 4602678819172646912) hx hb hown (hg _ k_656) d_Ea_paint_45 ?_
      refine lv_dadd hx hb d_Ea_paint_48 (mid5_n j9) ?_
      have htp := m_top l G S0 y m1 (dPt (dCl d (ptF d u (j9 * 16 + i9))) (sPt d)) dp hpy htr hv0 hrd (mid5 i9) (mid5 j9) (mid5_p hi) (mid5_p (by omega))
      have etI : tIn (dPt (dCl d (ptF d u (j9 * 16 + i9))) (sPt d)) (tA (dPt (dCl d (ptF d u (j9 * 16 + i9))) (sPt d)) (mNx m1) (fun j => mNi m1 j 0) 5) 0 (mid5 i9) (mid5 j9) = seenF d u (j9 * 16 + i9) := by
        unfold seenF
        rw [show (j9 * 16 + i9) % 16 = i9 by omega, show (j9 * 16 + i9) / 16 = j9 by omega]
        exact tTop_congr (d := d) htr hneq (mid5 i9) (mid5 j9)
      rw [e2, etI] at htp
      refine ec_o (va_runVN (As := [.double (FP.dadd (FP.i2d (nI i9)) 4602678819172646912), .double (FP.dadd (FP.i2d (nI j9)) 4602678819172646912)]) (rest := []) ⟨hx, hb, hml, hown, hts⟩ (htp) ⟨va_cnB 2 hts (gw_code k_660) rfl rfl rfl (hE.Nw q_657) (hg _ k_61) (by decide +kernel) ⟨Nat.le_of_ble_eq_true rfl, Nat.le_of_ble_eq_true rfl⟩, hg _ k_659, hg _ k_27⟩ (eB.preV hE hI hS hz rfl hn0) rfl rfl hl.1 rfl (lv_room (Nat.le_of_ble_eq_true rfl)) d_Ea_paint_49 ⟨Nat.le_of_ble_eq_true rfl, Nat.le_of_ble_eq_true rfl⟩) hS (fun tp w_3 H locs ew_3 hI hsz hS => ?_)
      obtain ⟨etp, ew_3⟩ := ew_3
      have ew_3 := ew_3.symm
      subst ew_3
      have eix : nI j9 * 16 + nI i9 = nI (j9 * 16 + i9) := by rw [show (16 : Int32) = nI 16 from rfl, pk_mul, nI_add]
      have hstep := ptF_step d u (j9 * 16 + i9)
      have hcn : cnF d u (j9 * 16 + i9 + 1) = cnF d u (j9 * 16 + i9) + (if (seenF d u (j9 * 16 + i9)).isSome then 1 else 0) := rfl
      cases hT : seenF d u (j9 * 16 + i9) with
      | none =>
        rw [hT] at etp hcn
        have etp : tp = none := etp
        subst etp
        have hcl : clrF d u (j9 * 16 + i9) = 0 := by unfold clrF; rw [hT]
        rw [hcl] at hstep
        have hcn : cnF d u (j9 * 16 + i9 + 1) = cnF d u (j9 * 16 + i9) := hcn
        refine lv_astoreN (lv' := [(6, .null), (5, .int (nI i9)), (3, .int (nI (cnF d u (j9 * 16 + i9)))), (4, .int (nI j9)), (0, .ref (mEo ms)), (1, .double u)]) hx hb d_Ea_paint_52 hl (by decide) rfl (fun ls hl => ?_)
        refine lv_aload_n hx hb d_Ea_paint_54 rfl (lv_at hl 4 rfl) ?_
        refine hp_get (ci := 3) (v := .ref (mCa m1)) (C := R_Ea) (T := F_Ea) (N := 4) hx hb hg i_Ea hown hK hI hoby rfl 2 (by decide) (hg _ k_245) (fun _ h9 => h9) rfl d_Ea_paint_55 ?_
        refine lv_iload hx hb d_Ea_paint_58 (lv_at hl 3 rfl) ?_
        refine lv_bipush (v := 16) hx hb d_Ea_paint_60 (by decide) ?_
        refine lv_imul hx hb d_Ea_paint_62 ?_
        refine lv_iload hx hb d_Ea_paint_63 (lv_at hl 1 rfl) ?_
        refine lv_iadd hx hb d_Ea_paint_65 ?_
        refine lv_aloadN hx hb d_Ea_paint_66 (lv_at hl 0 rfl) ?_
        refine lv_ifnonnullN hx hb d_Ea_paint_68 ?_
        refine lv_iconst (v := 0) hx hb d_Ea_paint_71 (by decide) ?_
        refine lv_goto (tgt := 80) hx hb d_Ea_paint_72 (by decide) ?_
        rw [eix]
        refine hp_iast hx hb hK hI hS 0 hcay rfl (vp_in_nI (by omega) (by decide)) d_Ea_paint_80 (fun H locs hI hS hsz => ?_)
        rw [nI_clamp (n := (j9 * 16 + i9)) (by omega)] at hI
        obtain ⟨f_5, ef_5⟩ : ∃ z9, z9 = upd (ptF d u (j9 * 16 + i9)) (j9 * 16 + i9) 0 := ⟨_, rfl⟩
        rw [← ef_5] at hI
        obtain ⟨w_6, ew_6⟩ : ∃ z9, z9 = hp_set y (mCa m1) (.inl (G.2.2.1 0, 192, .inl f_5)) := ⟨_, rfl⟩
        have hI : eI G S0 w_6 H := by rw [ew_6]; exact hI
        have hoby : w_6 (mEo ms) = some (.inr (3, [.ref (mAd ms 0 0), .ref (mNa m1), .ref (mCa m1), .int (sPt d)])) := by rw [ew_6, hp_set_ne (hp_ne_oa hoby hcay)]; exact hoby
        have hn0 : w_6 (mAd ms 0 0) = some (.inr (1, [.int (nI 0), .int (sNi d 0 0), .int (sNi d 0 1), .ref (mAd m1 0 1), .ref (mAd m1 0 2), .ref (mAd m1 0 3), va_rf (pAd m1 d 0), .int (sNi d 0 2), .double (sNd d 0 0), .double (sNd d 0 1), .double (sNd d 0 2), .double (sNd d 0 3), .int (sNi d 0 3), .int (sNi d 0 4), .int (sNi d 0 5), .double (sNd d 0 4), .double (mNx m1 0 0), .double (mNx m1 0 1), .int (mNi m1 0 0), .int (mNi m1 0 1)])) := by rw [ew_6, hp_set_ne (hp_ne_oa hn0 hcay)]; exact hn0
        have hcay : w_6 (mCa m1) = some (.inl (G.2.2.1 0, 192, .inl f_5)) := by rw [ew_6]; exact hp_set_eq _ _ _
        refine lv_iload_n hx hb d_Ea_paint_81 rfl (lv_at hl 2 rfl) ?_
        refine lv_aloadN hx hb d_Ea_paint_82 (lv_at hl 0 rfl) ?_
        refine lv_ifnonnullN hx hb d_Ea_paint_84 ?_
        refine lv_iconst (v := 0) hx hb d_Ea_paint_87 (by decide) ?_
        refine lv_goto (tgt := 92) hx hb d_Ea_paint_88 (by decide) ?_
        refine lv_iadd hx hb d_Ea_paint_92 ?_
        rw [show nI (cnF d u (j9 * 16 + i9)) + 0 = nI (cnF d u (j9 * 16 + i9 + 1)) by rw [hcn]; exact Int32.add_zero _]
        refine lv_istore_n (lv' := [(3, .int (nI (cnF d u (j9 * 16 + i9 + 1)))), (6, .null), (5, .int (nI i9)), (4, .int (nI j9)), (0, .ref (mEo ms)), (1, .double u)]) hx hb d_Ea_paint_93 rfl hl (by decide) rfl (fun ls hl => ?_)
        refine lv_iinc (v := nI (i9 + 1)) (lv' := [(5, .int (nI (i9 + 1))), (3, .int (nI (cnF d u (j9 * 16 + i9 + 1)))), (6, .null), (4, .int (nI j9)), (0, .ref (mEo ms)), (1, .double u)]) hx hb d_Ea_paint_94 hl (k := 2) rfl (nI_inc i9) (by decide) rfl (fun ls hl => ?_)
        refine lv_goto (tgt := 24) hx hb d_Ea_paint_97 (by decide) ?_
        exact ii (16 - (i9 + 1)) ((i9 + 1, w_6)) ls H locs (by omega) (⟨by omega, by rw [ew_6, ef_5, hstep, ey, hp_set_set]; rfl, rfl⟩) (lv_sub hl [0, 1, 3, 4, 5] rfl) hI hS
      | some c9 =>
        rw [hT] at etp hcn
        have etp : tp = some (mAd ms c9 0) := etp
        subst etp
        have hcl : clrF d u (j9 * 16 + i9) = vC d u c9 := by unfold clrF; rw [hT]
        obtain ⟨hc1, hc2⟩ := tTop_th htr (show tIn d (tA d (fun k i => vX d u k i) (fun k => vS d u k) 5) 0 _ _ = some c9 from hT)
        have hnc : y (mAd m1 c9 0) = some (nC m1 d c9) := hpy.node hc1 hc2
        rw [e2] at hnc
        have hnw : mNi m1 c9 1 = vC d u c9 := (hst c9 hc1 hc2).2.2.2
        rw [hcl, ← hnw] at hstep
        have hcn : cnF d u (j9 * 16 + i9 + 1) = cnF d u (j9 * 16 + i9) + 1 := hcn
        refine lv_astore (lv' := [(6, .ref (mAd ms c9 0)), (5, .int (nI i9)), (3, .int (nI (cnF d u (j9 * 16 + i9)))), (4, .int (nI j9)), (0, .ref (mEo ms)), (1, .double u)]) hx hb d_Ea_paint_52 hl (by decide) rfl (fun ls hl => ?_)
        refine lv_aload_n hx hb d_Ea_paint_54 rfl (lv_at hl 4 rfl) ?_
        refine hp_get (ci := 3) (v := .ref (mCa m1)) (C := R_Ea) (T := F_Ea) (N := 4) hx hb hg i_Ea hown hK hI hoby rfl 2 (by decide) (hg _ k_245) (fun _ h9 => h9) rfl d_Ea_paint_55 ?_
        refine lv_iload hx hb d_Ea_paint_58 (lv_at hl 3 rfl) ?_
        refine lv_bipush (v := 16) hx hb d_Ea_paint_60 (by decide) ?_
        refine lv_imul hx hb d_Ea_paint_62 ?_
        refine lv_iload hx hb d_Ea_paint_63 (lv_at hl 1 rfl) ?_
        refine lv_iadd hx hb d_Ea_paint_65 ?_
        refine lv_aload hx hb d_Ea_paint_66 (lv_at hl 0 rfl) ?_
        refine lv_ifnonnull (tgt := 75) hx hb d_Ea_paint_68 (by decide) ?_
        refine lv_aload hx hb d_Ea_paint_75 (lv_at hl 0 rfl) ?_
        refine hp_getN (ci := 1) (v := .int (mNi m1 c9 1)) (C := R_No) (T := F_No) (N := 20) hx hb hg i_No hown hK hI hnc rfl 19 (by decide) (hE.N q_201) (fun _ h9 => h9) rfl d_Ea_paint_77 ?_
        rw [eix]
        refine hp_iast hx hb hK hI hS 0 hcay rfl (vp_in_nI (by omega) (by decide)) d_Ea_paint_80 (fun H locs hI hS hsz => ?_)
        rw [nI_clamp (n := (j9 * 16 + i9)) (by omega)] at hI
        obtain ⟨f_9, ef_9⟩ : ∃ z9, z9 = upd (ptF d u (j9 * 16 + i9)) (j9 * 16 + i9) (mNi m1 c9 1) := ⟨_, rfl⟩
        rw [← ef_9] at hI
        obtain ⟨w_10, ew_10⟩ : ∃ z9, z9 = hp_set y (mCa m1) (.inl (G.2.2.1 0, 192, .inl f_9)) := ⟨_, rfl⟩
        have hI : eI G S0 w_10 H := by rw [ew_10]; exact hI
        have hnc : w_10 (mAd ms c9 0) = some (.inr (1, [.int (nI c9), .int (sNi d c9 0), .int (sNi d c9 1), .ref (mAd m1 c9 1), .ref (mAd m1 c9 2), .ref (mAd m1 c9 3), va_rf (pAd m1 d c9), .int (sNi d c9 2), .double (sNd d c9 0), .double (sNd d c9 1), .double (sNd d c9 2), .double (sNd d c9 3), .int (sNi d c9 3), .int (sNi d c9 4), .int (sNi d c9 5), .double (sNd d c9 4), .double (mNx m1 c9 0), .double (mNx m1 c9 1), .int (mNi m1 c9 0), .int (mNi m1 c9 1)])) := by rw [ew_10, hp_set_ne (hp_ne_oa hnc hcay)]; exact hnc
        have hoby : w_10 (mEo ms) = some (.inr (3, [.ref (mAd ms 0 0), .ref (mNa m1), .ref (mCa m1), .int (sPt d)])) := by rw [ew_10, hp_set_ne (hp_ne_oa hoby hcay)]; exact hoby
        have hcay : w_10 (mCa m1) = some (.inl (G.2.2.1 0, 192, .inl f_9)) := by rw [ew_10]; exact hp_set_eq _ _ _
        refine lv_iload_n hx hb d_Ea_paint_81 rfl (lv_at hl 2 rfl) ?_
        refine lv_aload hx hb d_Ea_paint_82 (lv_at hl 0 rfl) ?_
        refine lv_ifnonnull (tgt := 91) hx hb d_Ea_paint_84 (by decide) ?_
        refine lv_iconst (v := 1) hx hb d_Ea_paint_91 (by decide) ?_
        refine lv_iadd hx hb d_Ea_paint_92 ?_
        rw [show nI (cnF d u (j9 * 16 + i9)) + 1 = nI (cnF d u (j9 * 16 + i9 + 1)) by rw [hcn]; exact nI_1 _]
        refine lv_istore_n (lv' := [(3, .int (nI (cnF d u (j9 * 16 + i9 + 1)))), (6, .ref (mAd ms c9 0)), (5, .int (nI i9)), (4, .int (nI j9)), (0, .ref (mEo ms)), (1, .double u)]) hx hb d_Ea_paint_93 rfl hl (by decide) rfl (fun ls hl => ?_)
        refine lv_iinc (v := nI (i9 + 1)) (lv' := [(5, .int (nI (i9 + 1))), (3, .int (nI (cnF d u (j9 * 16 + i9 + 1)))), (6, .ref (mAd ms c9 0)), (4, .int (nI j9)), (0, .ref (mEo ms)), (1, .double u)]) hx hb d_Ea_paint_94 hl (k := 2) rfl (nI_inc i9) (by decide) rfl (fun ls hl => ?_)
        refine lv_goto (tgt := 24) hx hb d_Ea_paint_97 (by decide) ?_
        exact ii (16 - (i9 + 1)) ((i9 + 1, w_10)) ls H locs (by omega) (⟨by omega, by rw [ew_10, ef_9, hstep, ey, hp_set_set]; rfl, rfl⟩) (lv_sub hl [0, 1, 3, 4, 5] rfl) hI hS

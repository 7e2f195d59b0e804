/-! topAt -/
theorem s5_neg {s : Int32} (h : s5 s) : -s = -2 ∨ -s = -1 ∨ -s = 0 ∨ -s = 1 ∨ -s = 2 := by
  rcases h with rfl | rfl | rfl | rfl | rfl <;> decide
theorem tu_eq {d : DS} {k t : Nat} (ht : t < 4) (h : sNi d k 3 = nI t) : tu d k = t := by
  unfold tu
  rw [h]
  exact nI_clamp (by omega)
set_option maxHeartbeats 4000000 in
set_option maxRecDepth 100000 in
theorem m_No_topAt (l : Launch) (G : EG) (S0 : Nat) (w : hp_M) (ms : MS) (d : DS) (dp : Nat → Nat) (hp' : ePic G ms d w) (htr : tOk d dp) (hv0 : vOk d) (hrd : rdy d (mNx ms) (fun j => mNi ms j 0)) (f : Nat) (hTA : ∀ f', f' + 1 = f → TAc l G S0 w ms d dp f') : TAc l G S0 w ms d dp f := by
  intro k hk hkt hk0 hdk a b ha hb'
  refine Met.ofW (cc := b_No_topAt) (maxL := 12) (ret := (some (.object "SceneEasel$Node"))) (by decide) rfl ?_
  intro p e s m args below meth c s₁ B hml hv
  obtain ⟨rfl, hE, hI, hz⟩ := hv
  have hx := B.exec
  have hb := B.bytes
  have hr := B.returns
  have hts := atoms_spec (ws := w_No_topAt) B.pre
  have hg : ∀ w ∈ gw, w.before _ s = true := fun w h => hts w (List.mem_cons_of_mem _ h)
  have hown : s.vm.findClass "SceneEasel$Node" = some m.cls := findClass_of_methodNamed B.named
  have hlocks := B.notSynchronized
  have hK := hE.K
  have hS : va_S (hp_A S0) s.heap s.heap [] := va_S.rf
  have hl := lv_entry ([.ref (mAd ms k 0), .double a, .double b]) (n := 12) (Nat.le_of_ble_eq_true rfl)
  rw [lg_entry_eq]
  generalize (lg_sl ([.ref (mAd ms k 0), .double a, .double b]) ++ List.replicate (12 - (lg_sl ([.ref (mAd ms k 0), .double a, .double b])).length) Slot.unset).toArray = ls at hl ⊢
  have hl : lv_has ls 12 [(0, .ref (mAd ms k 0)), (1, .double a), (3, .double b)] := hl
  have hn := hp'.node hk hkt
  have hvk := hv0 k hk hkt
  obtain ⟨hx0, hx1, hs5⟩ := hrd k hk hkt
  have hdp1 : 1 ≤ dp k := by
    obtain ⟨g, -, -, -, -, e5, -⟩ := htr.2.2.2.2.1 k hk hkt hk0
    omega
  have hd0 : dO (dp k - 1) (FP.dsub a (mNx ms k 0)) := ha.sub (by omega) hx0
  have hd1 : dO (dp k - 1) (FP.dsub b (mNx ms k 1)) := hb'.sub (by omega) hx1
  obtain ⟨t, ht4, ht⟩ := hvk.2.2.2.1
  have etu := tu_eq ht4 ht
  have htrn := trn_ok (q := (FP.dsub a (mNx ms k 0), FP.dsub b (mNx ms k 1))) hd0 hd1
  have hloc := locP_ok (d := d) (nx := mNx ms) (ns := fun j => mNi ms j 0) (k := k) (g := dp k - 1) (by omega) ha hb' hx0 hx1 hs5
  have eloc : locP d (mNx ms) (fun j => mNi ms j 0) k a b = (FP.dmul (trn (FP.dsub a (mNx ms k 0), FP.dsub b (mNx ms k 1)) t).1 (pw2 (-(mNi ms k 0))), FP.dmul (trn (FP.dsub a (mNx ms k 0), FP.dsub b (mNx ms k 1)) t).2 (pw2 (-(mNi ms k 0)))) := by
    unfold locP
    rw [etu]
  rw [show dp k - 1 + 1 = dp k by omega, eloc] at hloc
  obtain ⟨hl1, hl2⟩ := hloc
  refine lv_aload_n hx hb d_No_topAt_0 rfl (lv_at hl 0 rfl) ?_
  refine hp_get (ci := 1) (v := .int (sNi d k 2)) (C := R_No) (T := F_No) (N := 20) hx hb hg i_No hown hK hI hn rfl 7 (by decide) (hg _ k_180) (fun _ h9 => h9) rfl d_No_topAt_1 ?_
  refine lv_if_eq (tgt := 9) hx hb d_No_topAt_4 (by decide) (fun c0 => ?_) (fun c0 => ?_)
  · refine lv_dload_n hx hb d_No_topAt_9 rfl (lv_at hl 1 rfl) ?_
    refine lv_aload_n hx hb d_No_topAt_10 rfl (lv_at hl 0 rfl) ?_
    refine hp_get (ci := 1) (v := .double (mNx ms k 0)) (C := R_No) (T := F_No) (N := 20) hx hb hg i_No hown hK hI hn rfl 16 (by decide) (hg _ k_197) (fun _ h9 => h9) rfl d_No_topAt_11 ?_
    refine lv_dsub hx hb d_No_topAt_14 hd0.nn ?_
    refine lv_dstore (lv' := [(5, .double (FP.dsub a (mNx ms k 0))), (0, .ref (mAd ms k 0)), (1, .double a), (3, .double b)]) hx hb d_No_topAt_15 hl (by decide) rfl (fun ls hl => ?_)
    refine lv_dload_n hx hb d_No_topAt_17 rfl (lv_at hl 3 rfl) ?_
    refine lv_aload_n hx hb d_No_topAt_18 rfl (lv_at hl 1 rfl) ?_
    refine hp_get (ci := 1) (v := .double (mNx ms k 1)) (C := R_No) (T := F_No) (N := 20) hx hb hg i_No hown hK hI hn rfl 17 (by decide) (hg _ k_198) (fun _ h9 => h9) rfl d_No_topAt_19 ?_
    refine lv_dsub hx hb d_No_topAt_22 hd1.nn ?_
    refine lv_dstore (lv' := [(7, .double (FP.dsub b (mNx ms k 1))), (5, .double (FP.dsub a (mNx ms k 0))), (0, .ref (mAd ms k 0)), (1, .double a), (3, .double b)]) hx hb d_No_topAt_23 hl (by decide) rfl (fun ls hl => ?_)
    refine lv_iconst (v := 0) hx hb d_No_topAt_25 (by decide) ?_
    refine lv_istore (lv' := [(9, .int 0), (7, .double (FP.dsub b (mNx ms k 1))), (5, .double (FP.dsub a (mNx ms k 0))), (0, .ref (mAd ms k 0)), (1, .double a), (3, .double b)]) hx hb d_No_topAt_26 hl (by decide) rfl (fun ls hl => ?_)
    refine W.lpw (fun j (i : Nat) => i ≤ t ∧ j = t - i) (fun (i : Nat) => w) (fun (i : Nat) => [(9, .int (nI i)), (7, .double (trn (FP.dsub a (mNx ms k 0), FP.dsub b (mNx ms k 1)) i).2), (5, .double (trn (FP.dsub a (mNx ms k 0), FP.dsub b (mNx ms k 1)) i).1), (0, .ref (mAd ms k 0)), (1, .double a), (3, .double b)]) (fun (i : Nat) => 0) (fun (i : Nat) => 0) 12 28 (fun (i : Nat) => []) (t) (0) (⟨Nat.zero_le _, rfl⟩) (lv_sub hl [0, 1, 2, 3, 4, 5] rfl) hI hS ?_
    rintro j i ls H locs hP hl hI hS ih
    try dsimp only at hP hl hI ⊢
    obtain ⟨h1, h2⟩ := hP
    refine lv_iload hx hb d_No_topAt_28 (lv_at hl 0 rfl) ?_
    refine lv_aload_n hx hb d_No_topAt_30 rfl (lv_at hl 3 rfl) ?_
    refine hp_get (ci := 1) (v := .int (sNi d k 3)) (C := R_No) (T := F_No) (N := 20) hx hb hg i_No hown hK hI hn rfl 12 (by decide) (hg _ k_190) (fun _ h9 => h9) rfl d_No_topAt_31 ?_
    refine lv_icmp_ge (tgt := 56) hx hb d_No_topAt_34 (by decide) (fun c1 => ?_) (fun c1 => ?_)
    · have hi : i = t := by
        rw [ht] at c1
        have := (nI_leI (a := t) (b := i) (by omega) (by omega)).mp c1
        omega
      subst hi
      refine lv_aload_n hx hb d_No_topAt_56 rfl (lv_at hl 3 rfl) ?_
      refine hp_get (ci := 1) (v := .int (mNi ms k 0)) (C := R_No) (T := F_No) (N := 20) hx hb hg i_No hown hK hI hn rfl 18 (by decide) (hg _ k_199) (fun _ h9 => h9) rfl d_No_topAt_57 ?_
      refine lv_ineg hx hb d_No_topAt_60 ?_
      refine ec_d (va_runSN (As := [.int (-(mNi ms k 0))]) (rest := []) ⟨hx, hb, hml, hown, hts⟩ (m_Ea_powerOfTwo l G S0 w (-(mNi ms k 0)) (s5_neg hs5)) ⟨va_cnB 1 hts (gw_code k_681) rfl rfl rfl (hE.Nw q_679) (hg _ k_60) (by decide +kernel) ⟨by show 10 + (0) + 1 ≤ 10 + (3 * f + 6); omega, by show 8 + (4 + 11) + (100 + 60 * (0)) ≤ 100 + 60 * (3 * f + 6); omega⟩, hg _ k_680, trivial⟩ (eB.preS hE hI hS hz) rfl rfl hl.1 rfl (lv_room (Nat.le_of_ble_eq_true rfl)) d_No_topAt_61 ⟨Nat.le_of_ble_eq_true rfl, Nat.le_of_ble_eq_true rfl⟩) hS (fun pw w_1 H locs ew_1 hI hsz hS => ?_)
      obtain ⟨epw, ew_1⟩ := ew_1
      have ew_1 := ew_1.symm
      subst ew_1
      subst epw
      refine lv_dstore (lv' := [(9, .double (pw2 (-(mNi ms k 0)))), (7, .double (trn (FP.dsub a (mNx ms k 0), FP.dsub b (mNx ms k 1)) i).2), (5, .double (trn (FP.dsub a (mNx ms k 0), FP.dsub b (mNx ms k 1)) i).1), (0, .ref (mAd ms k 0)), (1, .double a), (3, .double b)]) hx hb d_No_topAt_64 hl (by decide) rfl (fun ls hl => ?_)
      refine lv_aload_n hx hb d_No_topAt_66 rfl (lv_at hl 3 rfl) ?_
      refine hp_get (ci := 1) (v := .int (sNi d k 0)) (C := R_No) (T := F_No) (N := 20) hx hb hg i_No hown hK hI hn rfl 1 (by decide) (hg _ k_168) (fun _ h9 => h9) rfl d_No_topAt_67 ?_
      refine lv_if_ne (tgt := 88) hx hb d_No_topAt_70 (by decide) (fun ck => ?_) (fun ck => ?_)
      · refine lv_aload_n hx hb d_No_topAt_88 rfl (lv_at hl 3 rfl) ?_
        refine lv_dload hx hb d_No_topAt_89 (lv_at hl 2 rfl) ?_
        refine lv_dload hx hb d_No_topAt_91 (lv_at hl 0 rfl) ?_
        refine lv_dmul hx hb d_No_topAt_93 (fx_nn hl1.fin) ?_
        refine lv_dload hx hb d_No_topAt_94 (lv_at hl 1 rfl) ?_
        refine lv_dload hx hb d_No_topAt_96 (lv_at hl 0 rfl) ?_
        refine lv_dmul hx hb d_No_topAt_98 (fx_nn hl2.fin) ?_
        refine ec_i (va_runV (As := [.double (FP.dmul (trn (FP.dsub a (mNx ms k 0), FP.dsub b (mNx ms k 1)) i).1 (pw2 (-(mNi ms k 0)))), .double (FP.dmul (trn (FP.dsub a (mNx ms k 0), FP.dsub b (mNx ms k 1)) i).2 (pw2 (-(mNi ms k 0))))]) (rest := []) ⟨hx, hb, hml, hown, hts⟩ (m_No_covers l G S0 w ms d hp' hv0 k hk hkt ck (dp k) (by omega) _ _ hl1 hl2) (cwV 2 hts (gw_V k_683 k_685 k_31 k_61 k_686) rfl rfl rfl (by decide +kernel) ⟨by show 10 + (0) + 1 ≤ 10 + (3 * f + 6); omega, by show 8 + (5 + 11) + (100 + 60 * (0)) ≤ 100 + 60 * (3 * f + 6); omega⟩) (eB.preV hE hI hS hz rfl hn) rfl rfl hl.1 rfl (lv_room (Nat.le_of_ble_eq_true rfl)) d_No_topAt_99 ⟨Nat.le_of_ble_eq_true rfl, Nat.le_of_ble_eq_true rfl⟩) hS (fun cv w_2 H locs ew_2 hI hsz hS => ?_)
        obtain ⟨ecv, ew_2⟩ := ew_2
        have ew_2 := ew_2.symm
        subst ew_2
        have hcv : covB (sNi d k 0) (sNd d k 0) (sNd d k 1) (locP d (mNx ms) (fun j => mNi ms j 0) k a b).1 (locP d (mNx ms) (fun j => mNi ms j 0) k a b).2 = covB (sNi d k 0) (sNd d k 0) (sNd d k 1) (FP.dmul (trn (FP.dsub a (mNx ms k 0), FP.dsub b (mNx ms k 1)) i).1 (pw2 (-(mNi ms k 0)))) (FP.dmul (trn (FP.dsub a (mNx ms k 0), FP.dsub b (mNx ms k 1)) i).2 (pw2 (-(mNi ms k 0)))) := by rw [eloc]
        rw [← hcv] at ecv
        cases hB : covB (sNi d k 0) (sNd d k 0) (sNd d k 1) (locP d (mNx ms) (fun j => mNi ms j 0) k a b).1 (locP d (mNx ms) (fun j => mNi ms j 0) k a b).2 with
        | false =>
          rw [hB] at ecv
          have ecv : cv = 0 := ecv
          subst ecv
          refine lv_if_eq (tgt := 109) hx hb d_No_topAt_102 (by decide) (fun c9 => ?_) (fun c9 => absurd (rfl) c9)
          refine lv_null hx hb d_No_topAt_109 ?_
          exact W.aret (v := va_rf none) hx hb hr (Or.inl ⟨_, rfl⟩) (Or.inl rfl) (fun t ht hW => ⟨⟨none, w, rfl, ⟨by rw [tA_succ, if_pos c0, if_neg ck, hB]; rfl, rfl⟩, eWo ht hI⟩, hS.F ht⟩) hS.2.2 d_No_topAt_110
        | true =>
          rw [hB] at ecv
          have ecv : cv = 1 := ecv
          subst ecv
          refine lv_if_eq (tgt := 109) hx hb d_No_topAt_102 (by decide) (fun c9 => absurd c9 (by decide)) (fun c9 => ?_)
          refine lv_aload_n hx hb d_No_topAt_105 rfl (lv_at hl 3 rfl) ?_
          refine lv_goto (tgt := 110) hx hb d_No_topAt_106 (by decide) ?_
          exact W.aret (v := va_rf (some (mAd ms k 0))) hx hb hr (Or.inl ⟨_, rfl⟩) (Or.inr ⟨_, rfl⟩) (fun t ht hW => ⟨⟨(some (mAd ms k 0)), w, rfl, ⟨by rw [tA_succ, if_pos c0, if_neg ck, hB]; rfl, rfl⟩, eWo ht hI⟩, hS.F ht⟩) hS.2.2 d_No_topAt_110
      · refine lv_aload_n hx hb d_No_topAt_73 rfl (lv_at hl 3 rfl) ?_
        refine lv_dload hx hb d_No_topAt_74 (lv_at hl 2 rfl) ?_
        refine lv_dload hx hb d_No_topAt_76 (lv_at hl 0 rfl) ?_
        refine lv_dmul hx hb d_No_topAt_78 (fx_nn hl1.fin) ?_
        refine lv_dload hx hb d_No_topAt_79 (lv_at hl 1 rfl) ?_
        refine lv_dload hx hb d_No_topAt_81 (lv_at hl 0 rfl) ?_
        refine lv_dmul hx hb d_No_topAt_83 (fx_nn hl2.fin) ?_
        refine ec_o (va_runV (As := [.double (FP.dmul (trn (FP.dsub a (mNx ms k 0), FP.dsub b (mNx ms k 1)) i).1 (pw2 (-(mNi ms k 0)))), .double (FP.dmul (trn (FP.dsub a (mNx ms k 0), FP.dsub b (mNx ms k 1)) i).2 (pw2 (-(mNi ms k 0))))]) (rest := []) ⟨hx, hb, hml, hown, hts⟩ (m_No_topInside l G S0 w ms d dp hp' htr hv0 f hTA k hk hkt hdk _ _ hl1 hl2) (cwV 2 hts (gw_V k_682 k_659 k_27 k_61 k_660) rfl rfl rfl (by decide +kernel) ⟨by show 10 + (3 * f + 5) + 1 ≤ 10 + (3 * f + 6); omega, by show 8 + (12 + 11) + (100 + 60 * (3 * f + 5)) ≤ 100 + 60 * (3 * f + 6); omega⟩) (eB.preV hE hI hS hz rfl hn) rfl rfl hl.1 rfl (lv_room (Nat.le_of_ble_eq_true rfl)) d_No_topAt_84 ⟨Nat.le_of_ble_eq_true rfl, Nat.le_of_ble_eq_true rfl⟩) hS (fun tp w_3 H locs ew_3 hI hsz hS => ?_)
        obtain ⟨etp, ew_3⟩ := ew_3
        have ew_3 := ew_3.symm
        subst ew_3
        exact W.aret (v := va_rf tp) hx hb hr (Or.inl ⟨_, rfl⟩) (va_rf_or _) (fun t ht hW => ⟨⟨tp, w, rfl, ⟨by rw [tA_succ, if_pos c0, if_pos ck, eloc]; exact etp, rfl⟩, eWo ht hI⟩, hS.F ht⟩) hS.2.2 d_No_topAt_87
    · have hi : i < t := by
        rw [ht] at c1
        rcases Nat.lt_or_ge i t with q | q
        · exact q
        · exact absurd ((nI_leI (a := t) (b := i) (by omega) (by omega)).mpr q) c1
      refine lv_dload hx hb d_No_topAt_37 (lv_at hl 2 rfl) ?_
      refine lv_dneg hx hb d_No_topAt_39 ?_
      refine lv_dstore (lv' := [(10, .double (FP.dneg (trn (FP.dsub a (mNx ms k 0), FP.dsub b (mNx ms k 1)) i).1)), (9, .int (nI i)), (7, .double (trn (FP.dsub a (mNx ms k 0), FP.dsub b (mNx ms k 1)) i).2), (5, .double (trn (FP.dsub a (mNx ms k 0), FP.dsub b (mNx ms k 1)) i).1), (0, .ref (mAd ms k 0)), (1, .double a), (3, .double b)]) hx hb d_No_topAt_40 hl (by decide) rfl (fun ls hl => ?_)
      refine lv_dload hx hb d_No_topAt_42 (lv_at hl 2 rfl) ?_
      refine lv_dstore (lv' := [(5, .double (trn (FP.dsub a (mNx ms k 0), FP.dsub b (mNx ms k 1)) i).2), (10, .double (FP.dneg (trn (FP.dsub a (mNx ms k 0), FP.dsub b (mNx ms k 1)) i).1)), (9, .int (nI i)), (7, .double (trn (FP.dsub a (mNx ms k 0), FP.dsub b (mNx ms k 1)) i).2), (0, .ref (mAd ms k 0)), (1, .double a), (3, .double b)]) hx hb d_No_topAt_44 hl (by decide) rfl (fun ls hl => ?_)
      refine lv_dload hx hb d_No_topAt_46 (lv_at hl 1 rfl) ?_
      refine lv_dstore (lv' := [(7, .double (FP.dneg (trn (FP.dsub a (mNx ms k 0), FP.dsub b (mNx ms k 1)) i).1)), (5, .double (trn (FP.dsub a (mNx ms k 0), FP.dsub b (mNx ms k 1)) i).2), (10, .double (FP.dneg (trn (FP.dsub a (mNx ms k 0), FP.dsub b (mNx ms k 1)) i).1)), (9, .int (nI i)), (0, .ref (mAd ms k 0)), (1, .double a), (3, .double b)]) hx hb d_No_topAt_48 hl (by decide) rfl (fun ls hl => ?_)
      refine lv_iinc (v := nI (i + 1)) (lv' := [(9, .int (nI (i + 1))), (7, .double (FP.dneg (trn (FP.dsub a (mNx ms k 0), FP.dsub b (mNx ms k 1)) i).1)), (5, .double (trn (FP.dsub a (mNx ms k 0), FP.dsub b (mNx ms k 1)) i).2), (10, .double (FP.dneg (trn (FP.dsub a (mNx ms k 0), FP.dsub b (mNx ms k 1)) i).1)), (0, .ref (mAd ms k 0)), (1, .double a), (3, .double b)]) hx hb d_No_topAt_50 hl (k := 3) rfl (nI_inc i) (by decide) rfl (fun ls hl => ?_)
      refine lv_goto (tgt := 28) hx hb d_No_topAt_53 (by decide) ?_
      exact ih (t - (i + 1)) (i + 1) ls H locs (by omega) (⟨by omega, rfl⟩) (lv_sub hl [0, 1, 2, 4, 5, 6] rfl) hI hS
  · refine lv_null hx hb d_No_topAt_7 ?_
    exact W.aret (v := va_rf none) hx hb hr (Or.inl ⟨_, rfl⟩) (Or.inl rfl) (fun t ht hW => ⟨⟨none, w, rfl, ⟨by rw [tA_succ, if_neg c0]; rfl, rfl⟩, eWo ht hI⟩, hS.F ht⟩) hS.2.2 d_No_topAt_8
theorem TA_all (l : Launch) (G : EG) (S0 : Nat) (w : hp_M) (ms : MS) (d : DS) (dp : Nat → Nat) (hp' : ePic G ms d w) (htr : tOk d dp) (hv0 : vOk d) (hrd : rdy d (mNx ms) (fun j => mNi ms j 0)) : ∀ f, TAc l G S0 w ms d dp f
  | 0 => m_No_topAt l G S0 w ms d dp hp' htr hv0 hrd 0 (fun f' h => by omega)
  | f + 1 => m_No_topAt l G S0 w ms d dp hp' htr hv0 hrd (f + 1) (fun f' h => by
      have e : f' = f := by omega
      subst e
      exact TA_all l G S0 w ms d dp hp' htr hv0 hrd f')
/-- the top shape in the root -/
theorem m_top (l : Launch) (G : EG) (S0 : Nat) (w : hp_M) (ms : MS) (d : DS) (dp : Nat → Nat) (hp' : ePic G ms d w) (htr : tOk d dp) (hv0 : vOk d) (hrd : rdy d (mNx ms) (fun j => mNi ms j 0)) (a b : UInt64) (ha : pR 0 a) (hb' : pR 0 b) : Met l y_No_topInside w_No_topInside (rl 20 0 0) (eP G S0 w [.ref (mAd ms 0 0), .double a, .double b]) (va_Qo (fun r z => r = (tIn d (tA d (mNx ms) (fun j => mNi ms j 0) 5) 0 a b).map (fun c => mAd ms c 0) ∧ z = w) (eW G S0) (hp_A S0)) 0 0 (hp_A S0) :=
  m_No_topInside l G S0 w ms d dp hp' htr hv0 5 (fun f' _ => TA_all l G S0 w ms d dp hp' htr hv0 hrd f') 0 (by decide) htr.1 (by rw [htr.2.2.2.1]) a b (by rw [htr.2.2.2.1]; exact ha) (by rw [htr.2.2.2.1]; exact hb')

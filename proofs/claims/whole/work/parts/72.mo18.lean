/-! the model: around -/
set_option maxHeartbeats 4000000 in
set_option maxRecDepth 100000 in
theorem m_Mo_around (l : Launch) (G : EG) (S0 : Nat) (Q : Nat → Nat) (hQ : qInj Q) (X : XS) (w0 : hp_M) (d : DS) (dp : Nat → Nat) (htr : tOk d dp) (hP' : mP X d dp) (hv1 : vOk d) (hr0 : sNi d 0 3 = 0) (n sd : Int32) (u : UInt64) (hu : fx3 u) : Met l y_Mo_around w_Mo_around (rl 4 0 0) (eP G S0 (mW G Q X w0) [.ref (Q 25), .int n, .int sd, .double u]) (va_Qd (fun r z => (¬ (isN d n ∧ (0 ≤ sd ∧ sd ≤ 3) ∧ inT u) ∧ z = mW G Q (xsT X 1) w0) ∨ ∃ k j, (k < 14 ∧ n = nI k ∧ sTh d k = true ∧ j < 4 ∧ sd = nI j ∧ inT u) ∧ ∃ Y, z = mW G Q Y w0 ∧ mP Y d dp ∧ ((arB d dp u k = none ∧ Y.2.2.2.2 = 2) ∨ ∃ q, arB d dp u k = some q ∧ fx (arG dp k) (sdB j q) r ∧ Y.2.2.2.2 = 0)) (eW G S0) (hp_A S0)) 0 0 (hp_A S0) := by
  refine Met.ofW (cc := b_Mo_around) (maxL := 6) (ret := (some .double)) (by decide) rfl ?_
  intro p e s m args below meth c s₁ B hml hv
  obtain ⟨rfl, hE, hI, hz⟩ := hv
  have hx := B.exec
  have hb := B.bytes
  have hr := B.returns
  have hts := atoms_spec (ws := w_Mo_around) B.pre
  have hg : ∀ w ∈ gw, w.before _ s = true := fun w h => hts w (List.mem_cons_of_mem _ h)
  have hown : s.vm.findClass "SceneEaselModel" = some m.cls := findClass_of_methodNamed B.named
  have hlocks := B.notSynchronized
  have hK := hE.K
  have hS : va_S (hp_A S0) s.heap s.heap [] := va_S.rf
  have hl := lv_entry ([.ref (Q 25), .int n, .int sd, .double u]) (n := 6) (Nat.le_of_ble_eq_true rfl)
  rw [lg_entry_eq]
  generalize (lg_sl ([.ref (Q 25), .int n, .int sd, .double u]) ++ List.replicate (6 - (lg_sl ([.ref (Q 25), .int n, .int sd, .double u])).length) Slot.unset).toArray = ls at hl ⊢
  have hl : lv_has ls 6 [(0, .ref (Q 25)), (1, .int n), (2, .int sd), (3, .double u)] := hl
  obtain ⟨hM, ⟨L, hO⟩, hC⟩ := hP'
  have hP' : mP X d dp := ⟨hM, ⟨L, hO⟩, hC⟩
  refine lv_aload_n hx hb d_Mo_around_0 rfl (lv_at hl 0 rfl) ?_
  refine lv_aload_n hx hb d_Mo_around_1 rfl (lv_at hl 0 rfl) ?_
  refine lv_iload_n hx hb d_Mo_around_2 rfl (lv_at hl 1 rfl) ?_
  refine W.midw (G := G) (S0 := S0) (fun (o : Bool) => o = true ↔ isN d n ∧ (0 ≤ sd ∧ sd ≤ 3) ∧ inT u) (fun (o : Bool) => (mW G Q X w0)) (fun (o : Bool) => [(0, .ref (Q 25)), (1, .int n), (2, .int sd), (3, .double u)]) (fun (o : Bool) => 0) (fun (o : Bool) => 0) 6 34 (fun (o : Bool) => [.int (bI o), .ref (Q 25)]) ?_ (fun K => ?_)
  · rintro o ls H locs hP hl hI hS
    try dsimp only at hP hl hI ⊢
    refine ec_i (va_runV (As := [.int (bI o)]) (rest := []) ⟨hx, hb, hml, hown, hts⟩ (m_Mo_bad l G S0 Q hQ X w0 o) (cwV 1 hts (gw_V k_875 k_877 k_45 k_67 k_878) rfl rfl rfl (by decide +kernel) ⟨Nat.le_of_ble_eq_true rfl, Nat.le_of_ble_eq_true rfl⟩) (eB.preV hE hI hS hz rfl (mw_o hQ)) rfl rfl hl.1 rfl (lv_room (Nat.le_of_ble_eq_true rfl)) d_Mo_around_34 ⟨Nat.le_of_ble_eq_true rfl, Nat.le_of_ble_eq_true rfl⟩) hS (fun rb w_1 H locs ew_1 hI hsz hS => ?_)
    obtain ⟨erb, ew_1⟩ := ew_1
    subst ew_1
    subst erb
    refine mv_zeq (tgt := 42) hx hb (!o) rfl d_Mo_around_37 (by decide) (fun cb => ?_) (fun cb => ?_)
    rotate_left
    · have hbt : o = false := by cases o with | true => cases cb | false => rfl
      refine lv_dconst0 hx hb d_Mo_around_40 ?_
      exact W.dret (v := FP.dconst0) hx hb hr (fun t9 ht9 hW9 => ⟨⟨FP.dconst0, (mW G Q (xsT X (bI (!o))) w0), rfl, Or.inl ⟨fun h => (by rw [hP.mpr h] at hbt; cases hbt), by rw [hbt]; rfl⟩, eWo ht9 hI⟩, hS.F ht9⟩) hS.2.2 d_Mo_around_41
    have hbt : o = true := by cases o with | true => rfl | false => cases cb
    obtain ⟨⟨k, hk, ek, hkt⟩, hsd, hT⟩ := hP.mp hbt
    have hti := inT_ti hu hT
    obtain ⟨jj, hjj, ejj⟩ := i32_4 hsd
    have ebt : bI (!o) = 0 := by rw [hbt]; rfl
    rw [ebt] at hI
    rw [ek, ejj] at hl
    have hL := hO.le
    have hL1 : 1 ≤ L.length := (List.getElem?_eq_some_iff.mp hO.2.2.1).1
    refine lv_aload_n hx hb d_Mo_around_42 rfl (lv_at hl 0 rfl) ?_
    refine hp_get (ci := 5) (v := .int X.2.2.1) (C := R_Mo) (T := F_Mo) (N := 28) hx hb hg i_Mo hown hK hI (mw_o hQ) rfl 25 (by decide) (hg _ k_798) (fun _ h9 => h9) rfl d_Mo_around_43 ?_
    refine mv_i (y := nI L.length) (hO.nn) ?_
    refine lv_iconst (v := 1) hx hb d_Mo_around_46 (by decide) ?_
    refine mv_isub hx hb (L.length) 1 rfl rfl (by omega) d_Mo_around_47 ?_
    refine mv_i (y := dnI L.length) (dnI_of hL1) ?_
    refine lv_istore (lv' := [(5, .int (dnI L.length)), (0, .ref (Q 25)), (1, .int (nI k)), (2, .int (nI jj)), (3, .double u)]) hx hb d_Mo_around_48 hl (by decide) rfl (fun ls hl => ?_)
    refine W.lpw (fun j (q : XS × Nat) => match q with | (Z, r) => r ≤ L.length ∧ j = r ∧ xSc Z (xsT X 0) ∧ (∀ a (ha : a < L.length), r ≤ a → bxP d dp u Z L[a])) (fun (q : XS × Nat) => match q with | (Z, r) => mW G Q Z w0) (fun (q : XS × Nat) => match q with | (Z, r) => [(5, .int (dnI r)), (0, .ref (Q 25)), (1, .int (nI k)), (2, .int (nI jj)), (3, .double u)]) (fun (q : XS × Nat) => match q with | (Z, r) => 0) (fun (q : XS × Nat) => match q with | (Z, r) => 0) 6 50 (fun (q : XS × Nat) => match q with | (Z, r) => []) (L.length) ((xsT X 0, L.length)) (⟨Nat.le_refl _, rfl, xSc.rf _, fun a ha h => absurd h (by omega)⟩) (lv_sub hl [0, 1, 2, 3, 4] rfl) hI hS ?_
    rintro j ⟨Z, r⟩ ls H locs hP hl hI hS F
    try dsimp only at hP hl hI ⊢
    obtain ⟨hrL, ej, hsc, hfd⟩ := hP
    cases r with
    | zero =>
      have hl : lv_has ls 6 [(5, .int (-1)), (0, .ref (Q 25)), (1, .int (nI k)), (2, .int (nI jj)), (3, .double u)] := hl
      refine lv_iload hx hb d_Mo_around_50 (lv_at hl 0 rfl) ?_
      refine lv_if_lt (tgt := 73) hx hb d_Mo_around_52 (by decide) (fun c9 => ?_) (fun c9 => absurd (by decide) c9)
      have hPZ := (hP'.T (v := 0)).sc hsc
      have hthr : Z.2.2.2.2 = 0 := by rw [hsc.2.2]; rfl
      have hbk : bxP d dp u Z k := by
        obtain ⟨a, ha, ea⟩ := List.getElem_of_mem ((hO.2.1 k).mpr ⟨hk, hkt⟩)
        have := hfd a ha (Nat.zero_le _)
        rw [ea] at this
        exact this
      obtain ⟨hb1, hb2⟩ := hbk
      refine lv_aload_n hx hb d_Mo_around_73 rfl (lv_at hl 1 rfl) ?_
      refine hp_get (ci := 5) (v := .ref (Q 3)) (C := R_Mo) (T := F_Mo) (N := 28) hx hb hg i_Mo hown hK hI (mw_o hQ) rfl 3 (by decide) (hg _ k_776) (fun _ h9 => h9) rfl d_Mo_around_74 ?_
      refine lv_iload_n hx hb d_Mo_around_77 rfl (lv_at hl 2 rfl) ?_
      refine mv_zald hx hb hK hI 2 (Z.1 3) (mw_3 hQ) rfl k (rfl) (by omega) (by decide) d_Mo_around_78 ?_
      refine mv_i (y := bI (arB d dp u k).isSome) (hb1) ?_
      refine mv_zne (tgt := 89) hx hb (arB d dp u k).isSome rfl d_Mo_around_79 (by decide) (fun c1 => ?_) (fun c1 => ?_)
      · obtain ⟨q, hq⟩ := Option.isSome_iff_exists.mp c1
        have hex := hb2 q hq
        refine lv_iload_n hx hb d_Mo_around_89 rfl (lv_at hl 3 rfl) ?_
        refine lv_iconst (v := 2) hx hb d_Mo_around_90 (by decide) ?_
        refine mv_cge (tgt := 107) hx hb jj 2 rfl rfl (by omega) (by omega) d_Mo_around_91 (by decide) (fun c2 => ?_) (fun c2 => ?_)
        · refine lv_aload_n hx hb d_Mo_around_107 rfl (lv_at hl 1 rfl) ?_
          refine hp_get (ci := 5) (v := .ref (Q 23)) (C := R_Mo) (T := F_Mo) (N := 28) hx hb hg i_Mo hown hK hI (mw_o hQ) rfl 23 (by decide) (hg _ k_796) (fun _ h9 => h9) rfl d_Mo_around_108 ?_
          refine lv_iload_n hx hb d_Mo_around_111 rfl (lv_at hl 2 rfl) ?_
          refine lv_iconst (v := 2) hx hb d_Mo_around_112 (by decide) ?_
          refine mv_imul hx hb k 2 rfl rfl d_Mo_around_113 ?_
          refine lv_iload_n hx hb d_Mo_around_114 rfl (lv_at hl 3 rfl) ?_
          refine mv_iadd hx hb (k * 2) jj rfl rfl d_Mo_around_115 ?_
          refine lv_iconst (v := 2) hx hb d_Mo_around_116 (by decide) ?_
          refine mv_isub hx hb (k * 2 + jj) 2 rfl rfl (by omega) d_Mo_around_117 ?_
          refine mv_dald hx hb hK hI 1 (Z.2.1 23) (mw_23 hQ) rfl (k * 2 + jj - 2) (rfl) (by omega) (by decide) d_Mo_around_118 ?_
          exact W.dret (v := ((Z.2.1 23) (k * 2 + jj - 2))) hx hb hr (fun t9 ht9 hW9 => ⟨⟨((Z.2.1 23) (k * 2 + jj - 2)), (mW G Q Z w0), rfl, Or.inr ⟨k, jj, ⟨hk, ek, hkt, hjj, ejj, hT⟩, Z, rfl, hPZ, Or.inr ⟨q, hq, by obtain ⟨x1, x2, x3, x4⟩ := hex; rcases (show jj = 2 ∨ jj = 3 by omega) with rfl | rfl; exact x3; exact x4, hthr⟩⟩, eWo ht9 hI⟩, hS.F ht9⟩) hS.2.2 d_Mo_around_119
        · refine lv_aload_n hx hb d_Mo_around_94 rfl (lv_at hl 1 rfl) ?_
          refine hp_get (ci := 5) (v := .ref (Q 22)) (C := R_Mo) (T := F_Mo) (N := 28) hx hb hg i_Mo hown hK hI (mw_o hQ) rfl 22 (by decide) (hg _ k_795) (fun _ h9 => h9) rfl d_Mo_around_95 ?_
          refine lv_iload_n hx hb d_Mo_around_98 rfl (lv_at hl 2 rfl) ?_
          refine lv_iconst (v := 2) hx hb d_Mo_around_99 (by decide) ?_
          refine mv_imul hx hb k 2 rfl rfl d_Mo_around_100 ?_
          refine lv_iload_n hx hb d_Mo_around_101 rfl (lv_at hl 3 rfl) ?_
          refine mv_iadd hx hb (k * 2) jj rfl rfl d_Mo_around_102 ?_
          refine mv_dald hx hb hK hI 1 (Z.2.1 22) (mw_22 hQ) rfl (k * 2 + jj) (rfl) (by omega) (by decide) d_Mo_around_103 ?_
          refine lv_goto (tgt := 119) hx hb d_Mo_around_104 (by decide) ?_
          exact W.dret (v := ((Z.2.1 22) (k * 2 + jj))) hx hb hr (fun t9 ht9 hW9 => ⟨⟨((Z.2.1 22) (k * 2 + jj)), (mW G Q Z w0), rfl, Or.inr ⟨k, jj, ⟨hk, ek, hkt, hjj, ejj, hT⟩, Z, rfl, hPZ, Or.inr ⟨q, hq, by obtain ⟨x1, x2, x3, x4⟩ := hex; rcases (show jj = 0 ∨ jj = 1 by omega) with rfl | rfl; exact x1; exact x2, hthr⟩⟩, eWo ht9 hI⟩, hS.F ht9⟩) hS.2.2 d_Mo_around_119
      · have hq : arB d dp u k = none := by cases hq : arB d dp u k with | none => rfl | some t => rw [hq] at c1; cases c1
        refine lv_aload_n hx hb d_Mo_around_82 rfl (lv_at hl 1 rfl) ?_
        refine lv_iconst (v := 2) hx hb d_Mo_around_83 (by decide) ?_
        refine hp_putC (ci := 5) (v := .int 2) (ty := .int) (C := R_Mo) (T := F_Mo) (N := 28) hx hb hg i_Mo t_Mo t_Mo_ok n_Mo hown hK hI hS (mw_o hQ) rfl 27 (by decide) (hg _ k_800) (fun _ h9 => h9) rfl (by decide +kernel) rfl rfl (Nat.le_of_ble_eq_true rfl) d_Mo_around_84 (fun H locs hI hS hsz => ?_)
        have hI : eI G S0 (mW G Q (xsT Z 2) w0) H := by rw [← mws_T hQ]; exact hI
        refine lv_dconst0 hx hb d_Mo_around_87 ?_
        exact W.dret (v := FP.dconst0) hx hb hr (fun t9 ht9 hW9 => ⟨⟨FP.dconst0, (mW G Q (xsT Z 2) w0), rfl, Or.inr ⟨k, jj, ⟨hk, ek, hkt, hjj, ejj, hT⟩, _, rfl, hPZ.T, Or.inl ⟨hq, rfl⟩⟩, eWo ht9 hI⟩, hS.F ht9⟩) hS.2.2 d_Mo_around_88
    | succ r =>
      have hl : lv_has ls 6 [(5, .int (nI r)), (0, .ref (Q 25)), (1, .int (nI k)), (2, .int (nI jj)), (3, .double u)] := hl
      have hOZ : mO Z d dp L := (show mO (xsT X 0) d dp L from hO).sc hsc
      have hMZ : mV Z d := (show mV (xsT X 0) d from hM.2).sc hsc
      obtain ⟨hc1, hc2⟩ := hO.th hrL
      have hch : ∀ c ∈ sCh d L[r], bxP d dp u Z c := by
        intro c hc
        obtain ⟨q1, q2, q3, -⟩ := htr.child hc1 hc2 hc
        obtain ⟨a, ha, ea⟩ := List.getElem_of_mem ((hO.2.1 c).mpr ⟨q1, q2⟩)
        obtain ⟨b, hb1, hb2⟩ := hO.2.2.2.2.2.2.2 a ha L[r] (by rw [ea]; exact q3)
        have hbl := (List.getElem?_eq_some_iff.mp hb2).1
        have : b = r := (List.getElem?_inj hbl hO.1).mp (by rw [hb2, List.getElem?_eq_getElem hrL])
        have h9 := hfd a ha (by omega)
        rw [ea] at h9
        exact h9
      obtain ⟨n0, en0⟩ : ∃ n0, L[r] = n0 := ⟨_, rfl⟩
      rw [en0] at hc1 hc2 hch
      refine lv_iload hx hb d_Mo_around_50 (lv_at hl 0 rfl) ?_
      refine lv_if_lt (tgt := 73) hx hb d_Mo_around_52 (by decide) (fun c9 => absurd c9 (nI_nlt0 (by omega))) (fun c9 => ?_)
      refine lv_aload_n hx hb d_Mo_around_55 rfl (lv_at hl 1 rfl) ?_
      refine lv_aload_n hx hb d_Mo_around_56 rfl (lv_at hl 1 rfl) ?_
      refine hp_get (ci := 5) (v := .ref (Q 11)) (C := R_Mo) (T := F_Mo) (N := 28) hx hb hg i_Mo hown hK hI (mw_o hQ) rfl 11 (by decide) (hg _ k_784) (fun _ h9 => h9) rfl d_Mo_around_57 ?_
      refine lv_iload hx hb d_Mo_around_60 (lv_at hl 0 rfl) ?_
      refine mv_iald hx hb hK hI 0 (Z.1 11) (mw_11 hQ) rfl r (rfl) (by omega) (by decide) d_Mo_around_62 ?_
      refine mv_i (y := nI n0) ((hOZ.od hrL).trans (by rw [en0])) ?_
      refine lv_dload_n hx hb d_Mo_around_63 rfl (lv_at hl 4 rfl) ?_
      refine ec_v (va_runV (As := [.int (nI n0), .double u]) (rest := []) ⟨hx, hb, hml, hown, hts⟩ (m_Mo_box l G S0 Q hQ Z w0 d dp htr hMZ hv1 hr0 n0 hc1 hc2 u hti hch) (cwV 2 hts (gw_V k_993 k_995 k_55 k_67 k_996) rfl rfl rfl (by decide +kernel) ⟨Nat.le_of_ble_eq_true rfl, Nat.le_of_ble_eq_true rfl⟩) (eB.preV hE hI hS hz rfl (mw_o hQ)) rfl rfl hl.1 rfl (lv_room (Nat.le_of_ble_eq_true rfl)) d_Mo_around_64 ⟨Nat.le_of_ble_eq_true rfl, Nat.le_of_ble_eq_true rfl⟩) hS (fun w_2 H locs ew_2 hI hsz hS => ?_)
      obtain ⟨V, ew_2, ⟨hf, hfb⟩⟩ := ew_2
      subst ew_2
      refine lv_iinc (v := dnI r) (lv' := [(5, .int (dnI r)), (0, .ref (Q 25)), (1, .int (nI k)), (2, .int (nI jj)), (3, .double u)]) hx hb d_Mo_around_67 hl (k := 0) rfl (dnI_dec r) (by decide) rfl (fun ls hl => ?_)
      refine lv_goto (tgt := 50) hx hb d_Mo_around_70 (by decide) ?_
      have hfd2 : ∀ a (ha : a < L.length), r ≤ a → bxP d dp u V L[a] := by
        intro a ha h
        by_cases e : a = r
        · subst e
          rw [en0]
          exact hfb
        · have hne : L[a] ≠ n0 := by rw [← en0]; exact nd_ne hO.1 ha hrL e
          obtain ⟨h1, h2⟩ := hfd a ha (by omega)
          exact ⟨by rw [(hf.2.1 _ hne).1]; exact h1, fun q hq => by rw [(hf.2.1 _ hne).2]; exact h2 q hq⟩
      exact F (r) ((V, r)) _ _ _ (by omega) (⟨by show r ≤ L.length; omega, rfl, hsc.tr hf.sc, hfd2⟩) (lv_sub hl [0, 1, 2, 3, 4] rfl) hI hS
  · refine ec_i (va_runV (As := [.int n]) (rest := [.ref (Q 25)]) ⟨hx, hb, hml, hown, hts⟩ (m_Mo_is l G S0 Q hQ X w0 d hM n) (cwV 1 hts (gw_V k_871 k_873 k_44 k_67 k_874) rfl rfl rfl (by decide +kernel) ⟨Nat.le_of_ble_eq_true rfl, Nat.le_of_ble_eq_true rfl⟩) (eB.preV hE hI hS hz rfl (mw_o hQ)) rfl rfl hl.1 rfl (lv_room (Nat.le_of_ble_eq_true rfl)) d_Mo_around_3 ⟨Nat.le_of_ble_eq_true rfl, Nat.le_of_ble_eq_true rfl⟩) hS (fun r_4 w_3 H locs ew_3 hI hsz hS => ?_)
    obtain ⟨ew_3, h1⟩ := ew_3
    have ew_3 := ew_3.symm
    subst ew_3
    obtain ⟨b, eb, h1⟩ := h1
    subst eb
    refine mv_zeq (tgt := 33) hx hb b rfl d_Mo_around_6 (by decide) (fun c1 => ?_) (fun c1 => ?_)
    · refine lv_iconst (v := 0) hx hb d_Mo_around_33 (by decide) ?_
      exact K (false) _ _ _ (⟨fun h => (by cases h), fun h => absurd (h1.mpr h.1) (by rw [c1]; decide)⟩) (lv_sub hl [0, 1, 2, 3] rfl) hI hS
    refine lv_iload_n hx hb d_Mo_around_9 rfl (lv_at hl 2 rfl) ?_
    refine lv_if_lt (tgt := 33) hx hb d_Mo_around_10 (by decide) (fun c2 => ?_) (fun c2 => ?_)
    · refine lv_iconst (v := 0) hx hb d_Mo_around_33 (by decide) ?_
      exact K (false) _ _ _ (⟨fun h => (by cases h), fun h => absurd h.2.1.1 (Int32.not_le.mpr c2)⟩) (lv_sub hl [0, 1, 2, 3] rfl) hI hS
    refine lv_iload_n hx hb d_Mo_around_13 rfl (lv_at hl 2 rfl) ?_
    refine lv_iconst (v := 4) hx hb d_Mo_around_14 (by decide) ?_
    refine lv_icmp_ge (tgt := 33) hx hb d_Mo_around_15 (by decide) (fun c3 => ?_) (fun c3 => ?_)
    · refine lv_iconst (v := 0) hx hb d_Mo_around_33 (by decide) ?_
      exact K (false) _ _ _ (⟨fun h => (by cases h), fun h => absurd ((i32_lt 4 3 (by decide)).mpr h.2.1.2) (Int32.not_lt.mpr c3)⟩) (lv_sub hl [0, 1, 2, 3] rfl) hI hS
    refine lv_dload_n hx hb d_Mo_around_18 rfl (lv_at hl 3 rfl) ?_
    refine lv_dconst0 hx hb d_Mo_around_19 ?_
    refine lv_ldc2d (v := 4652007308841189376) hx hb hown (hg _ k_918) d_Mo_around_20 ?_
    refine ec_i (va_runS (As := [.double u, .double FP.dconst0, .double 4652007308841189376]) (rest := [.ref (Q 25)]) ⟨hx, hb, hml, hown, hts⟩ (m_Mo_in l G S0 (mW G Q X w0) u FP.dconst0 c1000) (cwS 3 hts (gw_S k_889 k_890 k_67 k_891) rfl rfl rfl (by decide +kernel) ⟨Nat.le_of_ble_eq_true rfl, Nat.le_of_ble_eq_true rfl⟩) (eB.preS hE hI hS hz) rfl rfl hl.1 rfl (lv_room (Nat.le_of_ble_eq_true rfl)) d_Mo_around_23 ⟨Nat.le_of_ble_eq_true rfl, Nat.le_of_ble_eq_true rfl⟩) hS (fun q3 w_5 H locs ew_5 hI hsz hS => ?_)
    obtain ⟨eq3, ew_5⟩ := ew_5
    have ew_5 := ew_5.symm
    subst ew_5
    subst eq3
    refine mv_zeq (tgt := 33) hx hb (dIn u FP.dconst0 c1000) rfl d_Mo_around_26 (by decide) (fun c4 => ?_) (fun c4 => ?_)
    · refine lv_iconst (v := 0) hx hb d_Mo_around_33 (by decide) ?_
      exact K (false) _ _ _ (⟨fun h => (by cases h), fun h => absurd (dIn_iff.mpr h.2.2) (by rw [c4]; decide)⟩) (lv_sub hl [0, 1, 2, 3] rfl) hI hS
    refine lv_iconst (v := 1) hx hb d_Mo_around_29 (by decide) ?_
    refine lv_goto (tgt := 34) hx hb d_Mo_around_30 (by decide) ?_
    exact K (true) _ _ _ (⟨fun _ => ⟨h1.mp c1, ⟨Int32.not_lt.mp c2, (i32_lt 4 3 (by decide)).mp (Int32.not_le.mp c3)⟩, dIn_iff.mp c4⟩, fun _ => rfl⟩) (lv_sub hl [0, 1, 2, 3] rfl) hI hS

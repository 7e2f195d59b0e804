/-! the model: look -/
theorem nd_ne {L : List Nat} (h : L.Nodup) {a i : Nat} (ha : a < L.length) (hi : i < L.length) (e : a ≠ i) : L[a] ≠ L[i] := fun q => e ((List.getElem?_inj ha h).mp (by rw [List.getElem?_eq_getElem ha, List.getElem?_eq_getElem hi, q]))
/-- the first nodes have their points -/
def lkP (d : DS) (dp : Nat → Nat) (u x y : UInt64) (L : List Nat) (Y : XS) (i : Nat) : Prop := ∀ a (ha : a < L.length), a < i → Y.2.1 20 L[a] = (pt d dp u x y L[a]).1 ∧ Y.2.1 21 L[a] = (pt d dp u x y L[a]).2
theorem lkP.s {d : DS} {dp : Nat → Nat} {u x y : UInt64} {L : List Nat} {Y Z : XS} {i : Nat} (h : lkP d dp u x y L Y i) (hL : L.Nodup) (hi : i < L.length) (ho : ∀ c, c ≠ L[i] → Z.2.1 20 c = Y.2.1 20 c ∧ Z.2.1 21 c = Y.2.1 21 c) (hz : Z.2.1 20 L[i] = (pt d dp u x y L[i]).1 ∧ Z.2.1 21 L[i] = (pt d dp u x y L[i]).2) : lkP d dp u x y L Z (i + 1) := by
  intro a ha hai
  by_cases e : a = i
  · subst e
    exact hz
  · have hne := nd_ne hL ha hi e
    rw [(ho _ hne).1, (ho _ hne).2]
    exact h a ha (by omega)
/-- the point less the node's place -/
def qP (d : DS) (dp : Nat → Nat) (u x y : UInt64) (k : Nat) : UInt64 × UInt64 := match sPa d k with
  | none => (x, y)
  | some g => (FP.dsub (pt d dp u x y g).1 (vX d u k 0), FP.dsub (pt d dp u x y g).2 (vX d u k 1))
theorem tu_of {d : DS} {k t : Nat} (ht : t < 4) (h : sNi d k 3 = nI t) : tu d k = t := by
  unfold tu
  rw [h]
  exact nI_clamp (by omega)
theorem rwP_fin {g : Nat} {a b : UInt64} (ha : pR g a) (hb : pR g b) : vf_n64 a ∧ vf_n64 b := ⟨fx_nn ha.fin, fx_nn hb.fin⟩
set_option maxHeartbeats 8000000 in
set_option maxRecDepth 100000 in
theorem m_Mo_look (l : Launch) (G : EG) (S0 : Nat) (Q : Nat → Nat) (hQ : qInj Q) (X : XS) (w0 : hp_M) (d : DS) (dp : Nat → Nat) (htr : tOk d dp) (hM : mV X d) (L : List Nat) (hO : mO X d dp L) (hv1 : vOk d) (hr0 : sNi d 0 3 = 0) (u x y : UInt64) (hu : tiO u) (hx0 : pR 0 x) (hy0 : pR 0 y) : Met l y_Mo_look w_Mo_look (rl 2 0 0) (eP G S0 (mW G Q X w0) [.ref (Q 25), .double x, .double y, .double u]) (va_Qv (fun z => ∃ Y, z = mW G Q Y w0 ∧ xSc Y X ∧ Y.1 2 0 = bI (topF d u x y).isSome ∧ ∀ t, topF d u x y = some t → Y.1 12 0 = nI t) (eW G S0) (hp_A S0)) 0 0 (hp_A S0) := by
  refine Met.ofW (cc := b_Mo_look) (maxL := 16) (ret := none) (by decide) rfl ?_
  intro p e s m args below meth c s₁ B hml hv
  obtain ⟨rfl, hE, hI, hz⟩ := hv
  have hx := B.exec
  have hb := B.bytes
  have hr := B.returns
  have hts := atoms_spec (ws := w_Mo_look) B.pre
  have hg : ∀ w ∈ gw, w.before _ s = true := fun w h => hts w (List.mem_cons_of_mem _ h)
  have hown : s.vm.findClass "SceneEaselModel" = some m.cls := findClass_of_methodNamed B.named
  have hlocks := B.notSynchronized
  have hK := hE.K
  have hS : va_S (hp_A S0) s.heap s.heap [] := va_S.rf
  have hl := lv_entry ([.ref (Q 25), .double x, .double y, .double u]) (n := 16) (Nat.le_of_ble_eq_true rfl)
  rw [lg_entry_eq]
  generalize (lg_sl ([.ref (Q 25), .double x, .double y, .double u]) ++ List.replicate (16 - (lg_sl ([.ref (Q 25), .double x, .double y, .double u])).length) Slot.unset).toArray = ls at hl ⊢
  have hl : lv_has ls 16 [(0, .ref (Q 25)), (1, .double x), (3, .double y), (5, .double u)] := hl
  have hL := hO.le
  have hL1 : 1 ≤ L.length := (List.getElem?_eq_some_iff.mp hO.2.2.1).1
  refine lv_iconst (v := 0) hx hb d_Mo_look_0 (by decide) ?_
  refine lv_istore (lv' := [(7, .int 0), (0, .ref (Q 25)), (1, .double x), (3, .double y), (5, .double u)]) hx hb d_Mo_look_1 hl (by decide) rfl (fun ls hl => ?_)
  refine W.lpw (fun j (q : XS × Nat) => match q with | (Y, i) => i ≤ L.length ∧ j = L.length - i ∧ xSc Y X ∧ lkP d dp u x y L Y i) (fun (q : XS × Nat) => match q with | (Y, i) => mW G Q Y w0) (fun (q : XS × Nat) => match q with | (Y, i) => [(7, .int (nI i)), (0, .ref (Q 25)), (1, .double x), (3, .double y), (5, .double u)]) (fun (q : XS × Nat) => match q with | (Y, i) => 0) (fun (q : XS × Nat) => match q with | (Y, i) => 0) 16 3 (fun (q : XS × Nat) => match q with | (Y, i) => []) (L.length) ((X, 0)) (⟨Nat.zero_le _, rfl, xSc.rf X, fun a _ h => absurd h (Nat.not_lt_zero a)⟩) (lv_sub hl [0, 1, 2, 3, 4] rfl) hI hS ?_
  rintro j ⟨Y, i⟩ ls H locs hP hl hI hS O
  try dsimp only at hP hl hI ⊢
  obtain ⟨hiL, ej, hsc, hlk⟩ := hP
  have hOY := hO.sc hsc
  have hMY := hM.sc hsc
  refine lv_iload hx hb d_Mo_look_3 (lv_at hl 0 rfl) ?_
  refine lv_aload_n hx hb d_Mo_look_5 rfl (lv_at hl 1 rfl) ?_
  refine hp_get (ci := 5) (v := .int Y.2.2.1) (C := R_Mo) (T := F_Mo) (N := 28) hx hb hg i_Mo hown hK hI (mw_o hQ) rfl 25 (by decide) (hg _ k_798) (fun _ h9 => h9) rfl d_Mo_look_6 ?_
  refine mv_i (y := nI L.length) (hOY.nn) ?_
  refine mv_cge (tgt := 273) hx hb i (L.length) rfl rfl (by omega) (by omega) d_Mo_look_9 (by decide) (fun c1 => ?_) (fun c1 => ?_)
  · have ei : i = L.length := by omega
    subst ei
    refine lv_aload_n hx hb d_Mo_look_273 rfl (lv_at hl 1 rfl) ?_
    refine hp_get (ci := 5) (v := .int Y.2.2.1) (C := R_Mo) (T := F_Mo) (N := 28) hx hb hg i_Mo hown hK hI (mw_o hQ) rfl 25 (by decide) (hg _ k_798) (fun _ h9 => h9) rfl d_Mo_look_274 ?_
    refine mv_i (y := nI L.length) (hOY.nn) ?_
    refine lv_iconst (v := 1) hx hb d_Mo_look_277 (by decide) ?_
    refine mv_isub hx hb (L.length) 1 rfl rfl (by omega) d_Mo_look_278 ?_
    refine mv_i (y := dnI L.length) (dnI_of hL1) ?_
    refine lv_istore (lv' := [(7, .int (dnI L.length)), (0, .ref (Q 25)), (1, .double x), (3, .double y), (5, .double u)]) hx hb d_Mo_look_279 hl (by decide) rfl (fun ls hl => ?_)
    refine W.lpw (fun j (q : XS × Nat) => match q with | (Z, r) => r ≤ L.length ∧ j = r ∧ xSc Z X ∧ lkP d dp u x y L Z L.length ∧ (∀ a (ha : a < L.length), r ≤ a → Z.1 2 L[a] = bI (Rk d dp u x y L[a]).isSome ∧ ∀ t, Rk d dp u x y L[a] = some t → Z.1 12 L[a] = nI t)) (fun (q : XS × Nat) => match q with | (Z, r) => mW G Q Z w0) (fun (q : XS × Nat) => match q with | (Z, r) => [(7, .int (dnI r)), (0, .ref (Q 25)), (1, .double x), (3, .double y), (5, .double u)]) (fun (q : XS × Nat) => match q with | (Z, r) => 0) (fun (q : XS × Nat) => match q with | (Z, r) => 0) 16 281 (fun (q : XS × Nat) => match q with | (Z, r) => []) (L.length) ((Y, L.length)) (⟨Nat.le_refl _, rfl, hsc, hlk, fun a ha h => absurd h (by omega)⟩) (lv_sub hl [0, 1, 2, 3, 4] rfl) hI hS ?_
    rintro j ⟨Z, r⟩ ls H locs hP hl hI hS F
    try dsimp only at hP hl hI ⊢
    obtain ⟨hrL, ej, hsc, hlk, hfd⟩ := hP
    cases r with
    | zero =>
      have hl : lv_has ls 16 [(7, .int (-1)), (0, .ref (Q 25)), (1, .double x), (3, .double y), (5, .double u)] := hl
      refine lv_iload hx hb d_Mo_look_281 (lv_at hl 0 rfl) ?_
      refine lv_if_lt (tgt := 303) hx hb d_Mo_look_283 (by decide) (fun c9 => ?_) (fun c9 => absurd (by decide) c9)
      have h0 := hfd 0 (by omega) (Nat.le_refl 0)
      have e0 : L[0] = 0 := (List.getElem?_eq_some_iff.mp hO.2.2.1).2
      rw [e0, Rk_root htr] at h0
      exact W.vret hx hb hr (fun t9 ht9 hW9 => ⟨⟨(mW G Q Z w0), rfl, ⟨Z, rfl, hsc, h0.1, h0.2⟩, eWo ht9 hI⟩, hS.F ht9⟩) hS.2.2 d_Mo_look_303
    | succ r =>
      have hl : lv_has ls 16 [(7, .int (nI r)), (0, .ref (Q 25)), (1, .double x), (3, .double y), (5, .double u)] := hl
      have hOZ := hO.sc hsc
      have hMZ := hM.sc hsc
      obtain ⟨hc1, hc2⟩ := hO.th hrL
      have hlr := hlk r hrL hrL
      have hch : ∀ c ∈ sCh d L[r], Z.1 2 c = bI (Rk d dp u x y c).isSome ∧ ∀ t, Rk d dp u x y c = some t → Z.1 12 c = nI t := by
        intro c hc
        obtain ⟨q1, q2, q3, -⟩ := htr.child hc1 hc2 hc
        obtain ⟨a, ha, ea⟩ := List.getElem_of_mem ((hO.2.1 c).mpr ⟨q1, q2⟩)
        obtain ⟨b, hb1, hb2⟩ := hO.2.2.2.2.2.2.2 a ha L[r] (by rw [ea]; exact q3)
        have hbl := (List.getElem?_eq_some_iff.mp hb2).1
        have : b = r := (List.getElem?_inj hbl hO.1).mp (by rw [hb2, List.getElem?_eq_getElem hrL])
        have h9 := hfd a ha (by omega)
        rw [ea] at h9
        exact h9
      obtain ⟨n0, en0⟩ : ∃ n0, L[r] = n0 := ⟨_, rfl⟩
      rw [en0] at hc1 hc2 hlr hch
      refine lv_iload hx hb d_Mo_look_281 (lv_at hl 0 rfl) ?_
      refine lv_if_lt (tgt := 303) hx hb d_Mo_look_283 (by decide) (fun c9 => absurd c9 (nI_nlt0 (by omega))) (fun c9 => ?_)
      refine lv_aload_n hx hb d_Mo_look_286 rfl (lv_at hl 1 rfl) ?_
      refine lv_aload_n hx hb d_Mo_look_287 rfl (lv_at hl 1 rfl) ?_
      refine hp_get (ci := 5) (v := .ref (Q 11)) (C := R_Mo) (T := F_Mo) (N := 28) hx hb hg i_Mo hown hK hI (mw_o hQ) rfl 11 (by decide) (hg _ k_784) (fun _ h9 => h9) rfl d_Mo_look_288 ?_
      refine lv_iload hx hb d_Mo_look_291 (lv_at hl 0 rfl) ?_
      refine mv_iald hx hb hK hI 0 (Z.1 11) (mw_11 hQ) rfl r (rfl) (by omega) (by decide) d_Mo_look_293 ?_
      refine mv_i (y := nI n0) ((hOZ.od hrL).trans (by rw [en0])) ?_
      refine ec_v (va_runV (As := [.int (nI n0)]) (rest := []) ⟨hx, hb, hml, hown, hts⟩ (m_Mo_find l G S0 Q hQ Z w0 d dp htr hMZ hv1 u x y hu hx0 hy0 n0 hc1 hc2 hlr.1 hlr.2 hch) (cwV 1 hts (gw_V k_976 k_978 k_54 k_67 k_979) rfl rfl rfl (by decide +kernel) ⟨Nat.le_of_ble_eq_true rfl, Nat.le_of_ble_eq_true rfl⟩) (eB.preV hE hI hS hz rfl (mw_o hQ)) rfl rfl hl.1 rfl (lv_room (Nat.le_of_ble_eq_true rfl)) d_Mo_look_294 ⟨Nat.le_of_ble_eq_true rfl, Nat.le_of_ble_eq_true rfl⟩) hS (fun w_1 H locs ew_1 hI hsz hS => ?_)
      obtain ⟨V, ew_1, ⟨hf, hf2, hf12⟩⟩ := ew_1
      subst ew_1
      refine lv_iinc (v := dnI r) (lv' := [(7, .int (dnI r)), (0, .ref (Q 25)), (1, .double x), (3, .double y), (5, .double u)]) hx hb d_Mo_look_297 hl (k := 0) rfl (dnI_dec r) (by decide) rfl (fun ls hl => ?_)
      refine lv_goto (tgt := 281) hx hb d_Mo_look_300 (by decide) ?_
      have hfd2 : ∀ a (ha : a < L.length), r ≤ a → V.1 2 L[a] = bI (Rk d dp u x y L[a]).isSome ∧ ∀ t, Rk d dp u x y L[a] = some t → V.1 12 L[a] = nI t := by
        intro a ha h
        by_cases e : a = r
        · subst e
          rw [en0]
          exact ⟨hf2, hf12⟩
        · have hne : L[a] ≠ n0 := by rw [← en0]; exact nd_ne hO.1 ha hrL e
          rw [(hf.2.1 _ hne).1, (hf.2.1 _ hne).2]
          exact hfd a ha (by omega)
      exact F (r) ((V, r)) _ _ _ (by omega) (⟨by show r ≤ L.length; omega, rfl, hsc.tr hf.sc, (fun a ha h => by rw [hf.2.2]; exact hlk a ha h), hfd2⟩) (lv_sub hl [0, 1, 2, 3, 4] rfl) hI hS
  · obtain ⟨k, ek⟩ : ∃ k, L[i] = k := ⟨_, rfl⟩
    obtain ⟨hk, hkt⟩ := hO.th c1
    rw [ek] at hk hkt
    have hk5 := htr.2.2.2.2.2.2 k hk hkt
    obtain ⟨⟨kc, hkc, ekc⟩, -, -, ⟨tn, htn, etn⟩, -, ⟨mc, hmc, emc⟩, -, -, -, -, hst, -⟩ := hv1 k hk hkt
    have etu := tu_of htn etn
    obtain ⟨ra, rb⟩ := rwP_ok htr hv1 hu hx0 hy0 _ k rfl hk hkt
    have hpte := pt_eq (u := u) (x := x) (y := y) htr hk hkt
    obtain ⟨q0, eq0⟩ : ∃ z9, z9 = qP d dp u x y k := ⟨_, rfl⟩
    refine lv_aload_n hx hb d_Mo_look_12 rfl (lv_at hl 1 rfl) ?_
    refine hp_get (ci := 5) (v := .ref (Q 11)) (C := R_Mo) (T := F_Mo) (N := 28) hx hb hg i_Mo hown hK hI (mw_o hQ) rfl 11 (by decide) (hg _ k_784) (fun _ h9 => h9) rfl d_Mo_look_13 ?_
    refine lv_iload hx hb d_Mo_look_16 (lv_at hl 0 rfl) ?_
    refine mv_iald hx hb hK hI 0 (Y.1 11) (mw_11 hQ) rfl i (rfl) (by omega) (by decide) d_Mo_look_18 ?_
    refine mv_i (y := nI k) ((hOY.od c1).trans (by rw [ek])) ?_
    refine lv_istore (lv' := [(8, .int (nI k)), (7, .int (nI i)), (0, .ref (Q 25)), (1, .double x), (3, .double y), (5, .double u)]) hx hb d_Mo_look_19 hl (by decide) rfl (fun ls hl => ?_)
    refine lv_dload_n hx hb d_Mo_look_21 rfl (lv_at hl 3 rfl) ?_
    refine lv_dstore (lv' := [(9, .double x), (8, .int (nI k)), (7, .int (nI i)), (0, .ref (Q 25)), (1, .double x), (3, .double y), (5, .double u)]) hx hb d_Mo_look_22 hl (by decide) rfl (fun ls hl => ?_)
    refine lv_dload_n hx hb d_Mo_look_24 rfl (lv_at hl 5 rfl) ?_
    refine lv_dstore (lv' := [(11, .double y), (9, .double x), (8, .int (nI k)), (7, .int (nI i)), (0, .ref (Q 25)), (1, .double x), (3, .double y), (5, .double u)]) hx hb d_Mo_look_25 hl (by decide) rfl (fun ls hl => ?_)
    refine lv_iload hx hb d_Mo_look_27 (lv_at hl 2 rfl) ?_
    refine W.midw (G := G) (S0 := S0) (fun (u9 : Unit) => True) (fun (u9 : Unit) => (mW G Q Y w0)) (fun (u9 : Unit) => [(8, .int (nI k)), (9, .double q0.1), (11, .double q0.2), (7, .int (nI i)), (0, .ref (Q 25)), (1, .double x), (3, .double y), (5, .double u)]) (fun (u9 : Unit) => 0) (fun (u9 : Unit) => 0) 16 80 (fun (u9 : Unit) => []) ?_ (fun J => ?_)
    · rintro u9 ls H locs hP hl hI hS
      try dsimp only at hP hl hI ⊢
      refine lv_iconst (v := 0) hx hb d_Mo_look_80 (by decide) ?_
      refine lv_istore (lv' := [(13, .int 0), (8, .int (nI k)), (9, .double q0.1), (11, .double q0.2), (7, .int (nI i)), (0, .ref (Q 25)), (1, .double x), (3, .double y), (5, .double u)]) hx hb d_Mo_look_81 hl (by decide) rfl (fun ls hl => ?_)
      refine W.midw (G := G) (S0 := S0) (fun (u9 : Unit) => True) (fun (u9 : Unit) => (mW G Q Y w0)) (fun (u9 : Unit) => [(8, .int (nI k)), (9, .double (trn q0 tn).1), (11, .double (trn q0 tn).2), (7, .int (nI i)), (0, .ref (Q 25)), (1, .double x), (3, .double y), (5, .double u)]) (fun (u9 : Unit) => 0) (fun (u9 : Unit) => 0) 16 114 (fun (u9 : Unit) => []) ?_ (fun K => ?_)
      · rintro u9 ls H locs hP hl hI hS
        try dsimp only at hP hl hI ⊢
        refine lv_iload hx hb d_Mo_look_114 (lv_at hl 0 rfl) ?_
        refine W.midw (G := G) (S0 := S0) (fun (f9 : UInt64) => FP.ddiv (trn q0 tn).1 f9 = (rwP d dp u x y k).1 ∧ FP.ddiv (trn q0 tn).2 f9 = (rwP d dp u x y k).2) (fun (f9 : UInt64) => (mW G Q Y w0)) (fun (f9 : UInt64) => [(8, .int (nI k)), (9, .double (trn q0 tn).1), (11, .double (trn q0 tn).2), (7, .int (nI i)), (0, .ref (Q 25)), (1, .double x), (3, .double y), (5, .double u)]) (fun (f9 : UInt64) => 0) (fun (f9 : UInt64) => 0) 16 135 (fun (f9 : UInt64) => [.double f9]) ?_ (fun M => ?_)
        · rintro f9 ls H locs hP hl hI hS
          try dsimp only at hP hl hI ⊢
          obtain ⟨r1, r2⟩ := rwP_fin ra rb
          refine lv_dstore (lv' := [(13, .double f9), (8, .int (nI k)), (9, .double (trn q0 tn).1), (11, .double (trn q0 tn).2), (7, .int (nI i)), (0, .ref (Q 25)), (1, .double x), (3, .double y), (5, .double u)]) hx hb d_Mo_look_135 hl (by decide) rfl (fun ls hl => ?_)
          refine lv_aload_n hx hb d_Mo_look_137 rfl (lv_at hl 5 rfl) ?_
          refine hp_get (ci := 5) (v := .ref (Q 20)) (C := R_Mo) (T := F_Mo) (N := 28) hx hb hg i_Mo hown hK hI (mw_o hQ) rfl 20 (by decide) (hg _ k_793) (fun _ h9 => h9) rfl d_Mo_look_138 ?_
          refine lv_iload hx hb d_Mo_look_141 (lv_at hl 1 rfl) ?_
          refine lv_dload hx hb d_Mo_look_143 (lv_at hl 2 rfl) ?_
          refine lv_dload hx hb d_Mo_look_145 (lv_at hl 0 rfl) ?_
          refine lv_ddiv hx hb d_Mo_look_147 (by rw [hP.1]; exact r1) ?_
          refine mv_d (y := (rwP d dp u x y k).1) (hP.1) ?_
          refine mv_dast hx hb hK hI hS 1 (Y.2.1 20) (mw_20 hQ) rfl k (fun f9 => mW G Q (xsD Y 20 f9) w0) (fun _ => mws_20 hQ) (rfl) (by omega) (by decide) d_Mo_look_148 (fun H locs f_1 ef_1 hI hS hsz => ?_)
          try dsimp only at hI
          refine lv_aload_n hx hb d_Mo_look_149 rfl (lv_at hl 5 rfl) ?_
          refine hp_get (ci := 5) (v := .ref (Q 21)) (C := R_Mo) (T := F_Mo) (N := 28) hx hb hg i_Mo hown hK hI (mw_o hQ) rfl 21 (by decide) (hg _ k_794) (fun _ h9 => h9) rfl d_Mo_look_150 ?_
          refine lv_iload hx hb d_Mo_look_153 (lv_at hl 1 rfl) ?_
          refine lv_dload hx hb d_Mo_look_155 (lv_at hl 3 rfl) ?_
          refine lv_dload hx hb d_Mo_look_157 (lv_at hl 0 rfl) ?_
          refine lv_ddiv hx hb d_Mo_look_159 (by rw [hP.2]; exact r2) ?_
          refine mv_d (y := (rwP d dp u x y k).2) (hP.2) ?_
          refine mv_dast hx hb hK hI hS 1 (Y.2.1 21) (mw_21 hQ) rfl k (fun f9 => mW G Q (xsD (xsD Y 20 f_1) 21 f9) w0) (fun _ => mws_21 hQ) (rfl) (by omega) (by decide) d_Mo_look_160 (fun H locs f_2 ef_2 hI hS hsz => ?_)
          try dsimp only at hI
          refine lv_aload_n hx hb d_Mo_look_161 rfl (lv_at hl 5 rfl) ?_
          refine hp_get (ci := 5) (v := .ref (Q 4)) (C := R_Mo) (T := F_Mo) (N := 28) hx hb hg i_Mo hown hK hI (mw_o hQ) rfl 4 (by decide) (hg _ k_777) (fun _ h9 => h9) rfl d_Mo_look_162 ?_
          refine lv_iload hx hb d_Mo_look_165 (lv_at hl 1 rfl) ?_
          refine mv_iald hx hb hK hI 0 (Y.1 4) (mw_4 hQ) rfl k (rfl) (by omega) (by decide) d_Mo_look_167 ?_
          refine mv_i (y := nI kc) ((hMY.ki hk hkt).trans ekc) ?_
          have hsc1 : xSc (xsD (xsD Y 20 f_1) 21 f_2) X := (hsc.tr (xSc.D (X := Y) (by decide))).tr (xSc.D (X := xsD Y 20 f_1) (by decide))
          have hno : (kc ≠ 0 ∨ mc ≠ 2) → lkP d dp u x y L (xsD (xsD Y 20 f_1) 21 f_2) (i + 1) := by
            intro hcase
            have ht : ∀ a, tilG d k a = a := by
              intro a
              unfold tilG tilK
              rw [ekc, emc]
              rcases hcase with h | h
              · rw [if_neg (show ¬ nI kc = 0 from fun e => h ((nI_eq (a := kc) (b := 0) (by omega) (by decide)).mp e))]
              · rw [if_neg (show ¬ nI mc = 2 from fun e => h ((nI_eq (a := mc) (b := 2) (by omega) (by decide)).mp e))]
                split <;> rfl
            rw [ht, ht] at hpte
            refine hlk.s hO.1 c1 (fun c hc => ?_) ?_
            · rw [ek] at hc
              exact ⟨by show f_1 c = _; rw [ef_1]; exact vup_n hc, by show f_2 c = _; rw [ef_2]; exact vup_n hc⟩
            · rw [ek, hpte]
              exact ⟨by show f_1 k = _; rw [ef_1]; exact vup_y, by show f_2 k = _; rw [ef_2]; exact vup_y⟩
          refine mv_igt (tgt := 267) hx hb kc rfl (by omega) d_Mo_look_168 (by decide) (fun c3 => ?_) (fun c3 => ?_)
          · refine lv_iinc (v := nI (i + 1)) (lv' := [(7, .int (nI (i + 1))), (13, .double f9), (8, .int (nI k)), (9, .double (trn q0 tn).1), (11, .double (trn q0 tn).2), (0, .ref (Q 25)), (1, .double x), (3, .double y), (5, .double u)]) hx hb d_Mo_look_267 hl (k := 4) rfl (nI_inc i) (by decide) rfl (fun ls hl => ?_)
            refine lv_goto (tgt := 3) hx hb d_Mo_look_270 (by decide) ?_
            exact O (L.length - (i + 1)) (((xsD (xsD Y 20 f_1) 21 f_2), i + 1)) _ _ _ (by omega) (⟨c1, rfl, hsc1, hno (Or.inl (by omega))⟩) (lv_sub hl [0, 5, 6, 7, 8] rfl) hI hS
          refine lv_aload_n hx hb d_Mo_look_171 rfl (lv_at hl 5 rfl) ?_
          refine hp_get (ci := 5) (v := .ref (Q 5)) (C := R_Mo) (T := F_Mo) (N := 28) hx hb hg i_Mo hown hK hI (mw_o hQ) rfl 5 (by decide) (hg _ k_778) (fun _ h9 => h9) rfl d_Mo_look_172 ?_
          refine lv_iload hx hb d_Mo_look_175 (lv_at hl 1 rfl) ?_
          refine mv_iald hx hb hK hI 0 (Y.1 5) (mw_5 hQ) rfl k (rfl) (by omega) (by decide) d_Mo_look_177 ?_
          refine mv_i (y := nI mc) ((hMY.mo hk hkt).trans emc) ?_
          refine lv_iconst (v := 2) hx hb d_Mo_look_178 (by decide) ?_
          refine mv_ceq (tgt := 185) hx hb mc 2 rfl rfl (by omega) (by omega) d_Mo_look_179 (by decide) (fun c4 => ?_) (fun c4 => ?_)
          rotate_left
          · refine lv_goto (tgt := 267) hx hb d_Mo_look_182 (by decide) ?_
            refine lv_iinc (v := nI (i + 1)) (lv' := [(7, .int (nI (i + 1))), (13, .double f9), (8, .int (nI k)), (9, .double (trn q0 tn).1), (11, .double (trn q0 tn).2), (0, .ref (Q 25)), (1, .double x), (3, .double y), (5, .double u)]) hx hb d_Mo_look_267 hl (k := 4) rfl (nI_inc i) (by decide) rfl (fun ls hl => ?_)
            refine lv_goto (tgt := 3) hx hb d_Mo_look_270 (by decide) ?_
            exact O (L.length - (i + 1)) (((xsD (xsD Y 20 f_1) 21 f_2), i + 1)) _ _ _ (by omega) (⟨c1, rfl, hsc1, hno (Or.inr c4)⟩) (lv_sub hl [0, 5, 6, 7, 8] rfl) hI hS
          obtain ⟨ta1, ta2, ta3, ta4⟩ := tilF_ok hk5 ra hst
          obtain ⟨tb1, tb2, tb3, tb4⟩ := tilF_ok hk5 rb hst
          refine lv_aload_n hx hb d_Mo_look_185 rfl (lv_at hl 5 rfl) ?_
          refine hp_get (ci := 5) (v := .ref (Q 20)) (C := R_Mo) (T := F_Mo) (N := 28) hx hb hg i_Mo hown hK hI (mw_o hQ) rfl 20 (by decide) (hg _ k_793) (fun _ h9 => h9) rfl d_Mo_look_186 ?_
          refine lv_iload hx hb d_Mo_look_189 (lv_at hl 1 rfl) ?_
          refine lv_aload_n hx hb d_Mo_look_191 rfl (lv_at hl 5 rfl) ?_
          refine hp_get (ci := 5) (v := .ref (Q 20)) (C := R_Mo) (T := F_Mo) (N := 28) hx hb hg i_Mo hown hK hI (mw_o hQ) rfl 20 (by decide) (hg _ k_793) (fun _ h9 => h9) rfl d_Mo_look_192 ?_
          refine lv_iload hx hb d_Mo_look_195 (lv_at hl 1 rfl) ?_
          refine mv_dald hx hb hK hI 1 f_1 (mw_20 hQ) rfl k (rfl) (by omega) (by decide) d_Mo_look_197 ?_
          refine mv_d (y := (rwP d dp u x y k).1) ((by rw [ef_1]; exact vup_y)) ?_
          refine lv_aload_n hx hb d_Mo_look_198 rfl (lv_at hl 5 rfl) ?_
          refine hp_get (ci := 5) (v := .ref (Q 14)) (C := R_Mo) (T := F_Mo) (N := 28) hx hb hg i_Mo hown hK hI (mw_o hQ) rfl 14 (by decide) (hg _ k_787) (fun _ h9 => h9) rfl d_Mo_look_199 ?_
          refine lv_iload hx hb d_Mo_look_202 (lv_at hl 1 rfl) ?_
          refine mv_dald hx hb hK hI 1 (Y.2.1 14) (mw_14 hQ) rfl k (rfl) (by omega) (by decide) d_Mo_look_204 ?_
          refine mv_d (y := sNd d k 4) (hMY.st hk hkt) ?_
          refine lv_aload_n hx hb d_Mo_look_205 rfl (lv_at hl 5 rfl) ?_
          refine hp_get (ci := 5) (v := .ref (Q 20)) (C := R_Mo) (T := F_Mo) (N := 28) hx hb hg i_Mo hown hK hI (mw_o hQ) rfl 20 (by decide) (hg _ k_793) (fun _ h9 => h9) rfl d_Mo_look_206 ?_
          refine lv_iload hx hb d_Mo_look_209 (lv_at hl 1 rfl) ?_
          refine mv_dald hx hb hK hI 1 f_1 (mw_20 hQ) rfl k (rfl) (by omega) (by decide) d_Mo_look_211 ?_
          refine mv_d (y := (rwP d dp u x y k).1) ((by rw [ef_1]; exact vup_y)) ?_
          refine lv_aload_n hx hb d_Mo_look_212 rfl (lv_at hl 5 rfl) ?_
          refine hp_get (ci := 5) (v := .ref (Q 14)) (C := R_Mo) (T := F_Mo) (N := 28) hx hb hg i_Mo hown hK hI (mw_o hQ) rfl 14 (by decide) (hg _ k_787) (fun _ h9 => h9) rfl d_Mo_look_213 ?_
          refine lv_iload hx hb d_Mo_look_216 (lv_at hl 1 rfl) ?_
          refine mv_dald hx hb hK hI 1 (Y.2.1 14) (mw_14 hQ) rfl k (rfl) (by omega) (by decide) d_Mo_look_218 ?_
          refine mv_d (y := sNd d k 4) (hMY.st hk hkt) ?_
          refine lv_ddiv hx hb d_Mo_look_219 ta2 ?_
          refine ec_d (va_runS (As := [.double (FP.ddiv ((rwP d dp u x y k).1) (sNd d k 4))]) (rest := [.double (sNd d k 4), .double ((rwP d dp u x y k).1), .int (nI k), .ref (Q 20)]) ⟨hx, hb, hml, hown, hts⟩ (m_Mo_floor l G S0 (mW G Q (xsD (xsD Y 20 f_1) 21 f_2) w0) (FP.ddiv (rwP d dp u x y k).1 (sNd d k 4))) (cwS 1 hts (gw_S k_922 k_923 k_67 k_924) rfl rfl rfl (by decide +kernel) ⟨Nat.le_of_ble_eq_true rfl, Nat.le_of_ble_eq_true rfl⟩) (eB.preS hE hI hS hz) rfl rfl hl.1 rfl (lv_room (Nat.le_of_ble_eq_true rfl)) d_Mo_look_220 ⟨Nat.le_of_ble_eq_true rfl, Nat.le_of_ble_eq_true rfl⟩) hS (fun fl w_2 H locs ew_2 hI hsz hS => ?_)
          obtain ⟨efl, ew_2⟩ := ew_2
          have ew_2 := ew_2.symm
          subst ew_2
          rw [ta4] at efl
          subst efl
          refine lv_dmul hx hb d_Mo_look_223 ta3 ?_
          refine lv_dsub hx hb d_Mo_look_224 ta1.nn ?_
          refine mv_dast hx hb hK hI hS 1 f_1 (mw_20 hQ) rfl k (fun f9 => mW G Q (xsD (xsD (xsD Y 20 f_1) 21 f_2) 20 f9) w0) (fun _ => mws_20 hQ) (rfl) (by omega) (by decide) d_Mo_look_225 (fun H locs f_3 ef_3 hI hS hsz => ?_)
          try dsimp only at hI
          refine lv_aload_n hx hb d_Mo_look_226 rfl (lv_at hl 5 rfl) ?_
          refine hp_get (ci := 5) (v := .ref (Q 21)) (C := R_Mo) (T := F_Mo) (N := 28) hx hb hg i_Mo hown hK hI (mw_o hQ) rfl 21 (by decide) (hg _ k_794) (fun _ h9 => h9) rfl d_Mo_look_227 ?_
          refine lv_iload hx hb d_Mo_look_230 (lv_at hl 1 rfl) ?_
          refine lv_aload_n hx hb d_Mo_look_232 rfl (lv_at hl 5 rfl) ?_
          refine hp_get (ci := 5) (v := .ref (Q 21)) (C := R_Mo) (T := F_Mo) (N := 28) hx hb hg i_Mo hown hK hI (mw_o hQ) rfl 21 (by decide) (hg _ k_794) (fun _ h9 => h9) rfl d_Mo_look_233 ?_
          refine lv_iload hx hb d_Mo_look_236 (lv_at hl 1 rfl) ?_
          refine mv_dald hx hb hK hI 1 f_2 (mw_21 hQ) rfl k (rfl) (by omega) (by decide) d_Mo_look_238 ?_
          refine mv_d (y := (rwP d dp u x y k).2) ((by rw [ef_2]; exact vup_y)) ?_
          refine lv_aload_n hx hb d_Mo_look_239 rfl (lv_at hl 5 rfl) ?_
          refine hp_get (ci := 5) (v := .ref (Q 14)) (C := R_Mo) (T := F_Mo) (N := 28) hx hb hg i_Mo hown hK hI (mw_o hQ) rfl 14 (by decide) (hg _ k_787) (fun _ h9 => h9) rfl d_Mo_look_240 ?_
          refine lv_iload hx hb d_Mo_look_243 (lv_at hl 1 rfl) ?_
          refine mv_dald hx hb hK hI 1 (Y.2.1 14) (mw_14 hQ) rfl k (rfl) (by omega) (by decide) d_Mo_look_245 ?_
          refine mv_d (y := sNd d k 4) (hMY.st hk hkt) ?_
          refine lv_aload_n hx hb d_Mo_look_246 rfl (lv_at hl 5 rfl) ?_
          refine hp_get (ci := 5) (v := .ref (Q 21)) (C := R_Mo) (T := F_Mo) (N := 28) hx hb hg i_Mo hown hK hI (mw_o hQ) rfl 21 (by decide) (hg _ k_794) (fun _ h9 => h9) rfl d_Mo_look_247 ?_
          refine lv_iload hx hb d_Mo_look_250 (lv_at hl 1 rfl) ?_
          refine mv_dald hx hb hK hI 1 f_2 (mw_21 hQ) rfl k (rfl) (by omega) (by decide) d_Mo_look_252 ?_
          refine mv_d (y := (rwP d dp u x y k).2) ((by rw [ef_2]; exact vup_y)) ?_
          refine lv_aload_n hx hb d_Mo_look_253 rfl (lv_at hl 5 rfl) ?_
          refine hp_get (ci := 5) (v := .ref (Q 14)) (C := R_Mo) (T := F_Mo) (N := 28) hx hb hg i_Mo hown hK hI (mw_o hQ) rfl 14 (by decide) (hg _ k_787) (fun _ h9 => h9) rfl d_Mo_look_254 ?_
          refine lv_iload hx hb d_Mo_look_257 (lv_at hl 1 rfl) ?_
          refine mv_dald hx hb hK hI 1 (Y.2.1 14) (mw_14 hQ) rfl k (rfl) (by omega) (by decide) d_Mo_look_259 ?_
          refine mv_d (y := sNd d k 4) (hMY.st hk hkt) ?_
          refine lv_ddiv hx hb d_Mo_look_260 tb2 ?_
          refine ec_d (va_runS (As := [.double (FP.ddiv ((rwP d dp u x y k).2) (sNd d k 4))]) (rest := [.double (sNd d k 4), .double ((rwP d dp u x y k).2), .int (nI k), .ref (Q 21)]) ⟨hx, hb, hml, hown, hts⟩ (m_Mo_floor l G S0 (mW G Q (xsD (xsD (xsD Y 20 f_1) 21 f_2) 20 f_3) w0) (FP.ddiv (rwP d dp u x y k).2 (sNd d k 4))) (cwS 1 hts (gw_S k_922 k_923 k_67 k_924) rfl rfl rfl (by decide +kernel) ⟨Nat.le_of_ble_eq_true rfl, Nat.le_of_ble_eq_true rfl⟩) (eB.preS hE hI hS hz) rfl rfl hl.1 rfl (lv_room (Nat.le_of_ble_eq_true rfl)) d_Mo_look_261 ⟨Nat.le_of_ble_eq_true rfl, Nat.le_of_ble_eq_true rfl⟩) hS (fun fl w_3 H locs ew_3 hI hsz hS => ?_)
          obtain ⟨efl, ew_3⟩ := ew_3
          have ew_3 := ew_3.symm
          subst ew_3
          rw [tb4] at efl
          subst efl
          refine lv_dmul hx hb d_Mo_look_264 tb3 ?_
          refine lv_dsub hx hb d_Mo_look_265 tb1.nn ?_
          refine mv_dast hx hb hK hI hS 1 f_2 (mw_21 hQ) rfl k (fun f9 => mW G Q (xsD (xsD (xsD (xsD Y 20 f_1) 21 f_2) 20 f_3) 21 f9) w0) (fun _ => mws_21 hQ) (rfl) (by omega) (by decide) d_Mo_look_266 (fun H locs f_4 ef_4 hI hS hsz => ?_)
          try dsimp only at hI
          refine lv_iinc (v := nI (i + 1)) (lv' := [(7, .int (nI (i + 1))), (13, .double f9), (8, .int (nI k)), (9, .double (trn q0 tn).1), (11, .double (trn q0 tn).2), (0, .ref (Q 25)), (1, .double x), (3, .double y), (5, .double u)]) hx hb d_Mo_look_267 hl (k := 4) rfl (nI_inc i) (by decide) rfl (fun ls hl => ?_)
          refine lv_goto (tgt := 3) hx hb d_Mo_look_270 (by decide) ?_
          rw [xd_dd (by decide)] at hI
          have ht : ∀ a, tilG d k a = tilF (sNd d k 4) a := by
            intro a
            unfold tilG tilK
            rw [if_pos (by rw [ekc, c3]; rfl), if_pos (by rw [emc, c4]; rfl)]
          rw [ht, ht] at hpte
          have hfin : lkP d dp u x y L (xsD (xsD Y 20 f_3) 21 f_4) (i + 1) := by
            refine hlk.s hO.1 c1 (fun c hc => ?_) ?_
            · rw [ek] at hc
              exact ⟨by show f_3 c = _; rw [ef_3, vup_n hc, ef_1]; exact vup_n hc, by show f_4 c = _; rw [ef_4, vup_n hc, ef_2]; exact vup_n hc⟩
            · rw [ek, hpte]
              exact ⟨by show f_3 k = _; rw [ef_3]; exact vup_y, by show f_4 k = _; rw [ef_4]; exact vup_y⟩
          exact O (L.length - (i + 1)) ((xsD (xsD Y 20 f_3) 21 f_4, i + 1)) _ _ _ (by omega) (⟨c1, rfl, (hsc.tr (xSc.D (X := Y) (by decide))).tr (xSc.D (X := xsD Y 20 f_3) (by decide)), hfin⟩) (lv_sub hl [0, 5, 6, 7, 8] rfl) hI hS
        · refine mv_ile (tgt := 134) hx hb k rfl (by omega) d_Mo_look_116 (by decide) (fun c2 => ?_) (fun c2 => ?_)
          · have hpa : sPa d k = none := by rw [c2]; exact htr.2.1
            have htn0 : tn = 0 := by
              have : nI tn = nI 0 := by rw [← etn, c2, hr0]; rfl
              exact (nI_eq (a := tn) (b := 0) (by omega) (by decide)).mp this
            have e1 : q0 = (x, y) := by rw [eq0]; unfold qP; rw [hpa]
            refine lv_dconst1 hx hb d_Mo_look_134 ?_
            exact M (FP.dconst1) _ _ _ (by rw [htn0, rwP_0 hpa, e1]; exact ⟨FP.Core.ddiv_one hx0.fin.ne_nan, FP.Core.ddiv_one hy0.fin.ne_nan⟩) (lv_sub hl [0, 1, 2, 3, 4, 5, 6, 7] rfl) hI hS
          · have hk0 : k ≠ 0 := by omega
            obtain ⟨g, hg1, hpa, hgt, -, hdp, -⟩ := htr.2.2.2.2.1 k hk hkt hk0
            obtain ⟨sv, sv1, sv2, sv3⟩ := vJ_s (u := u) (hv1 k hk hkt)
            obtain ⟨pg1, pg2⟩ := pt_ok htr hv1 hu hx0 hy0 hg1 hgt
            have e1 : q0 = (FP.dsub (pt d dp u x y g).1 (nxV d u k 0), FP.dsub (pt d dp u x y g).2 (nxV d u k 1)) := by rw [eq0]; unfold qP; rw [hpa]
            have hd := trn_ok (q := q0) (g := dp g) (by rw [e1]; exact pg1.sub (by omega) (nxV_ok hv1 hu hk hkt (by decide))) (by rw [e1]; exact pg2.sub (by omega) (nxV_ok hv1 hu hk hkt (by decide))) tn
            refine lv_aload_n hx hb d_Mo_look_119 rfl (lv_at hl 4 rfl) ?_
            refine lv_iload hx hb d_Mo_look_120 (lv_at hl 0 rfl) ?_
            refine lv_iconst (v := 2) hx hb d_Mo_look_122 (by decide) ?_
            refine lv_dload hx hb d_Mo_look_123 (lv_at hl 7 rfl) ?_
            refine ec_d (va_runV (As := [.int (nI k), .int 2, .double u]) (rest := []) ⟨hx, hb, hml, hown, hts⟩ (m_Mo_at l G S0 Q hQ Y w0 d hMY hv1 k 2 hk hkt hk0 (by decide) u hu) (cwV 3 hts (gw_V k_965 k_967 k_53 k_67 k_968) rfl rfl rfl (by decide +kernel) ⟨Nat.le_of_ble_eq_true rfl, Nat.le_of_ble_eq_true rfl⟩) (eB.preV hE hI hS hz rfl (mw_o hQ)) rfl rfl hl.1 rfl (lv_room (Nat.le_of_ble_eq_true rfl)) d_Mo_look_125 ⟨Nat.le_of_ble_eq_true rfl, Nat.le_of_ble_eq_true rfl⟩) hS (fun va w_4 H locs ew_4 hI hsz hS => ?_)
            obtain ⟨eva, ew_4⟩ := ew_4
            have ew_4 := ew_4.symm
            subst ew_4
            subst eva
            refine ec_d (va_runS (As := [.double (vA d u k 2)]) (rest := []) ⟨hx, hb, hml, hown, hts⟩ (m_Mo_power l G S0 (mW G Q Y w0) (vA d u k 2)) (cwS 1 hts (gw_S k_970 k_971 k_67 k_972) rfl rfl rfl (by decide +kernel) ⟨Nat.le_of_ble_eq_true rfl, Nat.le_of_ble_eq_true rfl⟩) (eB.preS hE hI hS hz) rfl rfl hl.1 rfl (lv_room (Nat.le_of_ble_eq_true rfl)) d_Mo_look_128 ⟨Nat.le_of_ble_eq_true rfl, Nat.le_of_ble_eq_true rfl⟩) hS (fun pw w_5 H locs ew_5 hI hsz hS => ?_)
            obtain ⟨epw, ew_5⟩ := ew_5
            have ew_5 := ew_5.symm
            subst ew_5
            rw [vA_s, mPw_eq sv1 sv2] at epw
            subst epw
            refine lv_goto (tgt := 135) hx hb d_Mo_look_131 (by decide) ?_
            exact M (pw2 sv) _ _ _ (by rw [rwP_s hpa]; unfold locP; rw [etu, ← e1, show nsV d u k = sv from sv3]; exact ⟨(fx_shr hd.1.fin sv1).symm, (fx_shr hd.2.fin sv1).symm⟩) (lv_sub hl [0, 1, 2, 3, 4, 5, 6, 7] rfl) hI hS
      · refine W.lpw (fun j (t9 : Nat) => t9 ≤ tn ∧ j = tn - t9) (fun (t9 : Nat) => (mW G Q Y w0)) (fun (t9 : Nat) => [(13, .int (nI t9)), (8, .int (nI k)), (9, .double (trn q0 t9).1), (11, .double (trn q0 t9).2), (7, .int (nI i)), (0, .ref (Q 25)), (1, .double x), (3, .double y), (5, .double u)]) (fun (t9 : Nat) => 0) (fun (t9 : Nat) => 0) 16 83 (fun (t9 : Nat) => []) (tn) (0) (⟨Nat.zero_le _, rfl⟩) (lv_sub hl [0, 1, 2, 3, 4, 5, 6, 7, 8] rfl) hI hS ?_
        rintro j t9 ls H locs hP hl hI hS TL
        try dsimp only at hP hl hI ⊢
        obtain ⟨h1, ej⟩ := hP
        refine lv_iload hx hb d_Mo_look_83 (lv_at hl 0 rfl) ?_
        refine lv_aload_n hx hb d_Mo_look_85 rfl (lv_at hl 5 rfl) ?_
        refine hp_get (ci := 5) (v := .ref (Q 9)) (C := R_Mo) (T := F_Mo) (N := 28) hx hb hg i_Mo hown hK hI (mw_o hQ) rfl 9 (by decide) (hg _ k_782) (fun _ h9 => h9) rfl d_Mo_look_86 ?_
        refine lv_iload hx hb d_Mo_look_89 (lv_at hl 1 rfl) ?_
        refine mv_iald hx hb hK hI 0 (Y.1 9) (mw_9 hQ) rfl k (rfl) (by omega) (by decide) d_Mo_look_91 ?_
        refine mv_i (y := nI tn) ((hMY.tu hk hkt).trans etn) ?_
        refine mv_cge (tgt := 114) hx hb t9 tn rfl rfl (by omega) (by omega) d_Mo_look_92 (by decide) (fun c2 => ?_) (fun c2 => ?_)
        · rw [show t9 = tn by omega] at hl
          exact K (()) _ _ _ (trivial) (lv_sub hl [1, 2, 3, 4, 5, 6, 7, 8] rfl) hI hS
        · refine lv_dload hx hb d_Mo_look_95 (lv_at hl 2 rfl) ?_
          refine lv_dneg hx hb d_Mo_look_97 ?_
          refine lv_dstore (lv' := [(14, .double (FP.dneg (trn q0 t9).1)), (13, .int (nI t9)), (8, .int (nI k)), (9, .double (trn q0 t9).1), (11, .double (trn q0 t9).2), (7, .int (nI i)), (0, .ref (Q 25)), (1, .double x), (3, .double y), (5, .double u)]) hx hb d_Mo_look_98 hl (by decide) rfl (fun ls hl => ?_)
          refine lv_dload hx hb d_Mo_look_100 (lv_at hl 4 rfl) ?_
          refine lv_dstore (lv' := [(9, .double (trn q0 t9).2), (14, .double (FP.dneg (trn q0 t9).1)), (13, .int (nI t9)), (8, .int (nI k)), (11, .double (trn q0 t9).2), (7, .int (nI i)), (0, .ref (Q 25)), (1, .double x), (3, .double y), (5, .double u)]) hx hb d_Mo_look_102 hl (by decide) rfl (fun ls hl => ?_)
          refine lv_dload hx hb d_Mo_look_104 (lv_at hl 1 rfl) ?_
          refine lv_dstore (lv' := [(11, .double (FP.dneg (trn q0 t9).1)), (9, .double (trn q0 t9).2), (14, .double (FP.dneg (trn q0 t9).1)), (13, .int (nI t9)), (8, .int (nI k)), (7, .int (nI i)), (0, .ref (Q 25)), (1, .double x), (3, .double y), (5, .double u)]) hx hb d_Mo_look_106 hl (by decide) rfl (fun ls hl => ?_)
          refine lv_iinc (v := nI (t9 + 1)) (lv' := [(13, .int (nI (t9 + 1))), (11, .double (FP.dneg (trn q0 t9).1)), (9, .double (trn q0 t9).2), (14, .double (FP.dneg (trn q0 t9).1)), (8, .int (nI k)), (7, .int (nI i)), (0, .ref (Q 25)), (1, .double x), (3, .double y), (5, .double u)]) hx hb d_Mo_look_108 hl (k := 3) rfl (nI_inc t9) (by decide) rfl (fun ls hl => ?_)
          refine lv_goto (tgt := 83) hx hb d_Mo_look_111 (by decide) ?_
          exact TL (tn - (t9 + 1)) (t9 + 1) _ _ _ (by omega) (⟨c2, rfl⟩) (lv_sub hl [0, 4, 2, 1, 5, 6, 7, 8, 9] rfl) hI hS
    · refine mv_ile (tgt := 80) hx hb k rfl (by omega) d_Mo_look_29 (by decide) (fun c2 => ?_) (fun c2 => ?_)
      · have hpa : sPa d k = none := by rw [c2]; exact htr.2.1
        have e1 : q0 = (x, y) := by rw [eq0]; unfold qP; rw [hpa]
        have hl : lv_has ls 16 [(11, .double q0.2), (9, .double q0.1), (8, .int (nI k)), (7, .int (nI i)), (0, .ref (Q 25)), (1, .double x), (3, .double y), (5, .double u)] := by rw [e1]; exact hl
        exact J (()) _ _ _ (trivial) (lv_sub hl [2, 1, 0, 3, 4, 5, 6, 7] rfl) hI hS
      · have hk0 : k ≠ 0 := by omega
        obtain ⟨g, hg1, hpa, hgt, -, hdp, -⟩ := htr.2.2.2.2.1 k hk hkt hk0
        obtain ⟨b, hb1, hb2⟩ := hO.2.2.2.2.2.2.2 i c1 g (by rw [ek]; exact hpa)
        obtain ⟨hbl, ebg⟩ := List.getElem?_eq_some_iff.mp hb2
        have hlb := hlk b hbl hb1
        rw [ebg] at hlb
        obtain ⟨pg1, pg2⟩ := pt_ok htr hv1 hu hx0 hy0 hg1 hgt
        have e1 : q0 = (FP.dsub (pt d dp u x y g).1 (vX d u k 0), FP.dsub (pt d dp u x y g).2 (vX d u k 1)) := by rw [eq0]; unfold qP; rw [hpa]
        refine lv_aload_n hx hb d_Mo_look_32 rfl (lv_at hl 4 rfl) ?_
        refine hp_get (ci := 5) (v := .ref (Q 20)) (C := R_Mo) (T := F_Mo) (N := 28) hx hb hg i_Mo hown hK hI (mw_o hQ) rfl 20 (by decide) (hg _ k_793) (fun _ h9 => h9) rfl d_Mo_look_33 ?_
        refine lv_aload_n hx hb d_Mo_look_36 rfl (lv_at hl 4 rfl) ?_
        refine hp_get (ci := 5) (v := .ref (Q 6)) (C := R_Mo) (T := F_Mo) (N := 28) hx hb hg i_Mo hown hK hI (mw_o hQ) rfl 6 (by decide) (hg _ k_779) (fun _ h9 => h9) rfl d_Mo_look_37 ?_
        refine lv_iload hx hb d_Mo_look_40 (lv_at hl 2 rfl) ?_
        refine mv_iald hx hb hK hI 0 (Y.1 6) (mw_6 hQ) rfl k (rfl) (by omega) (by decide) d_Mo_look_42 ?_
        refine mv_i (y := nI g) ((hMY.pa hk hkt).trans (by rw [hpa]; rfl)) ?_
        refine mv_dald hx hb hK hI 1 (Y.2.1 20) (mw_20 hQ) rfl g (rfl) (by omega) (by decide) d_Mo_look_43 ?_
        refine mv_d (y := (pt d dp u x y g).1) (hlb.1) ?_
        refine lv_aload_n hx hb d_Mo_look_44 rfl (lv_at hl 4 rfl) ?_
        refine lv_iload hx hb d_Mo_look_45 (lv_at hl 2 rfl) ?_
        refine lv_iconst (v := 0) hx hb d_Mo_look_47 (by decide) ?_
        refine lv_dload hx hb d_Mo_look_48 (lv_at hl 7 rfl) ?_
        refine ec_d (va_runV (As := [.int (nI k), .int 0, .double u]) (rest := [.double ((pt d dp u x y g).1)]) ⟨hx, hb, hml, hown, hts⟩ (m_Mo_at l G S0 Q hQ Y w0 d hMY hv1 k 0 hk hkt hk0 (by decide) u hu) (cwV 3 hts (gw_V k_965 k_967 k_53 k_67 k_968) rfl rfl rfl (by decide +kernel) ⟨Nat.le_of_ble_eq_true rfl, Nat.le_of_ble_eq_true rfl⟩) (eB.preV hE hI hS hz rfl (mw_o hQ)) rfl rfl hl.1 rfl (lv_room (Nat.le_of_ble_eq_true rfl)) d_Mo_look_50 ⟨Nat.le_of_ble_eq_true rfl, Nat.le_of_ble_eq_true rfl⟩) hS (fun va w_6 H locs ew_6 hI hsz hS => ?_)
        obtain ⟨eva, ew_6⟩ := ew_6
        have ew_6 := ew_6.symm
        subst ew_6
        rw [vA_x (by decide)] at eva
        subst eva
        refine lv_dsub hx hb d_Mo_look_53 (pg1.sub (by omega) (nxV_ok hv1 hu hk hkt (i := 0) (by decide))).nn ?_
        refine lv_dstore (lv' := [(9, .double (FP.dsub ((pt d dp u x y g).1) (vX d u k 0))), (11, .double y), (8, .int (nI k)), (7, .int (nI i)), (0, .ref (Q 25)), (1, .double x), (3, .double y), (5, .double u)]) hx hb d_Mo_look_54 hl (by decide) rfl (fun ls hl => ?_)
        refine lv_aload_n hx hb d_Mo_look_56 rfl (lv_at hl 4 rfl) ?_
        refine hp_get (ci := 5) (v := .ref (Q 21)) (C := R_Mo) (T := F_Mo) (N := 28) hx hb hg i_Mo hown hK hI (mw_o hQ) rfl 21 (by decide) (hg _ k_794) (fun _ h9 => h9) rfl d_Mo_look_57 ?_
        refine lv_aload_n hx hb d_Mo_look_60 rfl (lv_at hl 4 rfl) ?_
        refine hp_get (ci := 5) (v := .ref (Q 6)) (C := R_Mo) (T := F_Mo) (N := 28) hx hb hg i_Mo hown hK hI (mw_o hQ) rfl 6 (by decide) (hg _ k_779) (fun _ h9 => h9) rfl d_Mo_look_61 ?_
        refine lv_iload hx hb d_Mo_look_64 (lv_at hl 2 rfl) ?_
        refine mv_iald hx hb hK hI 0 (Y.1 6) (mw_6 hQ) rfl k (rfl) (by omega) (by decide) d_Mo_look_66 ?_
        refine mv_i (y := nI g) ((hMY.pa hk hkt).trans (by rw [hpa]; rfl)) ?_
        refine mv_dald hx hb hK hI 1 (Y.2.1 21) (mw_21 hQ) rfl g (rfl) (by omega) (by decide) d_Mo_look_67 ?_
        refine mv_d (y := (pt d dp u x y g).2) (hlb.2) ?_
        refine lv_aload_n hx hb d_Mo_look_68 rfl (lv_at hl 4 rfl) ?_
        refine lv_iload hx hb d_Mo_look_69 (lv_at hl 2 rfl) ?_
        refine lv_iconst (v := 1) hx hb d_Mo_look_71 (by decide) ?_
        refine lv_dload hx hb d_Mo_look_72 (lv_at hl 7 rfl) ?_
        refine ec_d (va_runV (As := [.int (nI k), .int 1, .double u]) (rest := [.double ((pt d dp u x y g).2)]) ⟨hx, hb, hml, hown, hts⟩ (m_Mo_at l G S0 Q hQ Y w0 d hMY hv1 k 1 hk hkt hk0 (by decide) u hu) (cwV 3 hts (gw_V k_965 k_967 k_53 k_67 k_968) rfl rfl rfl (by decide +kernel) ⟨Nat.le_of_ble_eq_true rfl, Nat.le_of_ble_eq_true rfl⟩) (eB.preV hE hI hS hz rfl (mw_o hQ)) rfl rfl hl.1 rfl (lv_room (Nat.le_of_ble_eq_true rfl)) d_Mo_look_74 ⟨Nat.le_of_ble_eq_true rfl, Nat.le_of_ble_eq_true rfl⟩) hS (fun vb w_7 H locs ew_7 hI hsz hS => ?_)
        obtain ⟨evb, ew_7⟩ := ew_7
        have ew_7 := ew_7.symm
        subst ew_7
        rw [vA_x (by decide)] at evb
        subst evb
        refine lv_dsub hx hb d_Mo_look_77 (pg2.sub (by omega) (nxV_ok hv1 hu hk hkt (i := 1) (by decide))).nn ?_
        refine lv_dstore (lv' := [(11, .double (FP.dsub ((pt d dp u x y g).2) (vX d u k 1))), (9, .double (FP.dsub ((pt d dp u x y g).1) (vX d u k 0))), (8, .int (nI k)), (7, .int (nI i)), (0, .ref (Q 25)), (1, .double x), (3, .double y), (5, .double u)]) hx hb d_Mo_look_78 hl (by decide) rfl (fun ls hl => ?_)
        have hl : lv_has ls 16 [(11, .double q0.2), (9, .double q0.1), (8, .int (nI k)), (7, .int (nI i)), (0, .ref (Q 25)), (1, .double x), (3, .double y), (5, .double u)] := by rw [e1]; exact hl
        exact J (()) _ _ _ (trivial) (lv_sub hl [2, 1, 0, 3, 4, 5, 6, 7] rfl) hI hS

/-! the model: into, remove -/
theorem mV.ch' {X : XS} {d : DS} (h : mV X d) {k : Nat} (hk : k < 14) (ht : sTh d k = true) {i c : Nat} (e : (sCh d k)[i]? = some c) : X.1 8 (k * 14 + i) = nI c := by
  obtain ⟨hi, ei⟩ := List.getElem?_eq_some_iff.mp e
  rw [h.ch hk ht hi, ei]
theorem mN1.tr {X X' : XS} {d d' : DS} {c : Nat} (h : mN1 X d c) (h1 : X'.1 1 c = X.1 1 c ∧ X'.1 4 c = X.1 4 c ∧ X'.1 5 c = X.1 5 c ∧ X'.1 9 c = X.1 9 c) (hk : ∀ i, i < 4 → X'.1 10 (c * 4 + i) = X.1 10 (c * 4 + i)) (h2 : X'.2.1 14 c = X.2.1 14 c ∧ X'.2.1 15 c = X.2.1 15 c ∧ X'.2.1 16 c = X.2.1 16 c) (hb : ∀ i, i < 4 → X'.2.1 17 (c * 4 + i) = X.2.1 17 (c * 4 + i)) (ht : ∀ i j, i < 4 → j < 4 → X'.2.1 18 ((c * 4 + i) * 4 + j) = X.2.1 18 ((c * 4 + i) * 4 + j) ∧ X'.2.1 19 ((c * 4 + i) * 4 + j) = X.2.1 19 ((c * 4 + i) * 4 + j))
    (e1 : sNi d' c = sNi d c) (e2 : sNd d' c = sNd d c) (e3 : sTn d' c = sTn d c) (e4 : sTt d' c = sTt d c) (e5 : sTv d' c = sTv d c) (h6 : X'.1 6 c = pCd (sPa d' c)) (h7 : X'.1 7 c = nI (sCh d' c).length) (h8 : ∀ i x, (sCh d' c)[i]? = some x → X'.1 8 (c * 14 + i) = nI x) : mN1 X' d' c := by
  obtain ⟨a1, a2, a3, a4, a5, a6, a7, a8, a9, a10, a11⟩ := h
  unfold mN1
  rw [e1, e2, e3, e4, e5, h1.1, h1.2.1, h1.2.2.1, h1.2.2.2, h2.1, h2.2.1, h2.2.2]
  refine ⟨a1, a2, a3, a4, h6, h7, fun i hi => h8 i _ (List.getElem?_eq_getElem hi), fun i hi => by rw [hk i hi]; exact a8 i hi, a9, fun h0 => ?_, fun i j hi hj => ?_⟩
  · obtain ⟨b1, b2, b3, b4, b5, b6⟩ := a10 h0
    exact ⟨b1, b2, (hb 0 (by decide)).trans b3, (hb 1 (by decide)).trans b4, (hb 2 (by decide)).trans b5, (hb 3 (by decide)).trans b6⟩
  · have h4 := (a8 i hi).2
    rw [(ht i j hi (by omega)).1, (ht i j hi (by omega)).2]
    exact a11 i j hi hj
theorem lv_ch {X : XS} {d : DS} {dp : Nat → Nat} (hM : mV X d) (htr : tOk d dp) {k gp x i c : Nat} (hgp : gp < 14) (hgpt : sTh d gp = true) (hkc : k ∈ sCh d gp) (hx : x < 14) (hxt : sTh d x = true) (e : (cUn d k gp x)[i]? = some c) : shL (X.1 8) (gp * 14 + (sCh d gp).idxOf k) (gp * 14 + ((sCh d gp).length - 1)) (x * 14 + i) = nI c := by
  have hix : (sCh d gp).idxOf k < (sCh d gp).length := List.idxOf_lt_length_of_mem hkc
  have hl1 := htr.len hgp hgpt
  have hl2 := htr.len hx hxt
  unfold cUn at e
  unfold shL
  by_cases q : x = gp
  · subst q
    rw [if_pos rfl, List.getElem?_eraseIdx] at e
    by_cases r : i < (sCh d x).idxOf k
    · rw [if_pos r] at e
      rw [if_neg (by omega)]
      exact hM.ch' hx hxt e
    · rw [if_neg r] at e
      have hi := (List.getElem?_eq_some_iff.mp e).1
      rw [if_pos (by omega), show x * 14 + i + 1 = x * 14 + (i + 1) by omega]
      exact hM.ch' hx hxt e
  · rw [if_neg q] at e
    have hi := (List.getElem?_eq_some_iff.mp e).1
    rw [if_neg (by omega)]
    exact hM.ch' hx hxt e
theorem lv_ct {X : XS} {d : DS} {k gp x : Nat} (hM : mV X d) (hkc : k ∈ sCh d gp) (hx : x < 14) (hxt : sTh d x = true) : upd (X.1 7) gp (nI ((sCh d gp).length - 1)) x = nI (cUn d k gp x).length := by
  have hix : (sCh d gp).idxOf k < (sCh d gp).length := List.idxOf_lt_length_of_mem hkc
  unfold upd cUn
  by_cases q : x = gp
  · rw [if_pos q, if_pos q, List.length_eraseIdx, if_pos hix]
  · rw [if_neg q, if_neg q]
    exact hM.ct hx hxt
theorem mN.into {X : XS} {d : DS} {dp : Nat → Nat} (hM : mN X d) (htr : tOk d dp) {n gr : Int32} {k g gp : Nat} (hok : okInto d n gr k g gp) (htr' : ∃ dp', tOk (dInto d k gp g) dp') : mN (xEn (xLv d X k gp) k g (cUn d k gp g).length) (dInto d k gp g) := by
  obtain ⟨hk, -, ht, hk0, hg1, -, hgt, hg0, hgp, hgpt, hpa, hkc⟩ := hok
  refine ⟨fun c hc => hM.1 c hc, fun c hc hct => ?_⟩
  have hct : sTh d c = true := hct
  have hcl : (cUn d k gp g).length + 1 ≤ 13 := by
    obtain ⟨dp', h'⟩ := htr'
    have := h'.len hg1 hgt
    rw [dInto_c hpa, if_pos rfl, List.length_append] at this
    exact this
  refine mN1.tr (hM.2 c hc hct) ⟨rfl, rfl, rfl, rfl⟩ (fun _ _ => rfl) ⟨rfl, rfl, rfl⟩ (fun _ _ => rfl) (fun _ _ _ _ => ⟨rfl, rfl⟩) rfl rfl rfl rfl rfl ?_ ?_ ?_
  · show upd (X.1 6) k (nI g) c = _
    rw [dInto_p]
    unfold upd
    by_cases e : c = k
    · rw [if_pos e, if_pos e]; rfl
    · rw [if_neg e, if_neg e]; exact hM.pa hc hct
  · show upd (upd (X.1 7) gp (nI ((sCh d gp).length - 1))) g (nI ((cUn d k gp g).length + 1)) c = _
    rw [dInto_c hpa]
    by_cases e : c = g
    · rw [if_pos e, List.length_append]
      exact if_pos e
    · rw [if_neg e, ← lv_ct hM.2 hkc hc hct]
      exact if_neg e
  · intro i x
    show _ → upd (shL (X.1 8) (gp * 14 + (sCh d gp).idxOf k) (gp * 14 + ((sCh d gp).length - 1))) (g * 14 + (cUn d k gp g).length) (nI k) (c * 14 + i) = _
    rw [dInto_c hpa]
    by_cases e : c = g
    · subst e
      rw [if_pos rfl]
      intro ex
      rcases Nat.lt_or_ge i (cUn d k gp c).length with q | q
      · rw [List.getElem?_append_left q] at ex
        rw [← lv_ch hM.2 htr hgp hgpt hkc hc hct ex]
        exact if_neg (by omega)
      · rw [List.getElem?_append_right q] at ex
        have hi := (List.getElem?_eq_some_iff.mp ex).1
        have hi : i - (cUn d k gp c).length < 1 := hi
        rw [show i - (cUn d k gp c).length = 0 by omega] at ex
        rw [show x = k from (Option.some.inj ex).symm]
        exact if_pos (by omega)
    · rw [if_neg e]
      intro ex
      have hcn : (cUn d k gp c).length ≤ 13 := by
        have := htr.len hc hct
        unfold cUn
        by_cases q : c = gp
        · subst q
          rw [if_pos rfl]
          have := List.length_eraseIdx_le (sCh d c) ((sCh d c).idxOf k)
          omega
        · rw [if_neg q]; exact this
      have hi := (List.getElem?_eq_some_iff.mp ex).1
      rw [← lv_ch hM.2 htr hgp hgpt hkc hc hct ex]
      exact if_neg (by omega)
theorem mN.sm {X Y : XS} {d : DS} (h : mN X d) (hs : xSm Y X) : mN Y d := by
  obtain ⟨s1, s2, s3⟩ := hs
  refine ⟨fun c hc => by rw [s1 0 (by decide) (by decide)]; exact h.1 c hc, fun c hc hct => ?_⟩
  have := h.2 c hc hct
  unfold mN1 at this ⊢
  rw [s1 1 (by decide) (by decide), s1 4 (by decide) (by decide), s1 5 (by decide) (by decide), s1 9 (by decide) (by decide), s1 6 (by decide) (by decide), s1 7 (by decide) (by decide), s1 8 (by decide) (by decide), s1 10 (by decide) (by decide), s2]
  exact this
theorem mC.sm {X Y : XS} {d : DS} (h : mC X d) (hs : xSm Y X) : mC Y d := by
  obtain ⟨s1, s2, s3⟩ := hs
  refine ⟨fun c hc => by rw [s1 24 (by decide) (by decide)]; exact h.1 c hc, by rw [s3]; exact h.2⟩
set_option maxHeartbeats 4000000 in
set_option maxRecDepth 100000 in
theorem m_Mo_into (l : Launch) (G : EG) (S0 : Nat) (Q : Nat → Nat) (hQ : qInj Q) (X : XS) (w0 : hp_M) (d : DS) (dp : Nat → Nat) (htr : tOk d dp) (hM : mN X d) (L : List Nat) (hO : mO X d dp L) (hC : mC X d) (n gr : Int32) : Met l y_Mo_into w_Mo_into (rl 2 0 0) (eP G S0 (mW G Q X w0) [.ref (Q 25), .int n, .int gr]) (va_Qv (fun z => (¬ ((isN d n ∧ n ≠ 0) ∧ isGroup d gr) ∧ z = mW G Q (xsT X 1) w0) ∨ ∃ k g gp, okInto d n gr k g gp ∧ (((inn d g k ∨ 5 < dp g + (mxD d dp k 14 - dp k + 1)) ∧ z = mW G Q (xsT X 2) w0) ∨ (¬ inn d g k ∧ dp g + (mxD d dp k 14 - dp k + 1) ≤ 5 ∧ ∃ Y, z = mW G Q Y w0 ∧ mP Y (dInto d k gp g) (dpI d dp k g) ∧ Y.2.2.2.2 = 0))) (eW G S0) (hp_A S0)) 0 0 (hp_A S0) := by
  refine Met.ofW (cc := b_Mo_into) (maxL := 3) (ret := none) (by decide) rfl ?_
  intro p e s m args below meth c s₁ B hml hv
  obtain ⟨rfl, hE, hI, hz⟩ := hv
  have hx := B.exec
  have hb := B.bytes
  have hr := B.returns
  have hts := atoms_spec (ws := w_Mo_into) B.pre
  have hg : ∀ w ∈ gw, w.before _ s = true := fun w h => hts w (List.mem_cons_of_mem _ h)
  have hown : s.vm.findClass "SceneEaselModel" = some m.cls := findClass_of_methodNamed B.named
  have hlocks := B.notSynchronized
  have hK := hE.K
  have hS : va_S (hp_A S0) s.heap s.heap [] := va_S.rf
  have hl := lv_entry ([.ref (Q 25), .int n, .int gr]) (n := 3) (Nat.le_of_ble_eq_true rfl)
  rw [lg_entry_eq]
  generalize (lg_sl ([.ref (Q 25), .int n, .int gr]) ++ List.replicate (3 - (lg_sl ([.ref (Q 25), .int n, .int gr])).length) Slot.unset).toArray = ls at hl ⊢
  have hl : lv_has ls 3 [(0, .ref (Q 25)), (1, .int n), (2, .int gr)] := hl
  refine lv_aload_n hx hb d_Mo_into_0 rfl (lv_at hl 0 rfl) ?_
  refine lv_aload_n hx hb d_Mo_into_1 rfl (lv_at hl 0 rfl) ?_
  refine lv_iload_n hx hb d_Mo_into_2 rfl (lv_at hl 1 rfl) ?_
  refine W.midw (G := G) (S0 := S0) (fun (b : Bool) => b = true ↔ (isN d n ∧ n ≠ 0) ∧ isGroup d gr) (fun (b : Bool) => (mW G Q X w0)) (fun (b : Bool) => [(0, .ref (Q 25)), (1, .int n), (2, .int gr)]) (fun (b : Bool) => 0) (fun (b : Bool) => 0) 3 22 (fun (b : Bool) => [.int (bI b), .ref (Q 25)]) ?_ (fun K => ?_)
  · rintro b ls H locs hP hl hI hS
    try dsimp only at hP hl hI ⊢
    refine ec_i (va_runV (As := [.int (bI b)]) (rest := []) ⟨hx, hb, hml, hown, hts⟩ (m_Mo_bad l G S0 Q hQ X w0 b) (cwV 1 hts (gw_V k_875 k_877 k_45 k_67 k_878) rfl rfl rfl (by decide +kernel) ⟨Nat.le_of_ble_eq_true rfl, Nat.le_of_ble_eq_true rfl⟩) (eB.preV hE hI hS hz rfl (mw_o hQ)) rfl rfl hl.1 rfl (lv_room (Nat.le_of_ble_eq_true rfl)) d_Mo_into_22 ⟨Nat.le_of_ble_eq_true rfl, Nat.le_of_ble_eq_true rfl⟩) hS (fun rb w_1 H locs ew_1 hI hsz hS => ?_)
    obtain ⟨erb, ew_1⟩ := ew_1
    subst ew_1
    subst erb
    refine mv_zeq (tgt := 29) hx hb (!b) rfl d_Mo_into_25 (by decide) (fun cb => ?_) (fun cb => ?_)
    · have hbt : b = true := by cases b with | true => rfl | false => cases cb
      obtain ⟨⟨⟨k, hk, ek, ht⟩, hn0⟩, ⟨g, hg1, eg, hgt, hg0⟩⟩ := hP.mp hbt
      have hk0 : k ≠ 0 := fun e => hn0 (by rw [ek, e]; rfl)
      obtain ⟨gp, hgp, hpa, hgpt, -, -, hkc⟩ := htr.2.2.2.2.1 k hk ht hk0
      have hok : okInto d n gr k g gp := ⟨hk, ek, ht, hk0, hg1, eg, hgt, hg0, hgp, hgpt, hpa, hkc⟩
      have hg5 := htr.2.2.2.2.2.2 g hg1 hgt
      have hm5 := mxD_5 (n := k) htr 14 (by decide)
      rw [ek, eg] at hl
      have ebt : bI (!b) = 0 := by rw [hbt]; rfl
      rw [ebt] at hI
      refine lv_aload_n hx hb d_Mo_into_29 rfl (lv_at hl 0 rfl) ?_
      refine lv_iload_n hx hb d_Mo_into_30 rfl (lv_at hl 2 rfl) ?_
      refine lv_iload_n hx hb d_Mo_into_31 rfl (lv_at hl 1 rfl) ?_
      refine ec_i (va_runV (As := [.int (nI g), .int (nI k)]) (rest := []) ⟨hx, hb, hml, hown, hts⟩ (m_Mo_within l G S0 Q hQ (xsT X 0) w0 d dp htr (fun k h1 h2 => hM.pa h1 h2) g k hg1 hgt hk) (cwV 2 hts (gw_V k_936 k_938 k_48 k_67 k_939) rfl rfl rfl (by decide +kernel) ⟨Nat.le_of_ble_eq_true rfl, Nat.le_of_ble_eq_true rfl⟩) (eB.preV hE hI hS hz rfl (mw_o hQ)) rfl rfl hl.1 rfl (lv_room (Nat.le_of_ble_eq_true rfl)) d_Mo_into_32 ⟨Nat.le_of_ble_eq_true rfl, Nat.le_of_ble_eq_true rfl⟩) hS (fun r_3 w_2 H locs ew_2 hI hsz hS => ?_)
      obtain ⟨ew_2, hw⟩ := ew_2
      have ew_2 := ew_2.symm
      subst ew_2
      obtain ⟨b2, eb2, hw⟩ := hw
      subst eb2
      refine W.midw (G := G) (S0 := S0) (fun (t : Bool) => (t = true ∧ ¬ inn d g k ∧ dp g + (mxD d dp k 14 - dp k + 1) ≤ 5) ∨ (t = false ∧ (inn d g k ∨ 5 < dp g + (mxD d dp k 14 - dp k + 1)))) (fun (t : Bool) => mW G Q (xsT X (if t then 0 else 2)) w0) (fun (t : Bool) => [(0, .ref (Q 25)), (1, .int (nI k)), (2, .int (nI g))]) (fun (t : Bool) => 0) (fun (t : Bool) => 0) 3 61 (fun (t : Bool) => []) ?_ (fun J => ?_)
      · rintro t ls H locs hP hl hI hS
        try dsimp only at hP hl hI ⊢
        cases t with
        | false =>
          have hin : inn d g k ∨ 5 < dp g + (mxD d dp k 14 - dp k + 1) := by
            rcases hP with h | h
            · cases h.1
            · exact h.2
          have hI : eI G S0 (mW G Q (xsT X 2) w0) H := hI
          refine lv_aload_n hx hb d_Mo_into_61 rfl (lv_at hl 0 rfl) ?_
          refine hp_get (ci := 5) (v := .int 2) (C := R_Mo) (T := F_Mo) (N := 28) hx hb hg i_Mo hown hK hI (mw_o hQ) rfl 27 (by decide) (hg _ k_800) (fun _ h9 => h9) rfl d_Mo_into_62 ?_
          refine lv_if_le (tgt := 69) hx hb d_Mo_into_65 (by decide) (fun c9 => absurd c9 (by decide)) (fun c9 => ?_)
          exact W.vret hx hb hr (fun t9 ht9 hW9 => ⟨⟨(mW G Q (xsT X 2) w0), rfl, Or.inr ⟨k, g, gp, hok, Or.inl ⟨hin, rfl⟩⟩, eWo ht9 hI⟩, hS.F ht9⟩) hS.2.2 d_Mo_into_68
        | true =>
          have hin : ¬ inn d g k ∧ dp g + (mxD d dp k 14 - dp k + 1) ≤ 5 := by
            rcases hP with h | h
            · exact h.2
            · cases h.1
          have hI : eI G S0 (mW G Q (xsT X 0) w0) H := hI
          refine lv_aload_n hx hb d_Mo_into_61 rfl (lv_at hl 0 rfl) ?_
          refine hp_get (ci := 5) (v := .int 0) (C := R_Mo) (T := F_Mo) (N := 28) hx hb hg i_Mo hown hK hI (mw_o hQ) rfl 27 (by decide) (hg _ k_800) (fun _ h9 => h9) rfl d_Mo_into_62 ?_
          refine lv_if_le (tgt := 69) hx hb d_Mo_into_65 (by decide) (fun c9 => ?_) (fun c9 => absurd (by decide) c9)
          refine lv_aload_n hx hb d_Mo_into_69 rfl (lv_at hl 0 rfl) ?_
          refine lv_iload_n hx hb d_Mo_into_70 rfl (lv_at hl 1 rfl) ?_
          refine ec_v (va_runV (As := [.int (nI k)]) (rest := []) ⟨hx, hb, hml, hown, hts⟩ (m_Mo_leave l G S0 Q hQ (xsT X 0) w0 d dp htr hM.T.2 k gp hk ht hgp hgpt hpa hkc) (cwV 1 hts (gw_V k_944 k_946 k_50 k_67 k_947) rfl rfl rfl (by decide +kernel) ⟨Nat.le_of_ble_eq_true rfl, Nat.le_of_ble_eq_true rfl⟩) (eB.preV hE hI hS hz rfl (mw_o hQ)) rfl rfl hl.1 rfl (lv_room (Nat.le_of_ble_eq_true rfl)) d_Mo_into_71 ⟨Nat.le_of_ble_eq_true rfl, Nat.le_of_ble_eq_true rfl⟩) hS (fun w_4 H locs ew_4 hI hsz hS => ?_)
          subst ew_4
          have htr' := htr.into hok hin.1 hin.2
          have hM' := (hM.T (v := 0)).into htr hok ⟨_, htr'⟩
          have hcl : (cUn d k gp g).length + 1 ≤ 13 := by
            have := htr'.len hg1 hgt
            rw [dInto_c hpa, if_pos rfl, List.length_append] at this
            exact this
          refine lv_aload_n hx hb d_Mo_into_74 rfl (lv_at hl 0 rfl) ?_
          refine lv_iload_n hx hb d_Mo_into_75 rfl (lv_at hl 1 rfl) ?_
          refine lv_iload_n hx hb d_Mo_into_76 rfl (lv_at hl 2 rfl) ?_
          refine ec_v (va_runV (As := [.int (nI k), .int (nI g)]) (rest := []) ⟨hx, hb, hml, hown, hts⟩ (m_Mo_enter l G S0 Q hQ (xLv d (xsT X 0) k gp) w0 (dInto d k gp g) (dpI d dp k g) htr' k g (cUn d k gp g).length hk hg1 (by omega) (lv_ct (X := xsT X 0) hM.2 hkc hg1 hgt) hM') (cwV 2 hts (gw_V k_879 k_881 k_46 k_67 k_882) rfl rfl rfl (by decide +kernel) ⟨Nat.le_of_ble_eq_true rfl, Nat.le_of_ble_eq_true rfl⟩) (eB.preV hE hI hS hz rfl (mw_o hQ)) rfl rfl hl.1 rfl (lv_room (Nat.le_of_ble_eq_true rfl)) d_Mo_into_77 ⟨Nat.le_of_ble_eq_true rfl, Nat.le_of_ble_eq_true rfl⟩) hS (fun w_5 H locs ew_5 hI hsz hS => ?_)
          obtain ⟨Y, ew_5, ⟨hY, hs⟩⟩ := ew_5
          subst ew_5
          have hs3 := hs.2.2
          exact W.vret hx hb hr (fun t9 ht9 hW9 => ⟨⟨(mW G Q Y w0), rfl, Or.inr ⟨k, g, gp, hok, Or.inr ⟨hin.1, hin.2, Y, rfl, ⟨hM'.sm hs, hY, mC.sm (X := xEn (xLv d (xsT X 0) k gp) k g (cUn d k gp g).length) hC hs⟩, by rw [hs3]; rfl⟩⟩, eWo ht9 hI⟩, hS.F ht9⟩) hS.2.2 d_Mo_into_80
      · refine mv_zne (tgt := 56) hx hb b2 rfl d_Mo_into_35 (by decide) (fun c1 => ?_) (fun c1 => ?_)
        · refine lv_aload_n hx hb d_Mo_into_56 rfl (lv_at hl 0 rfl) ?_
          refine lv_iconst (v := 2) hx hb d_Mo_into_57 (by decide) ?_
          refine hp_putC (ci := 5) (v := .int 2) (ty := .int) (C := R_Mo) (T := F_Mo) (N := 28) hx hb hg i_Mo t_Mo t_Mo_ok n_Mo hown hK hI hS (mw_o hQ) rfl 27 (by decide) (hg _ k_800) (fun _ h9 => h9) rfl (by decide +kernel) rfl rfl (Nat.le_of_ble_eq_true rfl) d_Mo_into_58 (fun H locs hI hS hsz => ?_)
          have hI : eI G S0 (mW G Q (xsT (xsT X 0) 2) w0) H := by rw [← mws_T hQ]; exact hI
          exact J (false) _ _ _ (Or.inr ⟨rfl, Or.inl (hw.mp c1)⟩) (lv_sub hl [0, 1, 2] rfl) hI hS
        · refine lv_aload_n hx hb d_Mo_into_38 rfl (lv_at hl 0 rfl) ?_
          refine hp_get (ci := 5) (v := .ref (Q 13)) (C := R_Mo) (T := F_Mo) (N := 28) hx hb hg i_Mo hown hK hI (mw_o hQ) rfl 13 (by decide) (hg _ k_786) (fun _ h9 => h9) rfl d_Mo_into_39 ?_
          refine lv_iload_n hx hb d_Mo_into_42 rfl (lv_at hl 2 rfl) ?_
          refine mv_iald hx hb hK hI 0 (X.1 13) (mw_13 hQ) rfl g (rfl) (by omega) (by decide) d_Mo_into_43 ?_
          refine mv_i (y := nI (dp g)) (hO.de hg1 hgt) ?_
          refine lv_iconst (v := 1) hx hb d_Mo_into_44 (by decide) ?_
          refine mv_iadd hx hb (dp g) 1 rfl rfl d_Mo_into_45 ?_
          refine lv_aload_n hx hb d_Mo_into_46 rfl (lv_at hl 0 rfl) ?_
          refine lv_iload_n hx hb d_Mo_into_47 rfl (lv_at hl 1 rfl) ?_
          refine ec_i (va_runV (As := [.int (nI k)]) (rest := [.int (nI (dp g + 1))]) ⟨hx, hb, hml, hown, hts⟩ (m_Mo_height l G S0 Q hQ (xsT X 0) w0 d dp htr hM.T.2 L hO k hk ht) (cwV 1 hts (gw_V k_940 k_942 k_49 k_67 k_943) rfl rfl rfl (by decide +kernel) ⟨Nat.le_of_ble_eq_true rfl, Nat.le_of_ble_eq_true rfl⟩) (eB.preV hE hI hS hz rfl (mw_o hQ)) rfl rfl hl.1 rfl (lv_room (Nat.le_of_ble_eq_true rfl)) d_Mo_into_48 ⟨Nat.le_of_ble_eq_true rfl, Nat.le_of_ble_eq_true rfl⟩) hS (fun he w_6 H locs ew_6 hI hsz hS => ?_)
          obtain ⟨ehe, ew_6⟩ := ew_6
          have ew_6 := ew_6.symm
          subst ew_6
          subst ehe
          refine mv_iadd hx hb (dp g + 1) (mxD d dp k 14 - dp k) rfl rfl d_Mo_into_51 ?_
          refine lv_iconst (v := 5) hx hb d_Mo_into_52 (by decide) ?_
          refine mv_cle (tgt := 61) hx hb (dp g + 1 + (mxD d dp k 14 - dp k)) 5 rfl rfl (by omega) (by omega) d_Mo_into_53 (by decide) (fun c2 => ?_) (fun c2 => ?_)
          · exact J (true) _ _ _ (Or.inl ⟨rfl, fun h => absurd (hw.mpr h) (by rw [c1]; decide), by omega⟩) (lv_sub hl [0, 1, 2] rfl) hI hS
          · refine lv_aload_n hx hb d_Mo_into_56 rfl (lv_at hl 0 rfl) ?_
            refine lv_iconst (v := 2) hx hb d_Mo_into_57 (by decide) ?_
            refine hp_putC (ci := 5) (v := .int 2) (ty := .int) (C := R_Mo) (T := F_Mo) (N := 28) hx hb hg i_Mo t_Mo t_Mo_ok n_Mo hown hK hI hS (mw_o hQ) rfl 27 (by decide) (hg _ k_800) (fun _ h9 => h9) rfl (by decide +kernel) rfl rfl (Nat.le_of_ble_eq_true rfl) d_Mo_into_58 (fun H locs hI hS hsz => ?_)
            have hI : eI G S0 (mW G Q (xsT (xsT X 0) 2) w0) H := by rw [← mws_T hQ]; exact hI
            exact J (false) _ _ _ (Or.inr ⟨rfl, Or.inr (by omega)⟩) (lv_sub hl [0, 1, 2] rfl) hI hS
    · have hbt : b = false := by cases b with | true => cases cb | false => rfl
      exact W.vret hx hb hr (fun t9 ht9 hW9 => ⟨⟨(mW G Q (xsT X (bI (!b))) w0), rfl, Or.inl ⟨fun h => (by rw [hP.mpr h] at hbt; cases hbt), by rw [hbt]; rfl⟩, eWo ht9 hI⟩, hS.F ht9⟩) hS.2.2 d_Mo_into_28
  · refine ec_i (va_runV (As := [.int n]) (rest := [.ref (Q 25)]) ⟨hx, hb, hml, hown, hts⟩ (m_Mo_isOther l G S0 Q hQ X w0 d hM n) (cwV 1 hts (gw_V k_896 k_898 k_47 k_67 k_899) rfl rfl rfl (by decide +kernel) ⟨Nat.le_of_ble_eq_true rfl, Nat.le_of_ble_eq_true rfl⟩) (eB.preV hE hI hS hz rfl (mw_o hQ)) rfl rfl hl.1 rfl (lv_room (Nat.le_of_ble_eq_true rfl)) d_Mo_into_3 ⟨Nat.le_of_ble_eq_true rfl, Nat.le_of_ble_eq_true rfl⟩) hS (fun r_8 w_7 H locs ew_7 hI hsz hS => ?_)
    obtain ⟨ew_7, h1⟩ := ew_7
    have ew_7 := ew_7.symm
    subst ew_7
    obtain ⟨b, eb, h1⟩ := h1
    subst eb
    refine mv_zeq (tgt := 21) hx hb b rfl d_Mo_into_6 (by decide) (fun c1 => ?_) (fun c1 => ?_)
    · refine lv_iconst (v := 0) hx hb d_Mo_into_21 (by decide) ?_
      exact K (false) _ _ _ (⟨fun h => (by cases h), fun h => absurd (h1.mpr h.1) (by rw [c1]; decide)⟩) (lv_sub hl [0, 1, 2] rfl) hI hS
    refine lv_aload_n hx hb d_Mo_into_9 rfl (lv_at hl 0 rfl) ?_
    refine lv_iload_n hx hb d_Mo_into_10 rfl (lv_at hl 2 rfl) ?_
    refine ec_i (va_runV (As := [.int gr]) (rest := [.ref (Q 25)]) ⟨hx, hb, hml, hown, hts⟩ (m_Mo_isGroup l G S0 Q hQ X w0 d hM gr) (cwV 1 hts (gw_V k_867 k_869 k_43 k_67 k_870) rfl rfl rfl (by decide +kernel) ⟨Nat.le_of_ble_eq_true rfl, Nat.le_of_ble_eq_true rfl⟩) (eB.preV hE hI hS hz rfl (mw_o hQ)) rfl rfl hl.1 rfl (lv_room (Nat.le_of_ble_eq_true rfl)) d_Mo_into_11 ⟨Nat.le_of_ble_eq_true rfl, Nat.le_of_ble_eq_true rfl⟩) hS (fun r_10 w_9 H locs ew_9 hI hsz hS => ?_)
    obtain ⟨ew_9, h2⟩ := ew_9
    have ew_9 := ew_9.symm
    subst ew_9
    obtain ⟨b2, eb, h2⟩ := h2
    subst eb
    refine mv_zeq (tgt := 21) hx hb b2 rfl d_Mo_into_14 (by decide) (fun c2 => ?_) (fun c2 => ?_)
    · refine lv_iconst (v := 0) hx hb d_Mo_into_21 (by decide) ?_
      exact K (false) _ _ _ (⟨fun h => (by cases h), fun h => absurd (h2.mpr h.2) (by rw [c2]; decide)⟩) (lv_sub hl [0, 1, 2] rfl) hI hS
    refine lv_iconst (v := 1) hx hb d_Mo_into_17 (by decide) ?_
    refine lv_goto (tgt := 22) hx hb d_Mo_into_18 (by decide) ?_
    exact K (true) _ _ _ (⟨fun _ => ⟨h1.mp c1, h2.mp c2⟩, fun _ => rfl⟩) (lv_sub hl [0, 1, 2] rfl) hI hS

/-! the model: the order of the nodes -/
def xSm (Y X : XS) : Prop := (∀ j, j ≠ 11 → j ≠ 13 → Y.1 j = X.1 j) ∧ Y.2.1 = X.2.1 ∧ Y.2.2.2 = X.2.2.2
def bq (d : DS) (dp : Nat → Nat) (Y X : XS) (L : List Nat) : Prop :=
  L.Nodup ∧ (∀ c ∈ L, c < 14 ∧ sTh d c = true) ∧ L[0]? = some 0 ∧ Y.2.2.1 = nI L.length ∧ (∀ i (h : i < L.length), Y.1 11 i = nI L[i]) ∧ (∀ c ∈ L, Y.1 13 c = nI (dp c)) ∧
  (∀ i (h : i < L.length) g, sPa d L[i] = some g → ∃ j, j < i ∧ L[j]? = some g) ∧ xSm Y X
def bqA (d : DS) (L : List Nat) (i : Nat) (E : List Nat) : Prop := ∀ c ∈ L, c ≠ 0 → (∃ b g, b < i ∧ L[b]? = some g ∧ sPa d c = some g) ∨ c ∈ E
def bqB (d : DS) (L : List Nat) (i : Nat) : Prop := ∀ b g, b < i → L[b]? = some g → ∀ c ∈ sCh d g, c ∈ L
theorem bq.len {d : DS} {dp : Nat → Nat} {Y X : XS} {L : List Nat} (h : bq d dp Y X L) : L.length ≤ 14 := nd_len 14 L h.1 (fun c hc => (h.2.1 c hc).1)
theorem get_in {L : List Nat} {i g : Nat} (h : L[i]? = some g) : g ∈ L := List.mem_of_getElem? h
theorem bq.new {d : DS} {dp : Nat → Nat} {Y X : XS} {L : List Nat} (h : bq d dp Y X L) (htr : tOk d dp) {i k g : Nat} (hg : L[i]? = some g) (hk : k < (sCh d g).length) (hA : bqA d L i ((sCh d g).take k)) : (sCh d g)[k] ∉ L := by
  intro hc
  obtain ⟨g1, g2⟩ := h.2.1 g (get_in hg)
  obtain ⟨q1, q2, q3, q4, -⟩ := htr.child g1 g2 (List.getElem_mem hk)
  rcases hA _ hc q4 with ⟨b, g', e1, e2, e3⟩ | e
  · rw [q3] at e3
    cases e3
    have hbl : b < L.length := (List.getElem?_eq_some_iff.mp e2).1
    have hil : i < L.length := (List.getElem?_eq_some_iff.mp hg).1
    have := (List.getElem?_inj hbl h.1).mp (e2.trans hg.symm)
    omega
  · obtain ⟨b, hb, eb⟩ := List.getElem_of_mem e
    have hb' : b < k := by
      have := List.length_take_le k (sCh d g)
      omega
    have hbl : b < (sCh d g).length := by omega
    rw [List.getElem_take] at eb
    have := (List.getElem?_inj hbl (htr.2.2.2.2.2.1 g g1 g2).1).mp (show (sCh d g)[b]? = (sCh d g)[k]? by rw [List.getElem?_eq_getElem hbl, List.getElem?_eq_getElem hk, eb])
    omega
theorem bq.app {d : DS} {dp : Nat → Nat} {Y X : XS} {L : List Nat} (h : bq d dp Y X L) {i g c : Nat} (hg : L[i]? = some g) (hc : c ∉ L) (hcc : c < 14 ∧ sTh d c = true ∧ sPa d c = some g ∧ dp c = dp g + 1) : bq d dp (xsN (xsI (xsI Y 11 (upd (Y.1 11) L.length (nI c))) 13 (upd (Y.1 13) c (nI (dp g + 1)))) (nI (L.length + 1))) X (L ++ [c]) := by
  obtain ⟨h1, h2, h3, h4, h5, h6, h7, h8⟩ := h
  have hil : i < L.length := (List.getElem?_eq_some_iff.mp hg).1
  refine ⟨?_, ?_, ?_, ?_, ?_, ?_, ?_, ?_⟩
  · refine List.nodup_append.mpr ⟨h1, by simp, ?_⟩
    intro a ha b hb e
    rw [List.mem_singleton] at hb
    subst hb
    subst e
    exact hc ha
  · intro x hx
    rcases List.mem_append.mp hx with hx | hx
    · exact h2 x hx
    · rw [List.mem_singleton] at hx
      subst hx
      exact ⟨hcc.1, hcc.2.1⟩
  · rw [List.getElem?_append_left (by omega)]
    exact h3
  · show nI (L.length + 1) = _
    rw [List.length_append]
    rfl
  · intro a ha
    show upd (Y.1 11) L.length (nI c) a = _
    rw [List.length_append] at ha
    have ha : a < L.length + 1 := ha
    rcases Nat.lt_or_ge a L.length with q | q
    · rw [List.getElem_append_left q, ← h5 a q]
      exact if_neg (by omega)
    · have e : a = L.length := by omega
      subst e
      rw [List.getElem_append_right (Nat.le_refl _)]
      simp [upd]
  · intro x hx
    show upd (Y.1 13) c (nI (dp g + 1)) x = _
    by_cases e : x = c
    · subst e
      rw [hcc.2.2.2]
      exact if_pos rfl
    · rw [← h6 x (by rcases List.mem_append.mp hx with q | q
                     · exact q
                     · exact absurd (List.mem_singleton.mp q) e)]
      exact if_neg e
  · intro a ha g' hg'
    rw [List.length_append] at ha
    have ha : a < L.length + 1 := ha
    rcases Nat.lt_or_ge a L.length with q | q
    · rw [List.getElem_append_left q] at hg'
      obtain ⟨j, j1, j2⟩ := h7 a q g' hg'
      exact ⟨j, j1, by rw [List.getElem?_append_left (by omega)]; exact j2⟩
    · have e : a = L.length := by omega
      subst e
      rw [List.getElem_append_right (Nat.le_refl _)] at hg'
      simp only [Nat.sub_self, List.getElem_cons_zero] at hg'
      rw [hcc.2.2.1] at hg'
      cases hg'
      exact ⟨i, hil, by rw [List.getElem?_append_left hil]; exact hg⟩
  · refine ⟨fun j hj1 hj2 => ?_, h8.2.1, h8.2.2⟩
    show fset (fset Y.1 11 _) 13 _ j = _
    rw [fset_ne hj2, fset_ne hj1]
    exact h8.1 j hj1 hj2
theorem bq.all {d : DS} {dp : Nat → Nat} {Y X : XS} {L : List Nat} (h : bq d dp Y X L) (htr : tOk d dp) (hB : bqB d L L.length) : mO Y d dp L := by
  have key : ∀ n k, dp k = n → k < 14 → sTh d k = true → k ∈ L := by
    intro n
    induction n with
    | zero =>
      intro k h1 h2 h3
      rcases htr.up h2 h3 with ⟨e, -, -⟩ | ⟨g, -, -, -, -, e, -⟩
      · rw [e]; exact get_in h.2.2.1
      · omega
    | succ n ih =>
      intro k h1 h2 h3
      rcases htr.up h2 h3 with ⟨e, -, -⟩ | ⟨g, q1, q2, q3, -, e, q4⟩
      · rw [e]; exact get_in h.2.2.1
      · obtain ⟨b, hb, eb⟩ := List.getElem_of_mem (ih g (by omega) q1 q3)
        exact hB b g hb (by rw [List.getElem?_eq_getElem hb, eb]) k q4
  exact ⟨h.1, fun k => ⟨fun hk => h.2.1 k hk, fun hk => key _ k rfl hk.1 hk.2⟩, h.2.2.1, h.len, h.2.2.2.1, h.2.2.2.2.1, h.2.2.2.2.2.1, h.2.2.2.2.2.2.1⟩
theorem bqA.nx {d : DS} {dp : Nat → Nat} {L : List Nat} {i g : Nat} (htr : tOk d dp) (hA : bqA d L i (sCh d g)) (hgi : L[i]? = some g) (h1 : g < 14) (h2 : sTh d g = true) : bqA d L (i + 1) [] := by
  intro c hc h0
  refine Or.inl ?_
  rcases hA c hc h0 with ⟨b, g', e1, e2, e3⟩ | e1
  · exact ⟨b, g', by omega, e2, e3⟩
  · exact ⟨i, g, by omega, hgi, (htr.child h1 h2 e1).2.2.1⟩
theorem bqB.nx {d : DS} {L : List Nat} {i g : Nat} (hB : bqB d L i) (hgi : L[i]? = some g) (hC : ∀ c ∈ sCh d g, c ∈ L) : bqB d L (i + 1) := by
  intro b g' hb hbg
  rcases Nat.lt_or_ge b i with q | q
  · exact hB b g' q hbg
  · obtain rfl : b = i := by omega
    rw [hgi] at hbg
    cases hbg
    exact hC
theorem bqA.ap {d : DS} {L E : List Nat} {i c0 : Nat} (hA : bqA d L i E) (hi : i < L.length) : bqA d (L ++ [c0]) i (E ++ [c0]) := by
  intro c hc h0
  rcases List.mem_append.mp hc with q | q
  · rcases hA c q h0 with ⟨b, g', e1, e2, e3⟩ | e1
    · exact Or.inl ⟨b, g', e1, by rw [List.getElem?_append_left (by omega)]; exact e2, e3⟩
    · exact Or.inr (List.mem_append_left _ e1)
  · exact Or.inr (List.mem_append_right _ q)
theorem bqB.ap {d : DS} {L : List Nat} {i c0 : Nat} (hB : bqB d L i) (hi : i < L.length) : bqB d (L ++ [c0]) i := by
  intro b g' hb hbg c hc
  rw [List.getElem?_append_left (by omega)] at hbg
  exact List.mem_append_left _ (hB b g' hb hbg c hc)
theorem mem_ap {L E : List Nat} {c0 : Nat} (h : ∀ c ∈ E, c ∈ L) : ∀ c ∈ E ++ [c0], c ∈ L ++ [c0] := by
  intro c hc
  rcases List.mem_append.mp hc with q | q
  · exact List.mem_append_left _ (h c q)
  · exact List.mem_append_right _ q
set_option maxHeartbeats 4000000 in
set_option maxRecDepth 100000 in
theorem m_Mo_sortNodes (l : Launch) (G : EG) (S0 : Nat) (Q : Nat → Nat) (hQ : qInj Q) (X : XS) (w0 : hp_M) (d : DS) (dp : Nat → Nat) (htr : tOk d dp) (hM : mN X d) : Met l y_Mo_sortNodes w_Mo_sortNodes (rl 0 0 0) (eP G S0 (mW G Q X w0) [.ref (Q 25)]) (va_Qv (fun z => ∃ Y, z = mW G Q Y w0 ∧ (∃ L, mO Y d dp L) ∧ xSm Y X) (eW G S0) (hp_A S0)) 0 0 (hp_A S0) := by
  refine Met.ofW (cc := b_Mo_sortNodes) (maxL := 5) (ret := none) (by decide) rfl ?_
  intro p e s m args below meth c s₁ B hml hv
  obtain ⟨rfl, hE, hI, hz⟩ := hv
  have hx := B.exec
  have hb := B.bytes
  have hr := B.returns
  have hts := atoms_spec (ws := w_Mo_sortNodes) B.pre
  have hg : ∀ w ∈ gw, w.before _ s = true := fun w h => hts w (List.mem_cons_of_mem _ h)
  have hown : s.vm.findClass "SceneEaselModel" = some m.cls := findClass_of_methodNamed B.named
  have hlocks := B.notSynchronized
  have hK := hE.K
  have hS : va_S (hp_A S0) s.heap s.heap [] := va_S.rf
  have hl := lv_entry ([.ref (Q 25)]) (n := 5) (Nat.le_of_ble_eq_true rfl)
  rw [lg_entry_eq]
  generalize (lg_sl ([.ref (Q 25)]) ++ List.replicate (5 - (lg_sl ([.ref (Q 25)])).length) Slot.unset).toArray = ls at hl ⊢
  have hl : lv_has ls 5 [(0, .ref (Q 25))] := hl
  refine lv_aload_n hx hb d_Mo_sortNodes_0 rfl (lv_at hl 0 rfl) ?_
  refine lv_iconst (v := 1) hx hb d_Mo_sortNodes_1 (by decide) ?_
  refine hp_putC (ci := 5) (v := .int 1) (ty := .int) (C := R_Mo) (T := F_Mo) (N := 28) hx hb hg i_Mo t_Mo t_Mo_ok n_Mo hown hK hI hS (mw_o hQ) rfl 25 (by decide) (hg _ k_798) (fun _ h9 => h9) rfl (by decide +kernel) rfl rfl (Nat.le_of_ble_eq_true rfl) d_Mo_sortNodes_2 (fun H locs hI hS hsz => ?_)
  have hI : eI G S0 (mW G Q (xsN X 1) w0) H := by rw [← mws_N hQ]; exact hI
  refine lv_aload_n hx hb d_Mo_sortNodes_5 rfl (lv_at hl 0 rfl) ?_
  refine hp_get (ci := 5) (v := .ref (Q 11)) (C := R_Mo) (T := F_Mo) (N := 28) hx hb hg i_Mo hown hK hI (mw_o hQ) rfl 11 (by decide) (hg _ k_784) (fun _ h9 => h9) rfl d_Mo_sortNodes_6 ?_
  refine lv_iconst (v := 0) hx hb d_Mo_sortNodes_9 (by decide) ?_
  refine lv_iconst (v := 0) hx hb d_Mo_sortNodes_10 (by decide) ?_
  refine mv_iast hx hb hK hI hS 0 (X.1 11) (mw_11 hQ) rfl 0 (fun f9 => mW G Q (xsI (xsN X 1) 11 f9) w0) (fun _ => mws_11 hQ) (rfl) (by omega) (by decide) d_Mo_sortNodes_11 (fun H locs f_1 ef_1 hI hS hsz => ?_)
  try dsimp only at hI
  refine lv_aload_n hx hb d_Mo_sortNodes_12 rfl (lv_at hl 0 rfl) ?_
  refine hp_get (ci := 5) (v := .ref (Q 13)) (C := R_Mo) (T := F_Mo) (N := 28) hx hb hg i_Mo hown hK hI (mw_o hQ) rfl 13 (by decide) (hg _ k_786) (fun _ h9 => h9) rfl d_Mo_sortNodes_13 ?_
  refine lv_iconst (v := 0) hx hb d_Mo_sortNodes_16 (by decide) ?_
  refine lv_iconst (v := 0) hx hb d_Mo_sortNodes_17 (by decide) ?_
  refine mv_iast hx hb hK hI hS 0 (X.1 13) (mw_13 hQ) rfl 0 (fun f9 => mW G Q (xsI (xsI (xsN X 1) 11 f_1) 13 f9) w0) (fun _ => mws_13 hQ) (rfl) (by omega) (by decide) d_Mo_sortNodes_18 (fun H locs f_2 ef_2 hI hS hsz => ?_)
  try dsimp only at hI
  refine lv_iconst (v := 0) hx hb d_Mo_sortNodes_19 (by decide) ?_
  refine lv_istore_n (lv' := [(1, .int 0), (0, .ref (Q 25))]) hx hb d_Mo_sortNodes_20 rfl hl (by decide) rfl (fun ls hl => ?_)
  have hb0 : bq d dp (xsI (xsI (xsN X 1) 11 f_1) 13 f_2) X [0] := by
    rw [ef_1, ef_2]
    refine ⟨by simp, ?_, rfl, rfl, ?_, ?_, ?_, ?_⟩
    · intro c hc
      rw [List.mem_singleton] at hc
      subst hc
      exact ⟨by decide, htr.1⟩
    · intro i hi
      have hi : i < 1 := hi
      obtain rfl : i = 0 := by omega
      rfl
    · intro c hc
      rw [List.mem_singleton] at hc
      subst hc
      rw [htr.2.2.2.1]
      rfl
    · intro i hi g hg
      have hi : i < 1 := hi
      obtain rfl : i = 0 := by omega
      rw [show ([0] : List Nat)[0] = 0 from rfl, htr.2.1] at hg
      cases hg
    · refine ⟨fun j hj1 hj2 => ?_, rfl, rfl⟩
      show fset (fset X.1 11 _) 13 _ j = _
      rw [fset_ne hj2, fset_ne hj1]
  refine W.lpw (fun j (q : XS × List Nat × Nat) => match q with | (Y, L, i) => bq d dp Y X L ∧ bqA d L i [] ∧ bqB d L i ∧ i ≤ L.length ∧ j = 14 - i) (fun (q : XS × List Nat × Nat) => match q with | (Y, L, i) => mW G Q Y w0) (fun (q : XS × List Nat × Nat) => match q with | (Y, L, i) => [(1, .int (nI i)), (0, .ref (Q 25))]) (fun (q : XS × List Nat × Nat) => match q with | (Y, L, i) => 0) (fun (q : XS × List Nat × Nat) => match q with | (Y, L, i) => 0) 5 21 (fun (q : XS × List Nat × Nat) => match q with | (Y, L, i) => []) (14) ((xsI (xsI (xsN X 1) 11 f_1) 13 f_2, [0], 0)) (⟨hb0, fun c hc h0 => absurd (List.mem_singleton.mp hc) h0, fun b g hb => absurd hb (Nat.not_lt_zero b), Nat.zero_le _, rfl⟩) (lv_sub hl [0, 1] rfl) hI hS ?_
  rintro j ⟨Y, L, i⟩ ls H locs hP hl hI hS O
  try dsimp only at hP hl hI ⊢
  obtain ⟨hq, hA, hB, hiL, ej⟩ := hP
  have hL := hq.len
  refine lv_iload_n hx hb d_Mo_sortNodes_21 rfl (lv_at hl 0 rfl) ?_
  refine lv_aload_n hx hb d_Mo_sortNodes_22 rfl (lv_at hl 1 rfl) ?_
  refine hp_get (ci := 5) (v := .int Y.2.2.1) (C := R_Mo) (T := F_Mo) (N := 28) hx hb hg i_Mo hown hK hI (mw_o hQ) rfl 25 (by decide) (hg _ k_798) (fun _ h9 => h9) rfl d_Mo_sortNodes_23 ?_
  refine mv_i (y := nI L.length) (hq.2.2.2.1) ?_
  refine mv_cge (tgt := 109) hx hb i (L.length) rfl rfl (by omega) (by omega) d_Mo_sortNodes_26 (by decide) (fun c1 => ?_) (fun c1 => ?_)
  · exact W.vret hx hb hr (fun t9 ht9 hW9 => ⟨⟨(mW G Q Y w0), rfl, ⟨Y, rfl, ⟨L, hq.all htr (by rw [show L.length = i by omega]; exact hB)⟩, hq.2.2.2.2.2.2.2⟩, eWo ht9 hI⟩, hS.F ht9⟩) hS.2.2 d_Mo_sortNodes_109
  · obtain ⟨g, hgi⟩ : ∃ g, L[i] = g := ⟨_, rfl⟩
    have hg' : L[i]? = some g := by rw [List.getElem?_eq_getElem c1, hgi]
    obtain ⟨hg1, hg2⟩ := hq.2.1 g (get_in hg')
    refine lv_aload_n hx hb d_Mo_sortNodes_29 rfl (lv_at hl 1 rfl) ?_
    refine hp_get (ci := 5) (v := .ref (Q 11)) (C := R_Mo) (T := F_Mo) (N := 28) hx hb hg i_Mo hown hK hI (mw_o hQ) rfl 11 (by decide) (hg _ k_784) (fun _ h9 => h9) rfl d_Mo_sortNodes_30 ?_
    refine lv_iload_n hx hb d_Mo_sortNodes_33 rfl (lv_at hl 0 rfl) ?_
    refine mv_iald hx hb hK hI 0 (Y.1 11) (mw_11 hQ) rfl i (rfl) (by omega) (by decide) d_Mo_sortNodes_34 ?_
    refine mv_i (y := nI g) ((hq.2.2.2.2.1 i c1).trans (by rw [hgi])) ?_
    refine lv_istore_n (lv' := [(2, .int (nI g)), (1, .int (nI i)), (0, .ref (Q 25))]) hx hb d_Mo_sortNodes_35 rfl hl (by decide) rfl (fun ls hl => ?_)
    refine lv_iconst (v := 0) hx hb d_Mo_sortNodes_36 (by decide) ?_
    refine lv_istore_n (lv' := [(3, .int 0), (2, .int (nI g)), (1, .int (nI i)), (0, .ref (Q 25))]) hx hb d_Mo_sortNodes_37 rfl hl (by decide) rfl (fun ls hl => ?_)
    have hlen := htr.len hg1 hg2
    refine W.lpw (fun j (q : XS × List Nat × Nat) => match q with | (Z, M, k) => bq d dp Z X M ∧ bqA d M i ((sCh d g).take k) ∧ bqB d M i ∧ (∀ c ∈ (sCh d g).take k, c ∈ M) ∧ M[i]? = some g ∧ k ≤ (sCh d g).length ∧ j = (sCh d g).length - k) (fun (q : XS × List Nat × Nat) => match q with | (Z, M, k) => mW G Q Z w0) (fun (q : XS × List Nat × Nat) => match q with | (Z, M, k) => [(3, .int (nI k)), (2, .int (nI g)), (1, .int (nI i)), (0, .ref (Q 25))]) (fun (q : XS × List Nat × Nat) => match q with | (Z, M, k) => 0) (fun (q : XS × List Nat × Nat) => match q with | (Z, M, k) => 0) 5 38 (fun (q : XS × List Nat × Nat) => match q with | (Z, M, k) => []) ((sCh d g).length) ((Y, L, 0)) (⟨hq, hA, hB, fun c hc => absurd hc (by simp), hg', Nat.zero_le _, rfl⟩) (lv_sub hl [0, 1, 2, 3] rfl) hI hS ?_
    rintro j ⟨Z, M, k⟩ ls H locs hP hl hI hS I
    try dsimp only at hP hl hI ⊢
    obtain ⟨hq, hA, hB, hC, hg', hkL, ej⟩ := hP
    have hL := hq.len
    have hiM : i < M.length := (List.getElem?_eq_some_iff.mp hg').1
    have e7 : Z.1 7 g = nI (sCh d g).length := by rw [hq.2.2.2.2.2.2.2.1 7 (by decide) (by decide)]; exact hM.ct hg1 hg2
    refine lv_iload_n hx hb d_Mo_sortNodes_38 rfl (lv_at hl 0 rfl) ?_
    refine lv_aload_n hx hb d_Mo_sortNodes_39 rfl (lv_at hl 3 rfl) ?_
    refine hp_get (ci := 5) (v := .ref (Q 7)) (C := R_Mo) (T := F_Mo) (N := 28) hx hb hg i_Mo hown hK hI (mw_o hQ) rfl 7 (by decide) (hg _ k_780) (fun _ h9 => h9) rfl d_Mo_sortNodes_40 ?_
    refine lv_iload_n hx hb d_Mo_sortNodes_43 rfl (lv_at hl 1 rfl) ?_
    refine mv_iald hx hb hK hI 0 (Z.1 7) (mw_7 hQ) rfl g (rfl) (by omega) (by decide) d_Mo_sortNodes_44 ?_
    refine mv_i (y := nI (sCh d g).length) (e7) ?_
    refine mv_cge (tgt := 103) hx hb k (sCh d g).length rfl rfl (by omega) (by omega) d_Mo_sortNodes_45 (by decide) (fun c2 => ?_) (fun c2 => ?_)
    · refine lv_iinc (v := nI (i + 1)) (lv' := [(1, .int (nI (i + 1))), (3, .int (nI k)), (2, .int (nI g)), (0, .ref (Q 25))]) hx hb d_Mo_sortNodes_103 hl (k := 2) rfl (nI_inc i) (by decide) rfl (fun ls hl => ?_)
      refine lv_goto (tgt := 21) hx hb d_Mo_sortNodes_106 (by decide) ?_
      have ek : k = (sCh d g).length := by omega
      subst ek
      rw [List.take_length] at hA hC
      exact O (14 - (i + 1)) ((Z, M, i + 1)) _ _ _ (by omega) (⟨hq, hA.nx htr hg' hg1 hg2, hB.nx hg' hC, by show i + 1 ≤ M.length; omega, rfl⟩) (lv_sub hl [0, 3] rfl) hI hS
    · have hnew := hq.new htr hg' c2 hA
      obtain ⟨c0, ec0⟩ : ∃ c0, (sCh d g)[k] = c0 := ⟨_, rfl⟩
      rw [ec0] at hnew
      have hch := htr.child hg1 hg2 (List.getElem_mem c2)
      rw [ec0] at hch
      have e8 : Z.1 8 (g * 14 + k) = nI c0 := by rw [hq.2.2.2.2.2.2.2.1 8 (by decide) (by decide), hM.ch hg1 hg2 c2, ec0]
      have hq2 := hq.app hg' hnew ⟨hch.1, hch.2.1, hch.2.2.1, hch.2.2.2.2.1⟩
      have hl2 := hq2.len
      rw [List.length_append] at hl2
      have hl2 : M.length + 1 ≤ 14 := hl2
      have hc14 := hch.1
      refine lv_aload_n hx hb d_Mo_sortNodes_48 rfl (lv_at hl 3 rfl) ?_
      refine hp_get (ci := 5) (v := .ref (Q 8)) (C := R_Mo) (T := F_Mo) (N := 28) hx hb hg i_Mo hown hK hI (mw_o hQ) rfl 8 (by decide) (hg _ k_781) (fun _ h9 => h9) rfl d_Mo_sortNodes_49 ?_
      refine lv_iload_n hx hb d_Mo_sortNodes_52 rfl (lv_at hl 1 rfl) ?_
      refine lv_bipush (v := 14) hx hb d_Mo_sortNodes_53 (by decide) ?_
      refine mv_imul hx hb g 14 rfl rfl d_Mo_sortNodes_55 ?_
      refine lv_iload_n hx hb d_Mo_sortNodes_56 rfl (lv_at hl 0 rfl) ?_
      refine mv_iadd hx hb (g * 14) k rfl rfl d_Mo_sortNodes_57 ?_
      refine mv_iald hx hb hK hI 0 (Z.1 8) (mw_8 hQ) rfl (g * 14 + k) (rfl) (by omega) (by decide) d_Mo_sortNodes_58 ?_
      refine mv_i (y := nI c0) (e8) ?_
      refine lv_istore (lv' := [(4, .int (nI c0)), (3, .int (nI k)), (2, .int (nI g)), (1, .int (nI i)), (0, .ref (Q 25))]) hx hb d_Mo_sortNodes_59 hl (by decide) rfl (fun ls hl => ?_)
      refine lv_aload_n hx hb d_Mo_sortNodes_61 rfl (lv_at hl 4 rfl) ?_
      refine hp_get (ci := 5) (v := .ref (Q 11)) (C := R_Mo) (T := F_Mo) (N := 28) hx hb hg i_Mo hown hK hI (mw_o hQ) rfl 11 (by decide) (hg _ k_784) (fun _ h9 => h9) rfl d_Mo_sortNodes_62 ?_
      refine lv_aload_n hx hb d_Mo_sortNodes_65 rfl (lv_at hl 4 rfl) ?_
      refine hp_get (ci := 5) (v := .int Z.2.2.1) (C := R_Mo) (T := F_Mo) (N := 28) hx hb hg i_Mo hown hK hI (mw_o hQ) rfl 25 (by decide) (hg _ k_798) (fun _ h9 => h9) rfl d_Mo_sortNodes_66 ?_
      refine mv_i (y := nI M.length) (hq.2.2.2.1) ?_
      refine lv_iload hx hb d_Mo_sortNodes_69 (lv_at hl 0 rfl) ?_
      refine mv_iast hx hb hK hI hS 0 (Z.1 11) (mw_11 hQ) rfl (M.length) (fun f9 => mW G Q (xsI Z 11 f9) w0) (fun _ => mws_11 hQ) (rfl) (by omega) (by decide) d_Mo_sortNodes_71 (fun H locs f_3 ef_3 hI hS hsz => ?_)
      try dsimp only at hI
      refine lv_aload_n hx hb d_Mo_sortNodes_72 rfl (lv_at hl 4 rfl) ?_
      refine hp_get (ci := 5) (v := .ref (Q 13)) (C := R_Mo) (T := F_Mo) (N := 28) hx hb hg i_Mo hown hK hI (mw_o hQ) rfl 13 (by decide) (hg _ k_786) (fun _ h9 => h9) rfl d_Mo_sortNodes_73 ?_
      refine lv_iload hx hb d_Mo_sortNodes_76 (lv_at hl 0 rfl) ?_
      refine lv_aload_n hx hb d_Mo_sortNodes_78 rfl (lv_at hl 4 rfl) ?_
      refine hp_get (ci := 5) (v := .ref (Q 13)) (C := R_Mo) (T := F_Mo) (N := 28) hx hb hg i_Mo hown hK hI (mw_o hQ) rfl 13 (by decide) (hg _ k_786) (fun _ h9 => h9) rfl d_Mo_sortNodes_79 ?_
      refine lv_iload_n hx hb d_Mo_sortNodes_82 rfl (lv_at hl 2 rfl) ?_
      refine mv_iald hx hb hK hI 0 (Z.1 13) (mw_13 hQ) rfl g (rfl) (by omega) (by decide) d_Mo_sortNodes_83 ?_
      refine mv_i (y := nI (dp g)) (hq.2.2.2.2.2.1 g (get_in hg')) ?_
      refine lv_iconst (v := 1) hx hb d_Mo_sortNodes_84 (by decide) ?_
      refine mv_iadd hx hb (dp g) 1 rfl rfl d_Mo_sortNodes_85 ?_
      refine mv_iast hx hb hK hI hS 0 (Z.1 13) (mw_13 hQ) rfl c0 (fun f9 => mW G Q (xsI (xsI Z 11 f_3) 13 f9) w0) (fun _ => mws_13 hQ) (rfl) (by omega) (by decide) d_Mo_sortNodes_86 (fun H locs f_4 ef_4 hI hS hsz => ?_)
      try dsimp only at hI
      refine lv_aload_n hx hb d_Mo_sortNodes_87 rfl (lv_at hl 4 rfl) ?_
      refine lv_dup hx hb d_Mo_sortNodes_88 rfl ?_
      refine hp_get (ci := 5) (v := .int Z.2.2.1) (C := R_Mo) (T := F_Mo) (N := 28) hx hb hg i_Mo hown hK hI (mw_o hQ) rfl 25 (by decide) (hg _ k_798) (fun _ h9 => h9) rfl d_Mo_sortNodes_89 ?_
      refine mv_i (y := nI M.length) (hq.2.2.2.1) ?_
      refine lv_iconst (v := 1) hx hb d_Mo_sortNodes_92 (by decide) ?_
      refine mv_iadd hx hb (M.length) 1 rfl rfl d_Mo_sortNodes_93 ?_
      refine hp_putC (ci := 5) (v := .int (nI (M.length + 1))) (ty := .int) (C := R_Mo) (T := F_Mo) (N := 28) hx hb hg i_Mo t_Mo t_Mo_ok n_Mo hown hK hI hS (mw_o hQ) rfl 25 (by decide) (hg _ k_798) (fun _ h9 => h9) rfl (by decide +kernel) rfl rfl (Nat.le_of_ble_eq_true rfl) d_Mo_sortNodes_94 (fun H locs hI hS hsz => ?_)
      have hI : eI G S0 (mW G Q (xsN (xsI (xsI Z 11 f_3) 13 f_4) (nI (M.length + 1))) w0) H := by rw [← mws_N hQ]; exact hI
      refine lv_iinc (v := nI (k + 1)) (lv' := [(3, .int (nI (k + 1))), (4, .int (nI c0)), (2, .int (nI g)), (1, .int (nI i)), (0, .ref (Q 25))]) hx hb d_Mo_sortNodes_97 hl (k := 1) rfl (nI_inc k) (by decide) rfl (fun ls hl => ?_)
      refine lv_goto (tgt := 38) hx hb d_Mo_sortNodes_100 (by decide) ?_
      rw [← ef_3, ← ef_4] at hq2
      have etk : (sCh d g).take (k + 1) = (sCh d g).take k ++ [c0] := by rw [List.take_succ_eq_append_getElem c2, ec0]
      exact I ((sCh d g).length - (k + 1)) ((xsN (xsI (xsI Z 11 f_3) 13 f_4) (nI (M.length + 1)), M ++ [c0], k + 1)) _ _ _ (by omega) (⟨hq2, by rw [etk]; exact hA.ap hiM, hB.ap hiM, by rw [etk]; exact mem_ap hC, by rw [List.getElem?_append_left (by omega)]; exact hg', by show k + 1 ≤ _; omega, rfl⟩) (lv_sub hl [0, 2, 3, 4] rfl) hI hS

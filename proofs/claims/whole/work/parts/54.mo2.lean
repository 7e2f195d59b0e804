/-! the model: up the tree, places, numbers -/
theorem nI_nlt0 {g : Nat} (h : g < 2 ^ 31) : ¬ nI g < 0 := Int32.not_lt.mpr (nI_pos' h)
theorem nI_m1 {g : Nat} (h : g < 2 ^ 31) : ¬ (-1 : Int32) = nI g := fun e => absurd (show nI g < 0 by rw [← e]; decide) (nI_nlt0 h)
set_option maxHeartbeats 4000000 in
set_option maxRecDepth 100000 in
theorem m_Mo_within (l : Launch) (G : EG) (S0 : Nat) (Q : Nat → Nat) (hQ : qInj Q) (X : XS) (w0 : hp_M) (d : DS) (dp : Nat → Nat) (htr : tOk d dp) (hpa : ∀ k, k < 14 → sTh d k = true → X.1 6 k = pCd (sPa d k)) (k n : Nat) (hk : k < 14) (hkt : sTh d k = true) (hn : n < 14) : Met l y_Mo_within w_Mo_within (rl 0 0 0) (eP G S0 (mW G Q X w0) [.ref (Q 25), .int (nI k), .int (nI n)]) (va_Qi (fun r z => z = mW G Q X w0 ∧ ∃ b, r = bI b ∧ (b = true ↔ inn d k n)) (eW G S0) (hp_A S0)) 0 0 (hp_A S0) := by
  refine Met.ofW (cc := b_Mo_within) (maxL := 4) (ret := (some .boolean)) (by decide) rfl ?_
  intro p e s m args below meth c s₁ B hml hv
  obtain ⟨rfl, hE, hI, hz⟩ := hv
  have hx := B.exec
  have hb := B.bytes
  have hr := B.returns
  have hts := atoms_spec (ws := w_Mo_within) B.pre
  have hg : ∀ w ∈ gw, w.before _ s = true := fun w h => hts w (List.mem_cons_of_mem _ h)
  have hown : s.vm.findClass "SceneEaselModel" = some m.cls := findClass_of_methodNamed B.named
  have hlocks := B.notSynchronized
  have hK := hE.K
  have hS : va_S (hp_A S0) s.heap s.heap [] := va_S.rf
  have hl := lv_entry ([.ref (Q 25), .int (nI k), .int (nI n)]) (n := 4) (Nat.le_of_ble_eq_true rfl)
  rw [lg_entry_eq]
  generalize (lg_sl ([.ref (Q 25), .int (nI k), .int (nI n)]) ++ List.replicate (4 - (lg_sl ([.ref (Q 25), .int (nI k), .int (nI n)])).length) Slot.unset).toArray = ls at hl ⊢
  have hl : lv_has ls 4 [(0, .ref (Q 25)), (1, .int (nI k)), (2, .int (nI n))] := hl
  refine lv_iload_n hx hb d_Mo_within_0 rfl (lv_at hl 1 rfl) ?_
  refine lv_istore_n (lv' := [(3, .int (nI k)), (0, .ref (Q 25)), (1, .int (nI k)), (2, .int (nI n))]) hx hb d_Mo_within_1 rfl hl (by decide) rfl (fun ls hl => ?_)
  refine W.lpw (fun j (o : Option Nat) => upO d dp o j ∧ (inn d k n ↔ ∃ g, o = some g ∧ inn d g n)) (fun (o : Option Nat) => (mW G Q X w0)) (fun (o : Option Nat) => [(3, .int (pCd o)), (0, .ref (Q 25)), (1, .int (nI k)), (2, .int (nI n))]) (fun (o : Option Nat) => 0) (fun (o : Option Nat) => 0) 4 2 (fun (o : Option Nat) => []) (dp k + 1) (some k) (⟨⟨hk, hkt, rfl⟩, ⟨fun h => ⟨k, rfl, h⟩, fun ⟨g, h1, h2⟩ => by cases h1; exact h2⟩⟩) (lv_sub hl [0, 1, 2, 3] rfl) hI hS ?_
  rintro j o ls H locs hP hl hI hS IH
  try dsimp only at hP hl hI ⊢
  obtain ⟨h2, h3⟩ := hP
  cases o with
  | none =>
    have hl : lv_has ls 4 [(3, .int (-1)), (0, .ref (Q 25)), (1, .int (nI k)), (2, .int (nI n))] := hl
    refine lv_iload_n hx hb d_Mo_within_2 rfl (lv_at hl 0 rfl) ?_
    refine lv_if_lt (tgt := 21) hx hb d_Mo_within_3 (by decide) (fun c9 => ?_) (fun c9 => absurd (by decide) c9)
    refine lv_iload_n hx hb d_Mo_within_21 rfl (lv_at hl 0 rfl) ?_
    refine lv_iload_n hx hb d_Mo_within_22 rfl (lv_at hl 3 rfl) ?_
    refine lv_icmp_ne (tgt := 30) hx hb d_Mo_within_23 (by decide) (fun c9 => ?_) (fun c9 => absurd c9 (nI_m1 (by omega)))
    refine lv_iconst (v := 0) hx hb d_Mo_within_30 (by decide) ?_
    exact W.zret (v := 0) hx hb hr rfl (fun t9 ht9 hW9 => ⟨⟨0, (mW G Q X w0), rfl, ⟨rfl, false, rfl, ⟨fun h => (by cases h), fun h => by obtain ⟨g, h8, -⟩ := h3.mp h; cases h8⟩⟩, eWo ht9 hI⟩, hS.F ht9⟩) hS.2.2 d_Mo_within_31
  | some g =>
    have hl : lv_has ls 4 [(3, .int (nI g)), (0, .ref (Q 25)), (1, .int (nI k)), (2, .int (nI n))] := hl
    obtain ⟨h4, h5, h6⟩ : g < 14 ∧ sTh d g = true ∧ j = dp g + 1 := h2
    refine lv_iload_n hx hb d_Mo_within_2 rfl (lv_at hl 0 rfl) ?_
    refine lv_if_lt (tgt := 21) hx hb d_Mo_within_3 (by decide) (fun c9 => absurd c9 (nI_nlt0 (by omega))) (fun c9 => ?_)
    refine lv_iload_n hx hb d_Mo_within_6 rfl (lv_at hl 0 rfl) ?_
    refine lv_iload_n hx hb d_Mo_within_7 rfl (lv_at hl 3 rfl) ?_
    refine mv_ceq (tgt := 21) hx hb g n rfl rfl (by omega) (by omega) d_Mo_within_8 (by decide) (fun c1 => ?_) (fun c1 => ?_)
    · refine lv_iload_n hx hb d_Mo_within_21 rfl (lv_at hl 0 rfl) ?_
      refine lv_iload_n hx hb d_Mo_within_22 rfl (lv_at hl 3 rfl) ?_
      refine lv_icmp_ne (tgt := 30) hx hb d_Mo_within_23 (by decide) (fun c9 => absurd c9 (fun e => e (by rw [c1]))) (fun c9 => ?_)
      refine lv_iconst (v := 1) hx hb d_Mo_within_26 (by decide) ?_
      refine lv_goto (tgt := 31) hx hb d_Mo_within_27 (by decide) ?_
      exact W.zret (v := 1) hx hb hr rfl (fun t9 ht9 hW9 => ⟨⟨1, (mW G Q X w0), rfl, ⟨rfl, true, rfl, ⟨fun _ => h3.mpr ⟨g, rfl, (inn_iff d g n).mpr (Or.inl c1)⟩, fun _ => rfl⟩⟩, eWo ht9 hI⟩, hS.F ht9⟩) hS.2.2 d_Mo_within_31
    · have h3' : inn d k n ↔ ∃ g', sPa d g = some g' ∧ inn d g' n := by
        constructor
        · intro h
          obtain ⟨g', e1, e2⟩ := h3.mp h
          cases e1
          rcases (inn_iff d g n).mp e2 with e3 | e3
          · exact absurd e3 c1
          · exact e3
        · intro h
          exact h3.mpr ⟨g, rfl, (inn_iff d g n).mpr (Or.inr h)⟩
      refine lv_aload_n hx hb d_Mo_within_11 rfl (lv_at hl 1 rfl) ?_
      refine hp_get (ci := 5) (v := .ref (Q 6)) (C := R_Mo) (T := F_Mo) (N := 28) hx hb hg i_Mo hown hK hI (mw_o hQ) rfl 6 (by decide) (hg _ k_779) (fun _ h9 => h9) rfl d_Mo_within_12 ?_
      refine lv_iload_n hx hb d_Mo_within_15 rfl (lv_at hl 0 rfl) ?_
      refine mv_iald hx hb hK hI 0 (X.1 6) (mw_6 hQ) rfl g (rfl) (by omega) (by decide) d_Mo_within_16 ?_
      refine mv_i (y := pCd (sPa d g)) (hpa g h4 h5) ?_
      refine lv_istore_n (lv' := [(3, .int (pCd (sPa d g))), (0, .ref (Q 25)), (1, .int (nI k)), (2, .int (nI n))]) hx hb d_Mo_within_17 rfl hl (by decide) rfl (fun ls hl => ?_)
      refine lv_goto (tgt := 2) hx hb d_Mo_within_18 (by decide) ?_
      have hu := htr.upO h4 h5
      exact IH (dp g) (sPa d g) _ _ _ (by omega) (⟨hu, h3'⟩) (lv_sub hl [0, 1, 2, 3] rfl) hI hS
set_option maxHeartbeats 4000000 in
set_option maxRecDepth 100000 in
theorem m_Mo_placeOf (l : Launch) (G : EG) (S0 : Nat) (Q : Nat → Nat) (hQ : qInj Q) (X : XS) (w0 : hp_M) (d : DS) (dp : Nat → Nat) (htr : tOk d dp) (hM : mV X d) (k : Nat) (hk : k < 14) (hkt : sTh d k = true) : Met l y_Mo_placeOf w_Mo_placeOf (rl 0 0 0) (eP G S0 (mW G Q X w0) [.ref (Q 25), .int (nI k)]) (va_Qi (fun r z => r = nI (rkF d k) ∧ z = mW G Q X w0) (eW G S0) (hp_A S0)) 0 0 (hp_A S0) := by
  unfold rkF
  refine Met.ofW (cc := b_Mo_placeOf) (maxL := 3) (ret := (some .int)) (by decide) rfl ?_
  intro p e s m args below meth c s₁ B hml hv
  obtain ⟨rfl, hE, hI, hz⟩ := hv
  have hx := B.exec
  have hb := B.bytes
  have hr := B.returns
  have hts := atoms_spec (ws := w_Mo_placeOf) B.pre
  have hg : ∀ w ∈ gw, w.before _ s = true := fun w h => hts w (List.mem_cons_of_mem _ h)
  have hown : s.vm.findClass "SceneEaselModel" = some m.cls := findClass_of_methodNamed B.named
  have hlocks := B.notSynchronized
  have hK := hE.K
  have hS : va_S (hp_A S0) s.heap s.heap [] := va_S.rf
  have hl := lv_entry ([.ref (Q 25), .int (nI k)]) (n := 3) (Nat.le_of_ble_eq_true rfl)
  rw [lg_entry_eq]
  generalize (lg_sl ([.ref (Q 25), .int (nI k)]) ++ List.replicate (3 - (lg_sl ([.ref (Q 25), .int (nI k)])).length) Slot.unset).toArray = ls at hl ⊢
  have hl : lv_has ls 3 [(0, .ref (Q 25)), (1, .int (nI k))] := hl
  refine lv_iconst (v := 0) hx hb d_Mo_placeOf_0 (by decide) ?_
  refine lv_istore_n (lv' := [(2, .int 0), (0, .ref (Q 25)), (1, .int (nI k))]) hx hb d_Mo_placeOf_1 rfl hl (by decide) rfl (fun ls hl => ?_)
  rcases htr.up hk hkt with ⟨h0, ho, -⟩ | ⟨g, hg1, ho, hgt, -, hdp, hkg⟩
  · refine lv_iload_n hx hb d_Mo_placeOf_2 rfl (lv_at hl 2 rfl) ?_
    refine mv_ile (tgt := 32) hx hb k rfl (by omega) d_Mo_placeOf_3 (by decide) (fun c1 => ?_) (fun c1 => ?_)
    · refine lv_iload_n hx hb d_Mo_placeOf_32 rfl (lv_at hl 0 rfl) ?_
      exact W.iret (v := 0) hx hb hr (fun t9 ht9 hW9 => ⟨⟨0, (mW G Q X w0), rfl, ⟨by rw [ho]; rfl, rfl⟩, eWo ht9 hI⟩, hS.F ht9⟩) hS.2.2 d_Mo_placeOf_33
    · omega
  · have hlen := htr.len hg1 hgt
    have hix : (sCh d g).idxOf k < (sCh d g).length := List.idxOf_lt_length_of_mem hkg
    have hk0 : 0 < k := by
      rcases Nat.eq_zero_or_pos k with q | q
      · rw [q, htr.2.1] at ho; cases ho
      · exact q
    rw [ho]
    dsimp only
    refine W.lpw (fun j (i : Nat) => i ≤ (sCh d g).idxOf k ∧ j = (sCh d g).idxOf k - i) (fun (i : Nat) => (mW G Q X w0)) (fun (i : Nat) => [(2, .int (nI i)), (0, .ref (Q 25)), (1, .int (nI k))]) (fun (i : Nat) => 0) (fun (i : Nat) => 0) 3 2 (fun (i : Nat) => []) ((sCh d g).idxOf k) (0) (⟨Nat.zero_le _, rfl⟩) (lv_sub hl [0, 1, 2] rfl) hI hS ?_
    rintro j i ls H locs hP hl hI hS IH
    try dsimp only at hP hl hI ⊢
    obtain ⟨h1, h2⟩ := hP
    have hil : i < (sCh d g).length := by omega
    have hci := ((htr.2.2.2.2.2.1 g hg1 hgt).2.1 _ (List.getElem_mem hil)).1
    refine lv_iload_n hx hb d_Mo_placeOf_2 rfl (lv_at hl 2 rfl) ?_
    refine mv_ile (tgt := 32) hx hb k rfl (by omega) d_Mo_placeOf_3 (by decide) (fun c1 => ?_) (fun c1 => ?_)
    · omega
    refine lv_aload_n hx hb d_Mo_placeOf_6 rfl (lv_at hl 1 rfl) ?_
    refine hp_get (ci := 5) (v := .ref (Q 8)) (C := R_Mo) (T := F_Mo) (N := 28) hx hb hg i_Mo hown hK hI (mw_o hQ) rfl 8 (by decide) (hg _ k_781) (fun _ h9 => h9) rfl d_Mo_placeOf_7 ?_
    refine lv_aload_n hx hb d_Mo_placeOf_10 rfl (lv_at hl 1 rfl) ?_
    refine hp_get (ci := 5) (v := .ref (Q 6)) (C := R_Mo) (T := F_Mo) (N := 28) hx hb hg i_Mo hown hK hI (mw_o hQ) rfl 6 (by decide) (hg _ k_779) (fun _ h9 => h9) rfl d_Mo_placeOf_11 ?_
    refine lv_iload_n hx hb d_Mo_placeOf_14 rfl (lv_at hl 2 rfl) ?_
    refine mv_iald hx hb hK hI 0 (X.1 6) (mw_6 hQ) rfl k (rfl) (by omega) (by decide) d_Mo_placeOf_15 ?_
    refine mv_i (y := nI g) ((hM.pa hk hkt).trans (by rw [ho]; rfl)) ?_
    refine lv_bipush (v := 14) hx hb d_Mo_placeOf_16 (by decide) ?_
    refine mv_imul hx hb g 14 rfl rfl d_Mo_placeOf_18 ?_
    refine lv_iload_n hx hb d_Mo_placeOf_19 rfl (lv_at hl 0 rfl) ?_
    refine mv_iadd hx hb (g * 14) i rfl rfl d_Mo_placeOf_20 ?_
    refine mv_iald hx hb hK hI 0 (X.1 8) (mw_8 hQ) rfl (g * 14 + i) (rfl) (by omega) (by decide) d_Mo_placeOf_21 ?_
    refine mv_i (y := nI ((sCh d g)[i]'hil)) (hM.ch hg1 hgt hil) ?_
    refine lv_iload_n hx hb d_Mo_placeOf_22 rfl (lv_at hl 2 rfl) ?_
    refine mv_ceq (tgt := 32) hx hb ((sCh d g)[i]'hil) k rfl rfl (by omega) (by omega) d_Mo_placeOf_23 (by decide) (fun c2 => ?_) (fun c2 => ?_)
    · refine lv_iload_n hx hb d_Mo_placeOf_32 rfl (lv_at hl 0 rfl) ?_
      exact W.iret (v := (nI i)) hx hb hr (fun t9 ht9 hW9 => ⟨⟨(nI i), (mW G Q X w0), rfl, ⟨by rw [show i = (sCh d g).idxOf k from Nat.le_antisymm h1 (idx_le hil c2)], rfl⟩, eWo ht9 hI⟩, hS.F ht9⟩) hS.2.2 d_Mo_placeOf_33
    · refine lv_iinc (v := nI (i + 1)) (lv' := [(2, .int (nI (i + 1))), (0, .ref (Q 25)), (1, .int (nI k))]) hx hb d_Mo_placeOf_26 hl (k := 0) rfl (nI_inc i) (by decide) rfl (fun ls hl => ?_)
      refine lv_goto (tgt := 2) hx hb d_Mo_placeOf_29 (by decide) ?_
      have hne : i ≠ (sCh d g).idxOf k := fun e => c2 (by have := List.getElem_idxOf hix; simp only [← e] at this; exact this)
      exact IH ((sCh d g).idxOf k - (i + 1)) (i + 1) _ _ _ (by omega) (⟨by omega, rfl⟩) (lv_sub hl [0, 1, 2] rfl) hI hS
set_option maxHeartbeats 4000000 in
set_option maxRecDepth 100000 in
theorem m_Mo_keysOf (l : Launch) (G : EG) (S0 : Nat) (Q : Nat → Nat) (hQ : qInj Q) (X : XS) (w0 : hp_M) (d : DS) (hM : mN X d) (k : Nat) (hk : k < 14) (hkt : sTh d k = true) : Met l y_Mo_keysOf w_Mo_keysOf (rl 0 0 0) (eP G S0 (mW G Q X w0) [.ref (Q 25), .int (nI k)]) (va_Qi (fun r z => r = nI (frS d k 4) ∧ z = mW G Q X w0) (eW G S0) (hp_A S0)) 0 0 (hp_A S0) := by
  refine Met.ofW (cc := b_Mo_keysOf) (maxL := 2) (ret := (some .int)) (by decide) rfl ?_
  intro p e s m args below meth c s₁ B hml hv
  obtain ⟨rfl, hE, hI, hz⟩ := hv
  have hx := B.exec
  have hb := B.bytes
  have hr := B.returns
  have hts := atoms_spec (ws := w_Mo_keysOf) B.pre
  have hg : ∀ w ∈ gw, w.before _ s = true := fun w h => hts w (List.mem_cons_of_mem _ h)
  have hown : s.vm.findClass "SceneEaselModel" = some m.cls := findClass_of_methodNamed B.named
  have hlocks := B.notSynchronized
  have hK := hE.K
  have hS : va_S (hp_A S0) s.heap s.heap [] := va_S.rf
  have hl := lv_entry ([.ref (Q 25), .int (nI k)]) (n := 2) (Nat.le_of_ble_eq_true rfl)
  rw [lg_entry_eq]
  generalize (lg_sl ([.ref (Q 25), .int (nI k)]) ++ List.replicate (2 - (lg_sl ([.ref (Q 25), .int (nI k)])).length) Slot.unset).toArray = ls at hl ⊢
  have hl : lv_has ls 2 [(0, .ref (Q 25)), (1, .int (nI k))] := hl
  refine lv_aload_n hx hb d_Mo_keysOf_0 rfl (lv_at hl 0 rfl) ?_
  refine hp_get (ci := 5) (v := .ref (Q 10)) (C := R_Mo) (T := F_Mo) (N := 28) hx hb hg i_Mo hown hK hI (mw_o hQ) rfl 10 (by decide) (hg _ k_783) (fun _ h9 => h9) rfl d_Mo_keysOf_1 ?_
  refine lv_iload_n hx hb d_Mo_keysOf_4 rfl (lv_at hl 1 rfl) ?_
  refine lv_iconst (v := 4) hx hb d_Mo_keysOf_5 (by decide) ?_
  refine mv_imul hx hb k 4 rfl rfl d_Mo_keysOf_6 ?_
  refine mv_iald hx hb hK hI 0 (X.1 10) (mw_10 hQ) rfl (k * 4) (rfl) (by omega) (by decide) d_Mo_keysOf_7 ?_
  refine mv_i (y := nI (sTn d k 0)) (hM.kn hk hkt (i := 0) (by decide)) ?_
  refine lv_aload_n hx hb d_Mo_keysOf_8 rfl (lv_at hl 0 rfl) ?_
  refine hp_get (ci := 5) (v := .ref (Q 10)) (C := R_Mo) (T := F_Mo) (N := 28) hx hb hg i_Mo hown hK hI (mw_o hQ) rfl 10 (by decide) (hg _ k_783) (fun _ h9 => h9) rfl d_Mo_keysOf_9 ?_
  refine lv_iload_n hx hb d_Mo_keysOf_12 rfl (lv_at hl 1 rfl) ?_
  refine lv_iconst (v := 4) hx hb d_Mo_keysOf_13 (by decide) ?_
  refine mv_imul hx hb k 4 rfl rfl d_Mo_keysOf_14 ?_
  refine lv_iconst (v := 1) hx hb d_Mo_keysOf_15 (by decide) ?_
  refine mv_iadd hx hb (k * 4) 1 rfl rfl d_Mo_keysOf_16 ?_
  refine mv_iald hx hb hK hI 0 (X.1 10) (mw_10 hQ) rfl (k * 4 + 1) (rfl) (by omega) (by decide) d_Mo_keysOf_17 ?_
  refine mv_i (y := nI (sTn d k 1)) (hM.kn hk hkt (i := 1) (by decide)) ?_
  refine mv_iadd hx hb (sTn d k 0) (sTn d k 1) rfl rfl d_Mo_keysOf_18 ?_
  refine lv_aload_n hx hb d_Mo_keysOf_19 rfl (lv_at hl 0 rfl) ?_
  refine hp_get (ci := 5) (v := .ref (Q 10)) (C := R_Mo) (T := F_Mo) (N := 28) hx hb hg i_Mo hown hK hI (mw_o hQ) rfl 10 (by decide) (hg _ k_783) (fun _ h9 => h9) rfl d_Mo_keysOf_20 ?_
  refine lv_iload_n hx hb d_Mo_keysOf_23 rfl (lv_at hl 1 rfl) ?_
  refine lv_iconst (v := 4) hx hb d_Mo_keysOf_24 (by decide) ?_
  refine mv_imul hx hb k 4 rfl rfl d_Mo_keysOf_25 ?_
  refine lv_iconst (v := 2) hx hb d_Mo_keysOf_26 (by decide) ?_
  refine mv_iadd hx hb (k * 4) 2 rfl rfl d_Mo_keysOf_27 ?_
  refine mv_iald hx hb hK hI 0 (X.1 10) (mw_10 hQ) rfl (k * 4 + 2) (rfl) (by omega) (by decide) d_Mo_keysOf_28 ?_
  refine mv_i (y := nI (sTn d k 2)) (hM.kn hk hkt (i := 2) (by decide)) ?_
  refine mv_iadd hx hb (sTn d k 0 + (sTn d k 1)) (sTn d k 2) rfl rfl d_Mo_keysOf_29 ?_
  refine lv_aload_n hx hb d_Mo_keysOf_30 rfl (lv_at hl 0 rfl) ?_
  refine hp_get (ci := 5) (v := .ref (Q 10)) (C := R_Mo) (T := F_Mo) (N := 28) hx hb hg i_Mo hown hK hI (mw_o hQ) rfl 10 (by decide) (hg _ k_783) (fun _ h9 => h9) rfl d_Mo_keysOf_31 ?_
  refine lv_iload_n hx hb d_Mo_keysOf_34 rfl (lv_at hl 1 rfl) ?_
  refine lv_iconst (v := 4) hx hb d_Mo_keysOf_35 (by decide) ?_
  refine mv_imul hx hb k 4 rfl rfl d_Mo_keysOf_36 ?_
  refine lv_iconst (v := 3) hx hb d_Mo_keysOf_37 (by decide) ?_
  refine mv_iadd hx hb (k * 4) 3 rfl rfl d_Mo_keysOf_38 ?_
  refine mv_iald hx hb hK hI 0 (X.1 10) (mw_10 hQ) rfl (k * 4 + 3) (rfl) (by omega) (by decide) d_Mo_keysOf_39 ?_
  refine mv_i (y := nI (sTn d k 3)) (hM.kn hk hkt (i := 3) (by decide)) ?_
  refine mv_iadd hx hb (sTn d k 0 + (sTn d k 1) + (sTn d k 2)) (sTn d k 3) rfl rfl d_Mo_keysOf_40 ?_
  exact W.iret (v := (nI (sTn d k 0 + (sTn d k 1) + (sTn d k 2) + (sTn d k 3)))) hx hb hr (fun t9 ht9 hW9 => ⟨⟨(nI (sTn d k 0 + (sTn d k 1) + (sTn d k 2) + (sTn d k 3))), (mW G Q X w0), rfl, ⟨by congr 1; show _ = 0 + sTn d k 0 + sTn d k 1 + sTn d k 2 + sTn d k 3; omega, rfl⟩, eWo ht9 hI⟩, hS.F ht9⟩) hS.2.2 d_Mo_keysOf_41
/-- what a power of the model is -/
def mPw (x : UInt64) : UInt64 := if FP.dcmp x FP.dconst0 = some .lt then (if FP.dcmp x 13830554455654793216 = some .eq then 4602678819172646912 else 4598175219545276416) else if FP.dcmp x FP.dconst0 = some .eq then FP.dconst1 else if FP.dcmp x FP.dconst1 = some .eq then 4611686018427387904 else 4616189618054758400
set_option maxHeartbeats 4000000 in
set_option maxRecDepth 100000 in
theorem m_Mo_power (l : Launch) (G : EG) (S0 : Nat) (w : hp_M) (x : UInt64) : Met l y_Mo_power w_Mo_power (rl 0 0 0) (eP G S0 w [.double x]) (va_Qd (fun r z => r = mPw x ∧ z = w) (eW G S0) (hp_A S0)) 0 0 (hp_A S0) := by
  refine Met.ofW (cc := b_Mo_power) (maxL := 2) (ret := (some .double)) (by decide) rfl ?_
  intro p e s m args below meth c s₁ B hml hv
  obtain ⟨rfl, hE, hI, hz⟩ := hv
  have hx := B.exec
  have hb := B.bytes
  have hr := B.returns
  have hts := atoms_spec (ws := w_Mo_power) B.pre
  have hg : ∀ w ∈ gw, w.before _ s = true := fun w h => hts w (List.mem_cons_of_mem _ h)
  have hown : s.vm.findClass "SceneEaselModel" = some m.cls := findClass_of_methodNamed B.named
  have hlocks := B.notSynchronized
  have hK := hE.K
  have hS : va_S (hp_A S0) s.heap s.heap [] := va_S.rf
  have hl := lv_entry ([.double x]) (n := 2) (Nat.le_of_ble_eq_true rfl)
  rw [lg_entry_eq]
  generalize (lg_sl ([.double x]) ++ List.replicate (2 - (lg_sl ([.double x])).length) Slot.unset).toArray = ls at hl ⊢
  have hl : lv_has ls 2 [(0, .double x)] := hl
  refine lv_dload_n hx hb d_Mo_power_0 rfl (lv_at hl 0 rfl) ?_
  refine lv_dconst0 hx hb d_Mo_power_1 ?_
  refine lv_dcmp hx hb d_Mo_power_2 ?_
  refine lv_if_ge (tgt := 26) hx hb d_Mo_power_3 (by decide) (fun c1 => ?_) (fun c1 => ?_)
  · have c1 := cv_g_ge.mp c1
    refine lv_dload_n hx hb d_Mo_power_26 rfl (lv_at hl 0 rfl) ?_
    refine lv_dconst0 hx hb d_Mo_power_27 ?_
    refine lv_dcmp hx hb d_Mo_power_28 ?_
    refine lv_if_ne (tgt := 36) hx hb d_Mo_power_29 (by decide) (fun c2 => ?_) (fun c2 => ?_)
    · have c2 : ¬ FP.dcmp x FP.dconst0 = some .eq := fun h => c2 (cv_l_eq.mpr h)
      refine lv_dload_n hx hb d_Mo_power_36 rfl (lv_at hl 0 rfl) ?_
      refine lv_dconst1 hx hb d_Mo_power_37 ?_
      refine lv_dcmp hx hb d_Mo_power_38 ?_
      refine lv_if_ne (tgt := 48) hx hb d_Mo_power_39 (by decide) (fun c3 => ?_) (fun c3 => ?_)
      · have c3 : ¬ FP.dcmp x FP.dconst1 = some .eq := fun h => c3 (cv_l_eq.mpr h)
        refine lv_ldc2d (v := 4616189618054758400) hx hb hown (hg _ k_975) d_Mo_power_48 ?_
        exact W.dret (v := 4616189618054758400) hx hb hr (fun t9 ht9 hW9 => ⟨⟨4616189618054758400, w, rfl, ⟨by unfold mPw; rw [if_neg c1, if_neg c2, if_neg c3], rfl⟩, eWo ht9 hI⟩, hS.F ht9⟩) hS.2.2 d_Mo_power_51
      · refine lv_ldc2d (v := 4611686018427387904) hx hb hown (hg _ k_926) d_Mo_power_42 ?_
        refine lv_goto (tgt := 51) hx hb d_Mo_power_45 (by decide) ?_
        exact W.dret (v := 4611686018427387904) hx hb hr (fun t9 ht9 hW9 => ⟨⟨4611686018427387904, w, rfl, ⟨by unfold mPw; rw [if_neg c1, if_neg c2, if_pos (cv_l_eq.mp c3)], rfl⟩, eWo ht9 hI⟩, hS.F ht9⟩) hS.2.2 d_Mo_power_51
    · refine lv_dconst1 hx hb d_Mo_power_32 ?_
      refine lv_goto (tgt := 51) hx hb d_Mo_power_33 (by decide) ?_
      exact W.dret (v := FP.dconst1) hx hb hr (fun t9 ht9 hW9 => ⟨⟨FP.dconst1, w, rfl, ⟨by unfold mPw; rw [if_neg c1, if_pos (cv_l_eq.mp c2)], rfl⟩, eWo ht9 hI⟩, hS.F ht9⟩) hS.2.2 d_Mo_power_51
  · have c1 := cv_g_lt.mp (Int32.not_le.mp c1)
    refine lv_dload_n hx hb d_Mo_power_6 rfl (lv_at hl 0 rfl) ?_
    refine lv_ldc2d (v := 13830554455654793216) hx hb hown (hg _ k_973) d_Mo_power_7 ?_
    refine lv_dcmp hx hb d_Mo_power_10 ?_
    refine lv_if_ne (tgt := 20) hx hb d_Mo_power_11 (by decide) (fun c2 => ?_) (fun c2 => ?_)
    · have c2 : ¬ FP.dcmp x 13830554455654793216 = some .eq := fun h => c2 (cv_l_eq.mpr h)
      refine lv_ldc2d (v := 4598175219545276416) hx hb hown (hg _ k_974) d_Mo_power_20 ?_
      refine lv_goto (tgt := 51) hx hb d_Mo_power_23 (by decide) ?_
      exact W.dret (v := 4598175219545276416) hx hb hr (fun t9 ht9 hW9 => ⟨⟨4598175219545276416, w, rfl, ⟨by unfold mPw; rw [if_pos c1, if_neg c2], rfl⟩, eWo ht9 hI⟩, hS.F ht9⟩) hS.2.2 d_Mo_power_51
    · refine lv_ldc2d (v := 4602678819172646912) hx hb hown (hg _ k_960) d_Mo_power_14 ?_
      refine lv_goto (tgt := 51) hx hb d_Mo_power_17 (by decide) ?_
      exact W.dret (v := 4602678819172646912) hx hb hr (fun t9 ht9 hW9 => ⟨⟨4602678819172646912, w, rfl, ⟨by unfold mPw; rw [if_pos c1, if_pos (cv_l_eq.mp c2)], rfl⟩, eWo ht9 hI⟩, hS.F ht9⟩) hS.2.2 d_Mo_power_51
/-- a row of the boxes made wider -/
def mWl (f : Nat → UInt64) (r : Nat) (v : UInt64) : Nat → UInt64 := if FP.dcmp v (f r) = some .lt then vf_upd f r v else f
def mWh (f : Nat → UInt64) (r : Nat) (v : UInt64) : Nat → UInt64 := if FP.dcmp v (f r) = some .gt then vf_upd f r v else f
theorem xs_same {X : XS} {j : Nat} : xsD X j (X.2.1 j) = X := by
  obtain ⟨a, b, c⟩ := X
  show (a, fset b j (b j), c) = (a, b, c)
  congr 2
  funext i
  by_cases h : i = j
  · rw [h, fset_eq]
  · rw [fset_ne h]
set_option maxHeartbeats 4000000 in
set_option maxRecDepth 100000 in
theorem m_Mo_widen (l : Launch) (G : EG) (S0 : Nat) (Q : Nat → Nat) (hQ : qInj Q) (X : XS) (w0 : hp_M) (r : Nat) (hr' : r < 28) (v : UInt64) : Met l y_Mo_widen w_Mo_widen (rl 0 0 0) (eP G S0 (mW G Q X w0) [.ref (Q 25), .int (nI r), .double v]) (va_Qv (fun z => z = mW G Q (xsD (xsD X 22 (mWl (X.2.1 22) r v)) 23 (mWh (X.2.1 23) r v)) w0) (eW G S0) (hp_A S0)) 0 0 (hp_A S0) := by
  refine Met.ofW (cc := b_Mo_widen) (maxL := 4) (ret := none) (by decide) rfl ?_
  intro p e s m args below meth c s₁ B hml hv
  obtain ⟨rfl, hE, hI, hz⟩ := hv
  have hx := B.exec
  have hb := B.bytes
  have hr := B.returns
  have hts := atoms_spec (ws := w_Mo_widen) B.pre
  have hg : ∀ w ∈ gw, w.before _ s = true := fun w h => hts w (List.mem_cons_of_mem _ h)
  have hown : s.vm.findClass "SceneEaselModel" = some m.cls := findClass_of_methodNamed B.named
  have hlocks := B.notSynchronized
  have hK := hE.K
  have hS : va_S (hp_A S0) s.heap s.heap [] := va_S.rf
  have hl := lv_entry ([.ref (Q 25), .int (nI r), .double v]) (n := 4) (Nat.le_of_ble_eq_true rfl)
  rw [lg_entry_eq]
  generalize (lg_sl ([.ref (Q 25), .int (nI r), .double v]) ++ List.replicate (4 - (lg_sl ([.ref (Q 25), .int (nI r), .double v])).length) Slot.unset).toArray = ls at hl ⊢
  have hl : lv_has ls 4 [(0, .ref (Q 25)), (1, .int (nI r)), (2, .double v)] := hl
  refine lv_dload_n hx hb d_Mo_widen_0 rfl (lv_at hl 2 rfl) ?_
  refine lv_aload_n hx hb d_Mo_widen_1 rfl (lv_at hl 0 rfl) ?_
  refine hp_get (ci := 5) (v := .ref (Q 22)) (C := R_Mo) (T := F_Mo) (N := 28) hx hb hg i_Mo hown hK hI (mw_o hQ) rfl 22 (by decide) (hg _ k_795) (fun _ h9 => h9) rfl d_Mo_widen_2 ?_
  refine lv_iload_n hx hb d_Mo_widen_5 rfl (lv_at hl 1 rfl) ?_
  refine mv_dald hx hb hK hI 1 (X.2.1 22) (mw_22 hQ) rfl r (rfl) (by omega) (by decide) d_Mo_widen_6 ?_
  refine lv_dcmp hx hb d_Mo_widen_7 ?_
  refine W.midw (G := G) (S0 := S0) (fun (f : Nat → UInt64) => f = mWl (X.2.1 22) r v) (fun (f : Nat → UInt64) => mW G Q (xsD X 22 f) w0) (fun (f : Nat → UInt64) => [(0, .ref (Q 25)), (1, .int (nI r)), (2, .double v)]) (fun (f : Nat → UInt64) => 0) (fun (f : Nat → UInt64) => 0) 4 18 (fun (f : Nat → UInt64) => []) ?_ (fun K => ?_)
  · rintro f ls H locs hP hl hI hS
    try dsimp only at hP hl hI ⊢
    refine lv_dload_n hx hb d_Mo_widen_18 rfl (lv_at hl 2 rfl) ?_
    refine lv_aload_n hx hb d_Mo_widen_19 rfl (lv_at hl 0 rfl) ?_
    refine hp_get (ci := 5) (v := .ref (Q 23)) (C := R_Mo) (T := F_Mo) (N := 28) hx hb hg i_Mo hown hK hI (mw_o hQ) rfl 23 (by decide) (hg _ k_796) (fun _ h9 => h9) rfl d_Mo_widen_20 ?_
    refine lv_iload_n hx hb d_Mo_widen_23 rfl (lv_at hl 1 rfl) ?_
    refine mv_dald hx hb hK hI 1 ((xsD X 22 f).2.1 23) (mw_23 hQ) rfl r (rfl) (by omega) (by decide) d_Mo_widen_24 ?_
    refine lv_dcmp hx hb d_Mo_widen_25 ?_
    refine lv_if_le (tgt := 36) hx hb d_Mo_widen_26 (by decide) (fun c1 => ?_) (fun c1 => ?_)
    · exact W.vret hx hb hr (fun t9 ht9 hW9 => ⟨⟨(mW G Q (xsD X 22 f) w0), rfl, by rw [show mWh (X.2.1 23) r v = X.2.1 23 from if_neg (cv_l_le.mp c1), ← hP]; exact congrArg (fun z => mW G Q z w0) (xs_same (X := xsD X 22 f) (j := 23)).symm, eWo ht9 hI⟩, hS.F ht9⟩) hS.2.2 d_Mo_widen_36
    · refine lv_aload_n hx hb d_Mo_widen_29 rfl (lv_at hl 0 rfl) ?_
      refine hp_get (ci := 5) (v := .ref (Q 23)) (C := R_Mo) (T := F_Mo) (N := 28) hx hb hg i_Mo hown hK hI (mw_o hQ) rfl 23 (by decide) (hg _ k_796) (fun _ h9 => h9) rfl d_Mo_widen_30 ?_
      refine lv_iload_n hx hb d_Mo_widen_33 rfl (lv_at hl 1 rfl) ?_
      refine lv_dload_n hx hb d_Mo_widen_34 rfl (lv_at hl 2 rfl) ?_
      refine mv_dast hx hb hK hI hS 1 ((xsD X 22 f).2.1 23) (mw_23 hQ) rfl r (fun f9 => mW G Q (xsD (xsD X 22 f) 23 f9) w0) (fun _ => mws_23 hQ) (rfl) (by omega) (by decide) d_Mo_widen_35 (fun H locs f_1 ef_1 hI hS hsz => ?_)
      try dsimp only at hI
      exact W.vret hx hb hr (fun t9 ht9 hW9 => ⟨⟨(mW G Q (xsD (xsD X 22 f) 23 f_1) w0), rfl, by rw [show mWh (X.2.1 23) r v = vf_upd (X.2.1 23) r v from if_pos (cv_l_gt.mp (Int32.not_le.mp c1)), ← hP, ef_1]; rfl, eWo ht9 hI⟩, hS.F ht9⟩) hS.2.2 d_Mo_widen_36
  · refine lv_if_ge (tgt := 18) hx hb d_Mo_widen_8 (by decide) (fun c1 => ?_) (fun c1 => ?_)
    · have hI : eI G S0 (mW G Q (xsD X 22 (X.2.1 22)) w0) s.heap := by rw [xs_same]; exact hI
      exact K (X.2.1 22) _ _ _ ((if_neg (cv_g_ge.mp c1)).symm) (lv_sub hl [0, 1, 2] rfl) hI hS
    · refine lv_aload_n hx hb d_Mo_widen_11 rfl (lv_at hl 0 rfl) ?_
      refine hp_get (ci := 5) (v := .ref (Q 22)) (C := R_Mo) (T := F_Mo) (N := 28) hx hb hg i_Mo hown hK hI (mw_o hQ) rfl 22 (by decide) (hg _ k_795) (fun _ h9 => h9) rfl d_Mo_widen_12 ?_
      refine lv_iload_n hx hb d_Mo_widen_15 rfl (lv_at hl 1 rfl) ?_
      refine lv_dload_n hx hb d_Mo_widen_16 rfl (lv_at hl 2 rfl) ?_
      refine mv_dast hx hb hK hI hS 1 (X.2.1 22) (mw_22 hQ) rfl r (fun f9 => mW G Q (xsD X 22 f9) w0) (fun _ => mws_22 hQ) (rfl) (by omega) (by decide) d_Mo_widen_17 (fun H locs f_2 ef_2 hI hS hsz => ?_)
      try dsimp only at hI
      exact K (f_2) _ _ _ ((ef_2).trans (if_pos (cv_g_lt.mp (Int32.not_le.mp c1))).symm) (lv_sub hl [0, 1, 2] rfl) hI hS

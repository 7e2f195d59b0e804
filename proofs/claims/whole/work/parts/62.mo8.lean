/-! the model: remove, node -/
/-- a number less one -/
def dnI : Nat → Int32
  | 0 => -1
  | n + 1 => nI n
theorem dnI_of {n : Nat} (h : 1 ≤ n) : nI (n - 1) = dnI n := by
  cases n with
  | zero => omega
  | succ n => rfl
theorem dnI_dec (i : Nat) : nI i + Int32.ofInt (-1) = dnI i := by
  cases i with
  | zero => decide
  | succ n => exact nI_dec n
noncomputable def inW (d : DS) (k : Nat) : Nat → Nat := fun c => @ite Nat (inn d c k) (Classical.propDecidable _) 1 0
theorem inW_y {d : DS} {k c : Nat} (h : inn d c k) : inW d k c = 1 := if_pos h
theorem inW_n {d : DS} {k c : Nat} (h : ¬ inn d c k) : inW d k c = 0 := if_neg h
theorem sP_gnN (d : DS) (k : Nat) : ∀ n, gnN d k n = sP (fun i => sTh d i = true) (inW d k) n
  | 0 => rfl
  | n + 1 => by
    by_cases e : sTh d n = true
    · by_cases i : inn d n k
      · rw [sP_y e, gnN_y ⟨e, i⟩, inW_y i, sP_gnN d k n]
      · rw [sP_y e, gnN_n (fun h => i h.2), inW_n i, sP_gnN d k n]
        rfl
    · rw [sP_n e, gnN_n (fun h => e h.1), sP_gnN d k n]
theorem mN.rem {X : XS} {d : DS} {dp : Nat → Nat} (hM : mN X d) (htr : tOk d dp) {k gp : Nat} (hk : k < 14) (ht : sTh d k = true) (hk0 : k ≠ 0) (hgp : gp < 14) (hgpt : sTh d gp = true) (hpa : sPa d k = some gp) (hkc : k ∈ sCh d gp) {f : Nat → Int32} (hf : ∀ c, c < 14 → f c = bI (sTh (dRem d k gp) c)) : mN (xLv d (xsI X 0 f) k gp) (dRem d k gp) := by
  refine ⟨hf, fun c hc hct => ?_⟩
  obtain ⟨hct, hci⟩ := dRem_t.mp hct
  have e : c ≠ k := fun e => hci (by rw [e]; exact inn_self d k)
  refine mN1.tr (hM.2 c hc hct) ⟨rfl, rfl, rfl, rfl⟩ (fun _ _ => rfl) ⟨rfl, rfl, rfl⟩ (fun _ _ => rfl) (fun _ _ _ _ => ⟨rfl, rfl⟩) rfl rfl rfl rfl rfl ?_ ?_ ?_
  · rw [dRem_p, if_neg e]; exact hM.pa hc hct
  · rw [dRem_c hpa]; exact lv_ct hM.2 hkc hc hct
  · intro i x ex
    rw [dRem_c hpa] at ex
    exact lv_ch hM.2 htr hgp hgpt hkc hc hct ex
set_option maxHeartbeats 4000000 in
set_option maxRecDepth 100000 in
theorem m_Mo_remove (l : Launch) (G : EG) (S0 : Nat) (Q : Nat → Nat) (hQ : qInj Q) (X : XS) (w0 : hp_M) (d : DS) (dp : Nat → Nat) (htr : tOk d dp) (hM : mN X d) (L : List Nat) (hO : mO X d dp L) (hC : mC X d) (n : Int32) : Met l y_Mo_remove w_Mo_remove (rl 2 0 0) (eP G S0 (mW G Q X w0) [.ref (Q 25), .int n]) (va_Qi (fun r z => (¬ (isN d n ∧ n ≠ 0) ∧ z = mW G Q (xsT X 1) w0) ∨ ∃ k gp, (k < 14 ∧ n = nI k ∧ sTh d k = true ∧ k ≠ 0 ∧ gp < 14 ∧ sTh d gp = true ∧ sPa d k = some gp ∧ k ∈ sCh d gp) ∧ r = nI (gnN d k 14) ∧ ∃ Y, z = mW G Q Y w0 ∧ mP Y (dRem d k gp) dp ∧ Y.2.2.2.2 = 0) (eW G S0) (hp_A S0)) 0 0 (hp_A S0) := by
  refine Met.ofW (cc := b_Mo_remove) (maxL := 5) (ret := (some .int)) (by decide) rfl ?_
  intro p e s m args below meth c s₁ B hml hv
  obtain ⟨rfl, hE, hI, hz⟩ := hv
  have hx := B.exec
  have hb := B.bytes
  have hr := B.returns
  have hts := atoms_spec (ws := w_Mo_remove) B.pre
  have hg : ∀ w ∈ gw, w.before _ s = true := fun w h => hts w (List.mem_cons_of_mem _ h)
  have hown : s.vm.findClass "SceneEaselModel" = some m.cls := findClass_of_methodNamed B.named
  have hlocks := B.notSynchronized
  have hK := hE.K
  have hS : va_S (hp_A S0) s.heap s.heap [] := va_S.rf
  have hl := lv_entry ([.ref (Q 25), .int n]) (n := 5) (Nat.le_of_ble_eq_true rfl)
  rw [lg_entry_eq]
  generalize (lg_sl ([.ref (Q 25), .int n]) ++ List.replicate (5 - (lg_sl ([.ref (Q 25), .int n])).length) Slot.unset).toArray = ls at hl ⊢
  have hl : lv_has ls 5 [(0, .ref (Q 25)), (1, .int n)] := hl
  refine lv_aload_n hx hb d_Mo_remove_0 rfl (lv_at hl 0 rfl) ?_
  refine lv_aload_n hx hb d_Mo_remove_1 rfl (lv_at hl 0 rfl) ?_
  refine lv_iload_n hx hb d_Mo_remove_2 rfl (lv_at hl 1 rfl) ?_
  refine ec_i (va_runV (As := [.int n]) (rest := [.ref (Q 25)]) ⟨hx, hb, hml, hown, hts⟩ (m_Mo_isOther l G S0 Q hQ X w0 d hM n) (cwV 1 hts (gw_V k_896 k_898 k_47 k_67 k_899) rfl rfl rfl (by decide +kernel) ⟨Nat.le_of_ble_eq_true rfl, Nat.le_of_ble_eq_true rfl⟩) (eB.preV hE hI hS hz rfl (mw_o hQ)) rfl rfl hl.1 rfl (lv_room (Nat.le_of_ble_eq_true rfl)) d_Mo_remove_3 ⟨Nat.le_of_ble_eq_true rfl, Nat.le_of_ble_eq_true rfl⟩) hS (fun r_2 w_1 H locs ew_1 hI hsz hS => ?_)
  obtain ⟨ew_1, h1⟩ := ew_1
  have ew_1 := ew_1.symm
  subst ew_1
  obtain ⟨b, eb, h1⟩ := h1
  subst eb
  refine ec_i (va_runV (As := [.int (bI b)]) (rest := []) ⟨hx, hb, hml, hown, hts⟩ (m_Mo_bad l G S0 Q hQ X w0 b) (cwV 1 hts (gw_V k_875 k_877 k_45 k_67 k_878) rfl rfl rfl (by decide +kernel) ⟨Nat.le_of_ble_eq_true rfl, Nat.le_of_ble_eq_true rfl⟩) (eB.preV hE hI hS hz rfl (mw_o hQ)) rfl rfl hl.1 rfl (lv_room (Nat.le_of_ble_eq_true rfl)) d_Mo_remove_6 ⟨Nat.le_of_ble_eq_true rfl, Nat.le_of_ble_eq_true rfl⟩) hS (fun rb w_3 H locs ew_3 hI hsz hS => ?_)
  obtain ⟨erb, ew_3⟩ := ew_3
  subst ew_3
  subst erb
  refine mv_zeq (tgt := 14) hx hb (!b) rfl d_Mo_remove_9 (by decide) (fun cb => ?_) (fun cb => ?_)
  · have hbt : b = true := by cases b with | true => rfl | false => cases cb
    obtain ⟨⟨k, hk, ek, ht⟩, hn0⟩ := h1.mp hbt
    have hk0 : k ≠ 0 := fun e => hn0 (by rw [ek, e]; rfl)
    obtain ⟨gp, hgp, hpa, hgpt, -, -, hkc⟩ := htr.2.2.2.2.1 k hk ht hk0
    have hL := hO.le
    have hL1 : 1 ≤ L.length := (List.getElem?_eq_some_iff.mp hO.2.2.1).1
    rw [ek] at hl
    have ebt : bI (!b) = 0 := by rw [hbt]; rfl
    rw [ebt] at hI
    refine lv_iconst (v := 0) hx hb d_Mo_remove_14 (by decide) ?_
    refine lv_istore_n (lv' := [(2, .int 0), (0, .ref (Q 25)), (1, .int (nI k))]) hx hb d_Mo_remove_15 rfl hl (by decide) rfl (fun ls hl => ?_)
    refine lv_aload_n hx hb d_Mo_remove_16 rfl (lv_at hl 1 rfl) ?_
    refine hp_get (ci := 5) (v := .int X.2.2.1) (C := R_Mo) (T := F_Mo) (N := 28) hx hb hg i_Mo hown hK hI (mw_o hQ) rfl 25 (by decide) (hg _ k_798) (fun _ h9 => h9) rfl d_Mo_remove_17 ?_
    refine mv_i (y := nI L.length) (hO.nn) ?_
    refine lv_iconst (v := 1) hx hb d_Mo_remove_20 (by decide) ?_
    refine mv_isub hx hb (L.length) 1 rfl rfl (by omega) d_Mo_remove_21 ?_
    refine mv_i (y := dnI L.length) (dnI_of hL1) ?_
    refine lv_istore_n (lv' := [(3, .int (dnI L.length)), (2, .int 0), (0, .ref (Q 25)), (1, .int (nI k))]) hx hb d_Mo_remove_22 rfl hl (by decide) rfl (fun ls hl => ?_)
    have hI : eI G S0 (mW G Q (xsI (xsT X 0) 0 (X.1 0)) w0) H := by rw [show xsI (xsT X 0) 0 (X.1 0) = xsT X 0 from xi_same (X := xsT X 0)]; exact hI
    have egn : ((L.take L.length).map (inW d k)).sum + 0 = gnN d k 14 := by rw [List.take_length, hO.sum, sP_gnN]; rfl
    refine W.lpw (fun j (q : (Nat → Int32) × Nat × Nat) => match q with | (f, i, g) => i ≤ L.length ∧ j = i ∧ ((L.take i).map (inW d k)).sum + g = gnN d k 14 ∧ (∀ a c, i ≤ a → L[a]? = some c → inn d c k → f c = 0) ∧ (∀ c, (c ∉ L ∨ ¬ inn d c k) → f c = X.1 0 c)) (fun (q : (Nat → Int32) × Nat × Nat) => match q with | (f, i, g) => mW G Q (xsI (xsT X 0) 0 f) w0) (fun (q : (Nat → Int32) × Nat × Nat) => match q with | (f, i, g) => [(3, .int (dnI i)), (2, .int (nI g)), (0, .ref (Q 25)), (1, .int (nI k))]) (fun (q : (Nat → Int32) × Nat × Nat) => match q with | (f, i, g) => 0) (fun (q : (Nat → Int32) × Nat × Nat) => match q with | (f, i, g) => 0) 5 23 (fun (q : (Nat → Int32) × Nat × Nat) => match q with | (f, i, g) => []) (L.length) ((X.1 0, L.length, 0)) (⟨Nat.le_refl _, rfl, egn, fun a c h1 h2 => absurd (List.getElem?_eq_some_iff.mp h2).1 (by omega), fun c _ => rfl⟩) (lv_sub hl [0, 1, 2, 3] rfl) hI hS ?_
    rintro j ⟨f, i, g⟩ ls H locs hP hl hI hS O
    try dsimp only at hP hl hI ⊢
    obtain ⟨hi, ej, hsum, hfa, hfb⟩ := hP
    cases i with
    | zero =>
      have hl : lv_has ls 5 [(3, .int (-1)), (2, .int (nI g)), (0, .ref (Q 25)), (1, .int (nI k))] := hl
      refine lv_iload_n hx hb d_Mo_remove_23 rfl (lv_at hl 0 rfl) ?_
      refine lv_if_lt (tgt := 65) hx hb d_Mo_remove_24 (by decide) (fun c9 => ?_) (fun c9 => absurd (by decide) c9)
      have hf : ∀ c, c < 14 → f c = bI (sTh (dRem d k gp) c) := by
        intro c hc
        by_cases hct : sTh (dRem d k gp) c = true
        · rw [hct, hfb c (Or.inr (dRem_t.mp hct).2), hM.1 c hc, (dRem_t.mp hct).1]
        · have e1 : sTh (dRem d k gp) c = false := by cases h : sTh (dRem d k gp) c with | true => exact absurd h hct | false => rfl
          rw [e1]
          by_cases hcd : sTh d c = true
          · have hci : inn d c k := Classical.byContradiction (fun h => hct (dRem_t.mpr ⟨hcd, h⟩))
            obtain ⟨a, ha, ea⟩ := List.getElem_of_mem ((hO.2.1 c).mpr ⟨hc, hcd⟩)
            exact hfa a c (Nat.zero_le _) (by rw [List.getElem?_eq_getElem ha, ea]) hci
          · rw [hfb c (Or.inl (fun h => hcd ((hO.2.1 c).mp h).2)), hM.1 c hc]
            cases h : sTh d c with
            | true => exact absurd h hcd
            | false => rfl
      have htr' := htr.rem hk ht hk0 hgp hgpt hpa hkc
      have hM' := (hM.T (v := 0)).rem htr hk ht hk0 hgp hgpt hpa hkc hf
      refine lv_aload_n hx hb d_Mo_remove_65 rfl (lv_at hl 2 rfl) ?_
      refine lv_iload_n hx hb d_Mo_remove_66 rfl (lv_at hl 3 rfl) ?_
      refine ec_v (va_runV (As := [.int (nI k)]) (rest := []) ⟨hx, hb, hml, hown, hts⟩ (m_Mo_leave l G S0 Q hQ (xsI (xsT X 0) 0 f) w0 d dp htr hM.2 k gp hk ht hgp hgpt hpa hkc) (cwV 1 hts (gw_V k_944 k_946 k_50 k_67 k_947) rfl rfl rfl (by decide +kernel) ⟨Nat.le_of_ble_eq_true rfl, Nat.le_of_ble_eq_true rfl⟩) (eB.preV hE hI hS hz rfl (mw_o hQ)) rfl rfl hl.1 rfl (lv_room (Nat.le_of_ble_eq_true rfl)) d_Mo_remove_67 ⟨Nat.le_of_ble_eq_true rfl, Nat.le_of_ble_eq_true rfl⟩) hS (fun w_4 H locs ew_4 hI hsz hS => ?_)
      subst ew_4
      refine lv_aload_n hx hb d_Mo_remove_70 rfl (lv_at hl 2 rfl) ?_
      refine ec_v (va_runV (As := []) (rest := []) ⟨hx, hb, hml, hown, hts⟩ (m_Mo_sortNodes l G S0 Q hQ (xLv d (xsI (xsT X 0) 0 f) k gp) w0 (dRem d k gp) dp htr' hM') (cwV 0 hts (gw_V k_769 k_771 k_42 k_67 k_772) rfl rfl rfl (by decide +kernel) ⟨Nat.le_of_ble_eq_true rfl, Nat.le_of_ble_eq_true rfl⟩) (eB.preV hE hI hS hz rfl (mw_o hQ)) rfl rfl hl.1 rfl (lv_room (Nat.le_of_ble_eq_true rfl)) d_Mo_remove_71 ⟨Nat.le_of_ble_eq_true rfl, Nat.le_of_ble_eq_true rfl⟩) hS (fun w_5 H locs ew_5 hI hsz hS => ?_)
      obtain ⟨Y, ew_5, ⟨hY, hs⟩⟩ := ew_5
      subst ew_5
      have hs3 := hs.2.2
      have hsum : 0 + g = gnN d k 14 := hsum
      refine lv_iload_n hx hb d_Mo_remove_74 rfl (lv_at hl 1 rfl) ?_
      exact W.iret (v := (nI g)) hx hb hr (fun t9 ht9 hW9 => ⟨⟨(nI g), (mW G Q Y w0), rfl, Or.inr ⟨k, gp, ⟨hk, ek, ht, hk0, hgp, hgpt, hpa, hkc⟩, by rw [← hsum, Nat.zero_add], Y, rfl, ⟨hM'.sm hs, hY, mC.sm (X := xLv d (xsI (xsT X 0) 0 f) k gp) hC hs⟩, by rw [hs3]; rfl⟩, eWo ht9 hI⟩, hS.F ht9⟩) hS.2.2 d_Mo_remove_75
    | succ i =>
      have hl : lv_has ls 5 [(3, .int (nI i)), (2, .int (nI g)), (0, .ref (Q 25)), (1, .int (nI k))] := hl
      obtain ⟨c0, ec0⟩ : ∃ c0, L[i] = c0 := ⟨_, rfl⟩
      obtain ⟨hc1, hc2⟩ := hO.th hi
      rw [ec0] at hc1 hc2
      rw [sum_take hi, ec0] at hsum
      have hLi : L[i]? = some c0 := by rw [List.getElem?_eq_getElem hi, ec0]
      refine lv_iload_n hx hb d_Mo_remove_23 rfl (lv_at hl 0 rfl) ?_
      refine lv_if_lt (tgt := 65) hx hb d_Mo_remove_24 (by decide) (fun c9 => absurd c9 (nI_nlt0 (by omega))) (fun c9 => ?_)
      refine lv_aload_n hx hb d_Mo_remove_27 rfl (lv_at hl 2 rfl) ?_
      refine hp_get (ci := 5) (v := .ref (Q 11)) (C := R_Mo) (T := F_Mo) (N := 28) hx hb hg i_Mo hown hK hI (mw_o hQ) rfl 11 (by decide) (hg _ k_784) (fun _ h9 => h9) rfl d_Mo_remove_28 ?_
      refine lv_iload_n hx hb d_Mo_remove_31 rfl (lv_at hl 0 rfl) ?_
      refine mv_iald hx hb hK hI 0 ((xsI (xsT X 0) 0 f).1 11) (mw_11 hQ) rfl i (rfl) (by omega) (by decide) d_Mo_remove_32 ?_
      refine mv_i (y := nI c0) ((hO.od hi).trans (by rw [ec0])) ?_
      refine lv_istore (lv' := [(4, .int (nI c0)), (3, .int (nI i)), (2, .int (nI g)), (0, .ref (Q 25)), (1, .int (nI k))]) hx hb d_Mo_remove_33 hl (by decide) rfl (fun ls hl => ?_)
      refine lv_aload_n hx hb d_Mo_remove_35 rfl (lv_at hl 3 rfl) ?_
      refine lv_iload hx hb d_Mo_remove_36 (lv_at hl 0 rfl) ?_
      refine lv_iload_n hx hb d_Mo_remove_38 rfl (lv_at hl 4 rfl) ?_
      refine ec_i (va_runV (As := [.int (nI c0), .int (nI k)]) (rest := []) ⟨hx, hb, hml, hown, hts⟩ (m_Mo_within l G S0 Q hQ (xsI (xsT X 0) 0 f) w0 d dp htr (fun k h1 h2 => hM.pa h1 h2) c0 k hc1 hc2 hk) (cwV 2 hts (gw_V k_936 k_938 k_48 k_67 k_939) rfl rfl rfl (by decide +kernel) ⟨Nat.le_of_ble_eq_true rfl, Nat.le_of_ble_eq_true rfl⟩) (eB.preV hE hI hS hz rfl (mw_o hQ)) rfl rfl hl.1 rfl (lv_room (Nat.le_of_ble_eq_true rfl)) d_Mo_remove_39 ⟨Nat.le_of_ble_eq_true rfl, Nat.le_of_ble_eq_true rfl⟩) hS (fun r_7 w_6 H locs ew_6 hI hsz hS => ?_)
      obtain ⟨ew_6, hw⟩ := ew_6
      have ew_6 := ew_6.symm
      subst ew_6
      obtain ⟨b2, eb2, hw⟩ := hw
      subst eb2
      refine mv_zne (tgt := 48) hx hb b2 rfl d_Mo_remove_42 (by decide) (fun c1 => ?_) (fun c1 => ?_)
      · have hci := hw.mp c1
        rw [inW_y hci] at hsum
        refine lv_iinc (v := nI (g + 1)) (lv' := [(2, .int (nI (g + 1))), (4, .int (nI c0)), (3, .int (nI i)), (0, .ref (Q 25)), (1, .int (nI k))]) hx hb d_Mo_remove_48 hl (k := 2) rfl (nI_inc g) (by decide) rfl (fun ls hl => ?_)
        refine lv_aload_n hx hb d_Mo_remove_51 rfl (lv_at hl 3 rfl) ?_
        refine hp_get (ci := 5) (v := .ref (Q 0)) (C := R_Mo) (T := F_Mo) (N := 28) hx hb hg i_Mo hown hK hI (mw_o hQ) rfl 0 (by decide) (hg _ k_773) (fun _ h9 => h9) rfl d_Mo_remove_52 ?_
        refine lv_iload hx hb d_Mo_remove_55 (lv_at hl 1 rfl) ?_
        refine lv_iconst (v := 0) hx hb d_Mo_remove_57 (by decide) ?_
        refine mv_zast hx hb hK hI hS 2 ((xsI (xsT X 0) 0 f).1 0) (mw_0 hQ) rfl c0 (Or.inl rfl) (fun f9 => mW G Q (xsI (xsI (xsT X 0) 0 f) 0 f9) w0) (fun _ => mws_0 hQ) (rfl) (by omega) (by decide) d_Mo_remove_58 (fun H locs f_1 ef_1 hI hS hsz => ?_)
        try dsimp only at hI
        refine lv_iinc (v := dnI i) (lv' := [(3, .int (dnI i)), (2, .int (nI (g + 1))), (4, .int (nI c0)), (0, .ref (Q 25)), (1, .int (nI k))]) hx hb d_Mo_remove_59 hl (k := 2) rfl (dnI_dec i) (by decide) rfl (fun ls hl => ?_)
        refine lv_goto (tgt := 23) hx hb d_Mo_remove_62 (by decide) ?_
        rw [show xsI (xsI (xsT X 0) 0 f) 0 f_1 = xsI (xsT X 0) 0 f_1 from xi_xi] at hI
        exact O (i) ((f_1, i, g + 1)) _ _ _ (by omega) (⟨by show i ≤ L.length; omega, rfl, by show _ + (g + 1) = _; omega, fun a c h8 h9 h10 => by rw [ef_1]; show (if c = c0 then (0 : Int32) else f c) = 0; by_cases e : c = c0; exact if_pos e; rw [if_neg e]; exact hfa a c (by rcases Nat.lt_or_ge i a with q | q; exact q; exact absurd (by rw [show a = i by omega, hLi] at h9; exact (Option.some.inj h9).symm) e) h9 h10, fun c h8 => by rw [ef_1]; show (if c = c0 then (0 : Int32) else f c) = X.1 0 c; rw [if_neg (fun e => by rcases h8 with q | q; exact q (by rw [e]; exact (hO.2.1 c0).mpr ⟨hc1, hc2⟩); exact q (by rw [e]; exact hci))]; exact hfb c h8⟩) (lv_sub hl [0, 1, 3, 4] rfl) hI hS
      · have hci : ¬ inn d c0 k := fun h => absurd (hw.mpr h) (by rw [c1]; decide)
        rw [inW_n hci] at hsum
        refine lv_goto (tgt := 59) hx hb d_Mo_remove_45 (by decide) ?_
        refine lv_iinc (v := dnI i) (lv' := [(3, .int (dnI i)), (4, .int (nI c0)), (2, .int (nI g)), (0, .ref (Q 25)), (1, .int (nI k))]) hx hb d_Mo_remove_59 hl (k := 1) rfl (dnI_dec i) (by decide) rfl (fun ls hl => ?_)
        refine lv_goto (tgt := 23) hx hb d_Mo_remove_62 (by decide) ?_
        exact O (i) ((f, i, g)) _ _ _ (by omega) (⟨by show i ≤ L.length; omega, rfl, hsum, fun a c h8 h9 h10 => hfa a c (by rcases Nat.lt_or_ge i a with q | q; exact q; exact absurd (by rw [show a = i by omega, hLi] at h9; rw [Option.some.inj h9]; exact h10) hci) h9 h10, hfb⟩) (lv_sub hl [0, 2, 3, 4] rfl) hI hS
  · have hbt : b = false := by cases b with | true => cases cb | false => rfl
    refine lv_iconst (v := 0) hx hb d_Mo_remove_12 (by decide) ?_
    exact W.iret (v := 0) hx hb hr (fun t9 ht9 hW9 => ⟨⟨0, (mW G Q (xsT X (bI (!b))) w0), rfl, Or.inl ⟨fun h => (by rw [h1.mpr h] at hbt; cases hbt), by rw [hbt]; rfl⟩, eWo ht9 hI⟩, hS.F ht9⟩) hS.2.2 d_Mo_remove_13

/-! the model: out of a group, into a group -/
def shL (F : Nat → Int32) (a b : Nat) : Nat → Int32 := fun x => if a ≤ x ∧ x < b then F (x + 1) else F x
theorem shL_0 (F : Nat → Int32) (a : Nat) : shL F a a = F := by
  funext x
  exact if_neg (by omega)
theorem shL_s (F : Nat → Int32) (a b : Nat) (h : a ≤ b) : upd (shL F a b) b (shL F a b (b + 1)) = shL F a (b + 1) := by
  funext x
  unfold upd shL
  by_cases e : x = b
  · rw [if_pos e, if_neg (by omega), if_pos (by omega), e]
  · rw [if_neg e]
    by_cases q : a ≤ x ∧ x < b
    · rw [if_pos q, if_pos (by omega)]
    · rw [if_neg q, if_neg (by omega)]
theorem xi_same {X : XS} {j : Nat} : xsI X j (X.1 j) = X := by
  obtain ⟨a, b⟩ := X
  show (fset a j (a j), b) = (a, b)
  congr 1
  funext i
  by_cases h : i = j
  · rw [h, fset_eq]
  · rw [fset_ne h]
theorem xi_xi {X : XS} {j : Nat} {f g : Nat → Int32} : xsI (xsI X j f) j g = xsI X j g := by
  obtain ⟨a, b⟩ := X
  show (fset (fset a j f) j g, b) = (fset a j g, b)
  congr 1
  funext i
  by_cases h : i = j
  · rw [h, fset_eq, fset_eq]
  · rw [fset_ne h, fset_ne h, fset_ne h]
theorem xd_xd {X : XS} {j : Nat} {f g : Nat → UInt64} : xsD (xsD X j f) j g = xsD X j g := by
  obtain ⟨a, b, c⟩ := X
  show (a, fset (fset b j f) j g, c) = (a, fset b j g, c)
  congr 2
  funext i
  by_cases h : i = j
  · rw [h, fset_eq, fset_eq]
  · rw [fset_ne h, fset_ne h, fset_ne h]
/-- the model when a node has left its group -/
def xLv (d : DS) (X : XS) (k g : Nat) : XS := xsI (xsI X 8 (shL (X.1 8) (g * 14 + (sCh d g).idxOf k) (g * 14 + ((sCh d g).length - 1)))) 7 (upd (X.1 7) g (nI ((sCh d g).length - 1)))
set_option maxHeartbeats 4000000 in
set_option maxRecDepth 100000 in
theorem m_Mo_leave (l : Launch) (G : EG) (S0 : Nat) (Q : Nat → Nat) (hQ : qInj Q) (X : XS) (w0 : hp_M) (d : DS) (dp : Nat → Nat) (htr : tOk d dp) (hM : mV X d) (k g : Nat) (hk : k < 14) (hkt : sTh d k = true) (hg1 : g < 14) (hgt : sTh d g = true) (hpa : sPa d k = some g) (hkg : k ∈ sCh d g) : Met l y_Mo_leave w_Mo_leave (rl 1 0 0) (eP G S0 (mW G Q X w0) [.ref (Q 25), .int (nI k)]) (va_Qv (fun z => z = mW G Q (xLv d X k g) w0) (eW G S0) (hp_A S0)) 0 0 (hp_A S0) := by
  unfold xLv
  refine Met.ofW (cc := b_Mo_leave) (maxL := 4) (ret := none) (by decide) rfl ?_
  intro p e s m args below meth c s₁ B hml hv
  obtain ⟨rfl, hE, hI, hz⟩ := hv
  have hx := B.exec
  have hb := B.bytes
  have hr := B.returns
  have hts := atoms_spec (ws := w_Mo_leave) B.pre
  have hg : ∀ w ∈ gw, w.before _ s = true := fun w h => hts w (List.mem_cons_of_mem _ h)
  have hown : s.vm.findClass "SceneEaselModel" = some m.cls := findClass_of_methodNamed B.named
  have hlocks := B.notSynchronized
  have hK := hE.K
  have hS : va_S (hp_A S0) s.heap s.heap [] := va_S.rf
  have hl := lv_entry ([.ref (Q 25), .int (nI k)]) (n := 4) (Nat.le_of_ble_eq_true rfl)
  rw [lg_entry_eq]
  generalize (lg_sl ([.ref (Q 25), .int (nI k)]) ++ List.replicate (4 - (lg_sl ([.ref (Q 25), .int (nI k)])).length) Slot.unset).toArray = ls at hl ⊢
  have hl : lv_has ls 4 [(0, .ref (Q 25)), (1, .int (nI k))] := hl
  have hlen := htr.len hg1 hgt
  have hix : (sCh d g).idxOf k < (sCh d g).length := List.idxOf_lt_length_of_mem hkg
  refine lv_aload_n hx hb d_Mo_leave_0 rfl (lv_at hl 0 rfl) ?_
  refine hp_get (ci := 5) (v := .ref (Q 6)) (C := R_Mo) (T := F_Mo) (N := 28) hx hb hg i_Mo hown hK hI (mw_o hQ) rfl 6 (by decide) (hg _ k_779) (fun _ h9 => h9) rfl d_Mo_leave_1 ?_
  refine lv_iload_n hx hb d_Mo_leave_4 rfl (lv_at hl 1 rfl) ?_
  refine mv_iald hx hb hK hI 0 (X.1 6) (mw_6 hQ) rfl k (rfl) (by omega) (by decide) d_Mo_leave_5 ?_
  refine mv_i (y := nI g) ((hM.pa hk hkt).trans (by rw [hpa]; rfl)) ?_
  refine lv_istore_n (lv' := [(2, .int (nI g)), (0, .ref (Q 25)), (1, .int (nI k))]) hx hb d_Mo_leave_6 rfl hl (by decide) rfl (fun ls hl => ?_)
  refine lv_aload_n hx hb d_Mo_leave_7 rfl (lv_at hl 1 rfl) ?_
  refine lv_iload_n hx hb d_Mo_leave_8 rfl (lv_at hl 2 rfl) ?_
  refine ec_i (va_runV (As := [.int (nI k)]) (rest := []) ⟨hx, hb, hml, hown, hts⟩ (m_Mo_placeOf l G S0 Q hQ X w0 d dp htr hM k hk hkt) (cwV 1 hts (gw_V k_948 k_950 k_51 k_67 k_951) rfl rfl rfl (by decide +kernel) ⟨Nat.le_of_ble_eq_true rfl, Nat.le_of_ble_eq_true rfl⟩) (eB.preV hE hI hS hz rfl (mw_o hQ)) rfl rfl hl.1 rfl (lv_room (Nat.le_of_ble_eq_true rfl)) d_Mo_leave_9 ⟨Nat.le_of_ble_eq_true rfl, Nat.le_of_ble_eq_true rfl⟩) hS (fun pl w_1 H locs ew_1 hI hsz hS => ?_)
  obtain ⟨epl, ew_1⟩ := ew_1
  have ew_1 := ew_1.symm
  subst ew_1
  rw [show rkF d k = (sCh d g).idxOf k by unfold rkF; rw [hpa]] at epl
  subst epl
  refine lv_istore_n (lv' := [(3, .int (nI ((sCh d g).idxOf k))), (2, .int (nI g)), (0, .ref (Q 25)), (1, .int (nI k))]) hx hb d_Mo_leave_12 rfl hl (by decide) rfl (fun ls hl => ?_)
  have hI : eI G S0 (mW G Q (xsI X 8 (shL (X.1 8) (g * 14 + (sCh d g).idxOf k) (g * 14 + (sCh d g).idxOf k))) w0) H := by rw [shL_0, xi_same]; exact hI
  refine W.lpw (fun j (i : Nat) => (sCh d g).idxOf k ≤ i ∧ i ≤ (sCh d g).length - 1 ∧ j = (sCh d g).length - i) (fun (i : Nat) => mW G Q (xsI X 8 (shL (X.1 8) (g * 14 + (sCh d g).idxOf k) (g * 14 + i))) w0) (fun (i : Nat) => [(3, .int (nI i)), (2, .int (nI g)), (0, .ref (Q 25)), (1, .int (nI k))]) (fun (i : Nat) => 0) (fun (i : Nat) => 0) 4 13 (fun (i : Nat) => []) ((sCh d g).length - (sCh d g).idxOf k) ((sCh d g).idxOf k) (⟨Nat.le_refl _, by omega, rfl⟩) (lv_sub hl [0, 1, 2, 3] rfl) hI hS ?_
  rintro j i ls H locs hP hl hI hS O
  try dsimp only at hP hl hI ⊢
  obtain ⟨h1, h2, ej⟩ := hP
  refine lv_iload_n hx hb d_Mo_leave_13 rfl (lv_at hl 0 rfl) ?_
  refine lv_iconst (v := 1) hx hb d_Mo_leave_14 (by decide) ?_
  refine mv_iadd hx hb i 1 rfl rfl d_Mo_leave_15 ?_
  refine lv_aload_n hx hb d_Mo_leave_16 rfl (lv_at hl 2 rfl) ?_
  refine hp_get (ci := 5) (v := .ref (Q 7)) (C := R_Mo) (T := F_Mo) (N := 28) hx hb hg i_Mo hown hK hI (mw_o hQ) rfl 7 (by decide) (hg _ k_780) (fun _ h9 => h9) rfl d_Mo_leave_17 ?_
  refine lv_iload_n hx hb d_Mo_leave_20 rfl (lv_at hl 1 rfl) ?_
  refine mv_iald hx hb hK hI 0 (X.1 7) (mw_7 hQ) rfl g (rfl) (by omega) (by decide) d_Mo_leave_21 ?_
  refine mv_i (y := nI (sCh d g).length) (hM.ct hg1 hgt) ?_
  refine mv_cge (tgt := 55) hx hb (i + 1) (sCh d g).length rfl rfl (by omega) (by omega) d_Mo_leave_22 (by decide) (fun c1 => ?_) (fun c1 => ?_)
  · have hi : i = (sCh d g).length - 1 := by omega
    refine lv_aload_n hx hb d_Mo_leave_55 rfl (lv_at hl 2 rfl) ?_
    refine hp_get (ci := 5) (v := .ref (Q 7)) (C := R_Mo) (T := F_Mo) (N := 28) hx hb hg i_Mo hown hK hI (mw_o hQ) rfl 7 (by decide) (hg _ k_780) (fun _ h9 => h9) rfl d_Mo_leave_56 ?_
    refine lv_iload_n hx hb d_Mo_leave_59 rfl (lv_at hl 1 rfl) ?_
    refine lv_dup2_11 hx hb d_Mo_leave_60 rfl rfl ?_
    refine mv_iald hx hb hK hI 0 (X.1 7) (mw_7 hQ) rfl g (rfl) (by omega) (by decide) d_Mo_leave_61 ?_
    refine mv_i (y := nI (sCh d g).length) (hM.ct hg1 hgt) ?_
    refine lv_iconst (v := 1) hx hb d_Mo_leave_62 (by decide) ?_
    refine mv_isub hx hb (sCh d g).length 1 rfl rfl (by omega) d_Mo_leave_63 ?_
    refine mv_iast hx hb hK hI hS 0 (X.1 7) (mw_7 hQ) rfl g (fun f9 => mW G Q (xsI (xsI X 8 (shL (X.1 8) (g * 14 + (sCh d g).idxOf k) (g * 14 + i))) 7 f9) w0) (fun _ => mws_7 hQ) (rfl) (by omega) (by decide) d_Mo_leave_64 (fun H locs f_1 ef_1 hI hS hsz => ?_)
    try dsimp only at hI
    exact W.vret hx hb hr (fun t9 ht9 hW9 => ⟨⟨(mW G Q (xsI (xsI X 8 (shL (X.1 8) (g * 14 + (sCh d g).idxOf k) (g * 14 + i))) 7 f_1) w0), rfl, by rw [ef_1, hi], eWo ht9 hI⟩, hS.F ht9⟩) hS.2.2 d_Mo_leave_65
  · refine lv_aload_n hx hb d_Mo_leave_25 rfl (lv_at hl 2 rfl) ?_
    refine hp_get (ci := 5) (v := .ref (Q 8)) (C := R_Mo) (T := F_Mo) (N := 28) hx hb hg i_Mo hown hK hI (mw_o hQ) rfl 8 (by decide) (hg _ k_781) (fun _ h9 => h9) rfl d_Mo_leave_26 ?_
    refine lv_iload_n hx hb d_Mo_leave_29 rfl (lv_at hl 1 rfl) ?_
    refine lv_bipush (v := 14) hx hb d_Mo_leave_30 (by decide) ?_
    refine mv_imul hx hb g 14 rfl rfl d_Mo_leave_32 ?_
    refine lv_iload_n hx hb d_Mo_leave_33 rfl (lv_at hl 0 rfl) ?_
    refine mv_iadd hx hb (g * 14) i rfl rfl d_Mo_leave_34 ?_
    refine lv_aload_n hx hb d_Mo_leave_35 rfl (lv_at hl 2 rfl) ?_
    refine hp_get (ci := 5) (v := .ref (Q 8)) (C := R_Mo) (T := F_Mo) (N := 28) hx hb hg i_Mo hown hK hI (mw_o hQ) rfl 8 (by decide) (hg _ k_781) (fun _ h9 => h9) rfl d_Mo_leave_36 ?_
    refine lv_iload_n hx hb d_Mo_leave_39 rfl (lv_at hl 1 rfl) ?_
    refine lv_bipush (v := 14) hx hb d_Mo_leave_40 (by decide) ?_
    refine mv_imul hx hb g 14 rfl rfl d_Mo_leave_42 ?_
    refine lv_iload_n hx hb d_Mo_leave_43 rfl (lv_at hl 0 rfl) ?_
    refine mv_iadd hx hb (g * 14) i rfl rfl d_Mo_leave_44 ?_
    refine lv_iconst (v := 1) hx hb d_Mo_leave_45 (by decide) ?_
    refine mv_iadd hx hb (g * 14 + i) 1 rfl rfl d_Mo_leave_46 ?_
    refine mv_iald hx hb hK hI 0 (shL (X.1 8) (g * 14 + (sCh d g).idxOf k) (g * 14 + i)) (mw_8 hQ) rfl (g * 14 + i + 1) (rfl) (by omega) (by decide) d_Mo_leave_47 ?_
    refine mv_iast hx hb hK hI hS 0 (shL (X.1 8) (g * 14 + (sCh d g).idxOf k) (g * 14 + i)) (mw_8 hQ) rfl (g * 14 + i) (fun f9 => mW G Q (xsI (xsI X 8 (shL (X.1 8) (g * 14 + (sCh d g).idxOf k) (g * 14 + i))) 8 f9) w0) (fun _ => mws_8 hQ) (rfl) (by omega) (by decide) d_Mo_leave_48 (fun H locs f_2 ef_2 hI hS hsz => ?_)
    try dsimp only at hI
    refine lv_iinc (v := nI (i + 1)) (lv' := [(3, .int (nI (i + 1))), (2, .int (nI g)), (0, .ref (Q 25)), (1, .int (nI k))]) hx hb d_Mo_leave_49 hl (k := 0) rfl (nI_inc i) (by decide) rfl (fun ls hl => ?_)
    refine lv_goto (tgt := 13) hx hb d_Mo_leave_52 (by decide) ?_
    rw [xi_xi, ef_2, shL_s (X.1 8) _ _ (by omega)] at hI
    exact O ((sCh d g).length - (i + 1)) (i + 1) _ _ _ (by omega) (⟨by omega, by omega, rfl⟩) (lv_sub hl [0, 1, 2, 3] rfl) hI hS
/-- the model when a node has come into a group -/
def xEn (X : XS) (k g c : Nat) : XS := xsI (xsI (xsI X 6 (upd (X.1 6) k (nI g))) 8 (upd (X.1 8) (g * 14 + c) (nI k))) 7 (upd (X.1 7) g (nI (c + 1)))
set_option maxHeartbeats 4000000 in
set_option maxRecDepth 100000 in
theorem m_Mo_enter (l : Launch) (G : EG) (S0 : Nat) (Q : Nat → Nat) (hQ : qInj Q) (X : XS) (w0 : hp_M) (d : DS) (dp : Nat → Nat) (htr : tOk d dp) (k g cn : Nat) (hk : k < 14) (hg1 : g < 14) (hcn : cn < 14) (hc7 : X.1 7 g = nI cn) (hM : mN (xEn X k g cn) d) : Met l y_Mo_enter w_Mo_enter (rl 1 0 0) (eP G S0 (mW G Q X w0) [.ref (Q 25), .int (nI k), .int (nI g)]) (va_Qv (fun z => ∃ Y, z = mW G Q Y w0 ∧ (∃ L, mO Y d dp L) ∧ xSm Y (xEn X k g cn)) (eW G S0) (hp_A S0)) 0 0 (hp_A S0) := by
  unfold xEn at hM ⊢
  refine Met.ofW (cc := b_Mo_enter) (maxL := 3) (ret := none) (by decide) rfl ?_
  intro p e s m args below meth c s₁ B hml hv
  obtain ⟨rfl, hE, hI, hz⟩ := hv
  have hx := B.exec
  have hb := B.bytes
  have hr := B.returns
  have hts := atoms_spec (ws := w_Mo_enter) B.pre
  have hg : ∀ w ∈ gw, w.before _ s = true := fun w h => hts w (List.mem_cons_of_mem _ h)
  have hown : s.vm.findClass "SceneEaselModel" = some m.cls := findClass_of_methodNamed B.named
  have hlocks := B.notSynchronized
  have hK := hE.K
  have hS : va_S (hp_A S0) s.heap s.heap [] := va_S.rf
  have hl := lv_entry ([.ref (Q 25), .int (nI k), .int (nI g)]) (n := 3) (Nat.le_of_ble_eq_true rfl)
  rw [lg_entry_eq]
  generalize (lg_sl ([.ref (Q 25), .int (nI k), .int (nI g)]) ++ List.replicate (3 - (lg_sl ([.ref (Q 25), .int (nI k), .int (nI g)])).length) Slot.unset).toArray = ls at hl ⊢
  have hl : lv_has ls 3 [(0, .ref (Q 25)), (1, .int (nI k)), (2, .int (nI g))] := hl
  refine lv_aload_n hx hb d_Mo_enter_0 rfl (lv_at hl 0 rfl) ?_
  refine hp_get (ci := 5) (v := .ref (Q 6)) (C := R_Mo) (T := F_Mo) (N := 28) hx hb hg i_Mo hown hK hI (mw_o hQ) rfl 6 (by decide) (hg _ k_779) (fun _ h9 => h9) rfl d_Mo_enter_1 ?_
  refine lv_iload_n hx hb d_Mo_enter_4 rfl (lv_at hl 1 rfl) ?_
  refine lv_iload_n hx hb d_Mo_enter_5 rfl (lv_at hl 2 rfl) ?_
  refine mv_iast hx hb hK hI hS 0 (X.1 6) (mw_6 hQ) rfl k (fun f9 => mW G Q (xsI X 6 f9) w0) (fun _ => mws_6 hQ) (rfl) (by omega) (by decide) d_Mo_enter_6 (fun H locs f_1 ef_1 hI hS hsz => ?_)
  try dsimp only at hI
  refine lv_aload_n hx hb d_Mo_enter_7 rfl (lv_at hl 0 rfl) ?_
  refine hp_get (ci := 5) (v := .ref (Q 8)) (C := R_Mo) (T := F_Mo) (N := 28) hx hb hg i_Mo hown hK hI (mw_o hQ) rfl 8 (by decide) (hg _ k_781) (fun _ h9 => h9) rfl d_Mo_enter_8 ?_
  refine lv_iload_n hx hb d_Mo_enter_11 rfl (lv_at hl 2 rfl) ?_
  refine lv_bipush (v := 14) hx hb d_Mo_enter_12 (by decide) ?_
  refine mv_imul hx hb g 14 rfl rfl d_Mo_enter_14 ?_
  refine lv_aload_n hx hb d_Mo_enter_15 rfl (lv_at hl 0 rfl) ?_
  refine hp_get (ci := 5) (v := .ref (Q 7)) (C := R_Mo) (T := F_Mo) (N := 28) hx hb hg i_Mo hown hK hI (mw_o hQ) rfl 7 (by decide) (hg _ k_780) (fun _ h9 => h9) rfl d_Mo_enter_16 ?_
  refine lv_iload_n hx hb d_Mo_enter_19 rfl (lv_at hl 2 rfl) ?_
  refine mv_iald hx hb hK hI 0 (X.1 7) (mw_7 hQ) rfl g (rfl) (by omega) (by decide) d_Mo_enter_20 ?_
  refine mv_i (y := nI cn) (hc7) ?_
  refine mv_iadd hx hb (g * 14) cn rfl rfl d_Mo_enter_21 ?_
  refine lv_iload_n hx hb d_Mo_enter_22 rfl (lv_at hl 1 rfl) ?_
  refine mv_iast hx hb hK hI hS 0 (X.1 8) (mw_8 hQ) rfl (g * 14 + cn) (fun f9 => mW G Q (xsI (xsI X 6 f_1) 8 f9) w0) (fun _ => mws_8 hQ) (rfl) (by omega) (by decide) d_Mo_enter_23 (fun H locs f_2 ef_2 hI hS hsz => ?_)
  try dsimp only at hI
  refine lv_aload_n hx hb d_Mo_enter_24 rfl (lv_at hl 0 rfl) ?_
  refine hp_get (ci := 5) (v := .ref (Q 7)) (C := R_Mo) (T := F_Mo) (N := 28) hx hb hg i_Mo hown hK hI (mw_o hQ) rfl 7 (by decide) (hg _ k_780) (fun _ h9 => h9) rfl d_Mo_enter_25 ?_
  refine lv_iload_n hx hb d_Mo_enter_28 rfl (lv_at hl 2 rfl) ?_
  refine lv_dup2_11 hx hb d_Mo_enter_29 rfl rfl ?_
  refine mv_iald hx hb hK hI 0 (X.1 7) (mw_7 hQ) rfl g (rfl) (by omega) (by decide) d_Mo_enter_30 ?_
  refine mv_i (y := nI cn) (hc7) ?_
  refine lv_iconst (v := 1) hx hb d_Mo_enter_31 (by decide) ?_
  refine mv_iadd hx hb cn 1 rfl rfl d_Mo_enter_32 ?_
  refine mv_iast hx hb hK hI hS 0 (X.1 7) (mw_7 hQ) rfl g (fun f9 => mW G Q (xsI (xsI (xsI X 6 f_1) 8 f_2) 7 f9) w0) (fun _ => mws_7 hQ) (rfl) (by omega) (by decide) d_Mo_enter_33 (fun H locs f_3 ef_3 hI hS hsz => ?_)
  try dsimp only at hI
  refine lv_aload_n hx hb d_Mo_enter_34 rfl (lv_at hl 0 rfl) ?_
  rw [← ef_1, ← ef_2, ← ef_3] at hM ⊢
  refine ec_v (va_runV (As := []) (rest := []) ⟨hx, hb, hml, hown, hts⟩ (m_Mo_sortNodes l G S0 Q hQ (xsI (xsI (xsI X 6 f_1) 8 f_2) 7 f_3) w0 d dp htr hM) (cwV 0 hts (gw_V k_769 k_771 k_42 k_67 k_772) rfl rfl rfl (by decide +kernel) ⟨Nat.le_of_ble_eq_true rfl, Nat.le_of_ble_eq_true rfl⟩) (eB.preV hE hI hS hz rfl (mw_o hQ)) rfl rfl hl.1 rfl (lv_room (Nat.le_of_ble_eq_true rfl)) d_Mo_enter_35 ⟨Nat.le_of_ble_eq_true rfl, Nat.le_of_ble_eq_true rfl⟩) hS (fun w_1 H locs ew_1 hI hsz hS => ?_)
  obtain ⟨Y, ew_1, hY⟩ := ew_1
  subst ew_1
  exact W.vret hx hb hr (fun t9 ht9 hW9 => ⟨⟨(mW G Q Y w0), rfl, ⟨Y, rfl, hY⟩, eWo ht9 hI⟩, hS.F ht9⟩) hS.2.2 d_Mo_enter_38

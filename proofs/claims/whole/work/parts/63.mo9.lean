/-! the model: node -/
theorem nTh_le (d : DS) : ∀ i, nTh d i ≤ i
  | 0 => Nat.le_refl 0
  | i + 1 => by
    have := nTh_le d i
    show nTh d i + (if sTh d i = true then 1 else 0) ≤ i + 1
    split <;> omega
theorem nTh_all {d : DS} : ∀ i, (∀ j, j < i → sTh d j = true) → nTh d i = i
  | 0, _ => rfl
  | i + 1, h => by
    have := nTh_all i (fun j hj => h j (by omega))
    show nTh d i + (if sTh d i = true then 1 else 0) = i + 1
    rw [if_pos (h i (by omega)), this]
theorem nTh_lt {d : DS} {j : Nat} (hj : ¬ sTh d j = true) : ∀ i, j < i → nTh d i < i
  | 0, h => absurd h (Nat.not_lt_zero j)
  | i + 1, h => by
    show nTh d i + (if sTh d i = true then 1 else 0) < i + 1
    by_cases e : j = i
    · subst e
      have := nTh_le d j
      rw [if_neg hj]
      omega
    · have := nTh_lt hj i (by omega)
      split <;> omega
theorem ls_14 {d : DS} : lsF d 14 ↔ nTh d 14 = 14 := by
  constructor
  · intro h
    exact nTh_all 14 h.2.1
  · intro h
    refine ⟨Nat.le_refl _, fun j hj => ?_, fun q => absurd q (Nat.lt_irrefl 14)⟩
    rcases Classical.em (sTh d j = true) with q | q
    · exact q
    · have := nTh_lt q 14 hj
      omega
theorem fs_fs {α : Type} {f : Nat → α} {j : Nat} {a b : α} : fset (fset f j a) j b = fset f j b := by
  funext i
  by_cases h : i = j
  · rw [h, fset_eq, fset_eq]
  · rw [fset_ne h, fset_ne h, fset_ne h]
theorem xn_n {X : XS} {i j : Nat} {a c : Nat → Int32} {b e : Nat → UInt64} : xsD (xsI (xsD (xsI X i a) j b) i c) j e = xsD (xsI X i c) j e := by
  obtain ⟨x, y, z⟩ := X
  show (fset (fset x i a) i c, fset (fset y j b) j e, z) = (fset x i c, fset y j e, z)
  rw [fs_fs, fs_fs]
theorem i2d_z : FP.i2d 0 = FP.dconst0 := by decide +kernel
theorem upd_y {f : Nat → Int32} {k : Nat} {v : Int32} : upd f k v k = v := if_pos rfl
theorem upd_n {f : Nat → Int32} {k j : Nat} {v : Int32} (h : j ≠ k) : upd f k v j = f j := if_neg h
theorem vup_y {f : Nat → UInt64} {k : Nat} {v : UInt64} : vf_upd f k v k = v := if_pos rfl
theorem vup_n {f : Nat → UInt64} {k j : Nat} {v : UInt64} (h : j ≠ k) : vf_upd f k v j = f j := if_neg h
theorem mN.node {X E : XS} {d : DS} {dp : Nat → Nat} (hM : mN X d) (htr : tOk d dp) {n g : Nat} {kd co : Int32} (hn : n < 14) (hnt : ¬ sTh d n = true) (hg : g < 14) (hgt : sTh d g = true)
    (e0 : E.1 0 = upd (X.1 0) n 1) (e1 : E.1 1 = upd (X.1 1) n 0) (e4 : E.1 4 = upd (X.1 4) n kd) (e5 : E.1 5 = upd (X.1 5) n 0) (e6 : E.1 6 = X.1 6) (e7 : E.1 7 = upd (X.1 7) n 0) (e8 : E.1 8 = X.1 8) (e9 : E.1 9 = upd (X.1 9) n 0) (ek : ∀ i, i < 4 → E.1 10 (n * 4 + i) = 0) (ek' : ∀ y, (y < n * 4 ∨ n * 4 + 4 ≤ y) → E.1 10 y = X.1 10 y)
    (e14 : E.2.1 14 = vf_upd (X.2.1 14) n FP.dconst1) (e15 : E.2.1 15 = vf_upd (X.2.1 15) n FP.dconst1) (e16 : E.2.1 16 = vf_upd (X.2.1 16) n FP.dconst1) (eb : ∀ i, i < 4 → E.2.1 17 (n * 4 + i) = if i = 3 then FP.i2d co else FP.dconst0) (eb' : ∀ y, (y < n * 4 ∨ n * 4 + 4 ≤ y) → E.2.1 17 y = X.2.1 17 y) (e18 : E.2.1 18 = X.2.1 18) (e19 : E.2.1 19 = X.2.1 19) : mN (xEn E n g (sCh d g).length) (dNode d n g kd co) := by
  have hgn : g ≠ n := fun e => hnt (e ▸ hgt)
  have hlg := htr.len hg hgt
  refine ⟨fun c hc => ?_, fun c hc hct => ?_⟩
  · show E.1 0 c = _
    rw [e0, dNode_t]
    by_cases q : c = n
    · rw [q, upd_y, if_pos rfl]; rfl
    · rw [upd_n q, if_neg q]; exact hM.1 c hc
  · by_cases q : c = n
    · subst q
      have a1 : sNi (dNode d c g kd co) c = fun r => if r = 0 then kd else if r = 1 then co else 0 := fset_eq _ _ _
      have a2 : sNd (dNode d c g kd co) c = fun r => if r = 2 ∨ r = 3 then FP.dconst0 else FP.dconst1 := fset_eq _ _ _
      have a3 : sTn (dNode d c g kd co) c = fun _ => 0 := fset_eq _ _ _
      have a4 : sCh (dNode d c g kd co) c = [] := by rw [dNode_c, if_neg (Ne.symm hgn), if_pos rfl]
      have a5 : sPa (dNode d c g kd co) c = some g := by rw [dNode_p, if_pos rfl]
      unfold mN1
      rw [a1, a2, a3, a4, a5]
      refine ⟨?_, ?_, ?_, ?_, ?_, ?_, fun i h => absurd h (Nat.not_lt_zero i), fun i hi => ⟨?_, Nat.zero_le _⟩, ?_, fun _ => ⟨?_, ?_, ?_, ?_, ?_, ?_⟩, fun i j _ h => absurd h (Nat.not_lt_zero j)⟩
      · show E.1 1 c = _; rw [e1]; exact upd_y
      · show E.1 4 c = _; rw [e4]; exact upd_y
      · show E.1 5 c = _; rw [e5]; exact upd_y
      · show E.1 9 c = _; rw [e9]; exact upd_y
      · show upd (E.1 6) c (nI g) c = _; exact upd_y
      · show upd (E.1 7) g _ c = _; rw [upd_n (Ne.symm hgn), e7]; exact upd_y
      · exact ek i hi
      · show E.2.1 14 c = _; rw [e14]; exact vup_y
      · show E.2.1 15 c = _; rw [e15]; exact vup_y
      · show E.2.1 16 c = _; rw [e16]; exact vup_y
      · exact eb 0 (by decide)
      · exact eb 1 (by decide)
      · exact (eb 2 (by decide)).trans i2d_z.symm
      · exact eb 3 (by decide)
    · rw [dNode_t, if_neg q] at hct
      have hlc := htr.len hc hct
      have qn : ∀ {α : Type} {f : Nat → α} {v : α}, fset f n v c = f c := fset_ne q
      refine mN1.tr (hM.2 c hc hct) ⟨?_, ?_, ?_, ?_⟩ (fun i hi => ek' _ (by omega)) ⟨?_, ?_, ?_⟩ (fun i hi => eb' _ (by omega)) (fun i j hi hj => ⟨?_, ?_⟩) qn qn qn qn qn ?_ ?_ ?_
      · show E.1 1 c = _; rw [e1]; exact upd_n q
      · show E.1 4 c = _; rw [e4]; exact upd_n q
      · show E.1 5 c = _; rw [e5]; exact upd_n q
      · show E.1 9 c = _; rw [e9]; exact upd_n q
      · show E.2.1 14 c = _; rw [e14]; exact vup_n q
      · show E.2.1 15 c = _; rw [e15]; exact vup_n q
      · show E.2.1 16 c = _; rw [e16]; exact vup_n q
      · show E.2.1 18 _ = _; rw [e18]
      · show E.2.1 19 _ = _; rw [e19]
      · show upd (E.1 6) n (nI g) c = _
        rw [upd_n q, e6, dNode_p, if_neg q]; exact hM.pa hc hct
      · show upd (E.1 7) g (nI ((sCh d g).length + 1)) c = _
        rw [dNode_c]
        by_cases e : c = g
        · rw [if_pos e, e, upd_y, List.length_append]; rfl
        · rw [if_neg e, if_neg q, upd_n e, e7, upd_n q]; exact hM.ct hc hct
      · intro i x
        show _ → upd (E.1 8) (g * 14 + (sCh d g).length) (nI n) (c * 14 + i) = _
        rw [dNode_c, e8]
        by_cases e : c = g
        · subst e
          rw [if_pos rfl]
          intro ex
          rcases Nat.lt_or_ge i (sCh d c).length with r | r
          · rw [List.getElem?_append_left r] at ex
            rw [upd_n (by omega)]
            exact hM.2.ch' hc hct ex
          · rw [List.getElem?_append_right r] at ex
            have hi := (List.getElem?_eq_some_iff.mp ex).1
            have hi : i - (sCh d c).length < 1 := hi
            rw [show i - (sCh d c).length = 0 by omega] at ex
            rw [show i = (sCh d c).length by omega, upd_y, show x = n from (Option.some.inj ex).symm]
        · rw [if_neg e, if_neg q]
          intro ex
          have hi := (List.getElem?_eq_some_iff.mp ex).1
          rw [upd_n (by omega)]
          exact hM.2.ch' hc hct ex
set_option maxHeartbeats 4000000 in
set_option maxRecDepth 100000 in
theorem m_Mo_node (l : Launch) (G : EG) (S0 : Nat) (Q : Nat → Nat) (hQ : qInj Q) (X : XS) (w0 : hp_M) (d : DS) (dp : Nat → Nat) (htr : tOk d dp) (hM : mN X d) (L : List Nat) (hO : mO X d dp L) (hC : mC X d) (gr kd co : Int32) : Met l y_Mo_node w_Mo_node (rl 2 0 0) (eP G S0 (mW G Q X w0) [.ref (Q 25), .int gr, .int kd, .int co]) (va_Qi (fun r z => (¬ okNode d gr kd co ∧ z = mW G Q (xsT X 1) w0) ∨ ∃ g, (g < 14 ∧ gr = nI g ∧ sTh d g = true ∧ sNi d g 0 = 0 ∧ (0 ≤ kd ∧ kd ≤ 3) ∧ (1 ≤ co ∧ co ≤ 15)) ∧ (((lsF d 14 ∨ 5 ≤ dp g) ∧ z = mW G Q (xsT X 2) w0) ∨ ∃ n, lsF d n ∧ n < 14 ∧ dp g < 5 ∧ r = nI n ∧ ∃ Y, z = mW G Q Y w0 ∧ mP Y (dNode d n g kd co) (fset dp n (dp g + 1)) ∧ Y.2.2.2.2 = 0)) (eW G S0) (hp_A S0)) 0 0 (hp_A S0) := by
  refine Met.ofW (cc := b_Mo_node) (maxL := 6) (ret := (some .int)) (by decide) rfl ?_
  intro p e s m args below meth c s₁ B hml hv
  obtain ⟨rfl, hE, hI, hz⟩ := hv
  have hx := B.exec
  have hb := B.bytes
  have hr := B.returns
  have hts := atoms_spec (ws := w_Mo_node) B.pre
  have hg : ∀ w ∈ gw, w.before _ s = true := fun w h => hts w (List.mem_cons_of_mem _ h)
  have hown : s.vm.findClass "SceneEaselModel" = some m.cls := findClass_of_methodNamed B.named
  have hlocks := B.notSynchronized
  have hK := hE.K
  have hS : va_S (hp_A S0) s.heap s.heap [] := va_S.rf
  have hl := lv_entry ([.ref (Q 25), .int gr, .int kd, .int co]) (n := 6) (Nat.le_of_ble_eq_true rfl)
  rw [lg_entry_eq]
  generalize (lg_sl ([.ref (Q 25), .int gr, .int kd, .int co]) ++ List.replicate (6 - (lg_sl ([.ref (Q 25), .int gr, .int kd, .int co])).length) Slot.unset).toArray = ls at hl ⊢
  have hl : lv_has ls 6 [(0, .ref (Q 25)), (1, .int gr), (2, .int kd), (3, .int co)] := hl
  refine lv_aload_n hx hb d_Mo_node_0 rfl (lv_at hl 0 rfl) ?_
  refine lv_aload_n hx hb d_Mo_node_1 rfl (lv_at hl 0 rfl) ?_
  refine lv_iload_n hx hb d_Mo_node_2 rfl (lv_at hl 1 rfl) ?_
  refine W.midw (G := G) (S0 := S0) (fun (b : Bool) => b = true ↔ okNode d gr kd co) (fun (b : Bool) => (mW G Q X w0)) (fun (b : Bool) => [(0, .ref (Q 25)), (1, .int gr), (2, .int kd), (3, .int co)]) (fun (b : Bool) => 0) (fun (b : Bool) => 0) 6 33 (fun (b : Bool) => [.int (bI b), .ref (Q 25)]) ?_ (fun K => ?_)
  · rintro b ls H locs hP hl hI hS
    try dsimp only at hP hl hI ⊢
    refine ec_i (va_runV (As := [.int (bI b)]) (rest := []) ⟨hx, hb, hml, hown, hts⟩ (m_Mo_bad l G S0 Q hQ X w0 b) (cwV 1 hts (gw_V k_875 k_877 k_45 k_67 k_878) rfl rfl rfl (by decide +kernel) ⟨Nat.le_of_ble_eq_true rfl, Nat.le_of_ble_eq_true rfl⟩) (eB.preV hE hI hS hz rfl (mw_o hQ)) rfl rfl hl.1 rfl (lv_room (Nat.le_of_ble_eq_true rfl)) d_Mo_node_33 ⟨Nat.le_of_ble_eq_true rfl, Nat.le_of_ble_eq_true rfl⟩) hS (fun rb w_1 H locs ew_1 hI hsz hS => ?_)
    obtain ⟨erb, ew_1⟩ := ew_1
    subst ew_1
    subst erb
    refine mv_zeq (tgt := 41) hx hb (!b) rfl d_Mo_node_36 (by decide) (fun cb => ?_) (fun cb => ?_)
    · have hbt : b = true := by cases b with | true => rfl | false => cases cb
      obtain ⟨⟨g, hg1, eg, hgt, hg0⟩, hkd, hco⟩ := hP.mp hbt
      have hg5 := htr.2.2.2.2.2.2 g hg1 hgt
      have hL := hO.le
      have hok : g < 14 ∧ gr = nI g ∧ sTh d g = true ∧ sNi d g 0 = 0 ∧ (0 ≤ kd ∧ kd ≤ 3) ∧ (1 ≤ co ∧ co ≤ 15) := ⟨hg1, eg, hgt, hg0, hkd, hco⟩
      rw [eg] at hl
      have ebt : bI (!b) = 0 := by rw [hbt]; rfl
      rw [ebt] at hI
      refine lv_aload_n hx hb d_Mo_node_41 rfl (lv_at hl 0 rfl) ?_
      refine hp_get (ci := 5) (v := .int X.2.2.1) (C := R_Mo) (T := F_Mo) (N := 28) hx hb hg i_Mo hown hK hI (mw_o hQ) rfl 25 (by decide) (hg _ k_798) (fun _ h9 => h9) rfl d_Mo_node_42 ?_
      refine mv_i (y := nI L.length) (hO.nn) ?_
      refine lv_bipush (v := 14) hx hb d_Mo_node_45 (by decide) ?_
      refine mv_ceq (tgt := 60) hx hb (L.length) 14 rfl rfl (by omega) (by omega) d_Mo_node_47 (by decide) (fun c1 => ?_) (fun c1 => ?_)
      · refine lv_aload_n hx hb d_Mo_node_60 rfl (lv_at hl 0 rfl) ?_
        refine lv_iconst (v := 2) hx hb d_Mo_node_61 (by decide) ?_
        refine hp_putC (ci := 5) (v := .int 2) (ty := .int) (C := R_Mo) (T := F_Mo) (N := 28) hx hb hg i_Mo t_Mo t_Mo_ok n_Mo hown hK hI hS (mw_o hQ) rfl 27 (by decide) (hg _ k_800) (fun _ h9 => h9) rfl (by decide +kernel) rfl rfl (Nat.le_of_ble_eq_true rfl) d_Mo_node_62 (fun H locs hI hS hsz => ?_)
        have hI : eI G S0 (mW G Q (xsT (xsT X 0) 2) w0) H := by rw [← mws_T hQ]; exact hI
        refine lv_iconst (v := 0) hx hb d_Mo_node_65 (by decide) ?_
        exact W.iret (v := 0) hx hb hr (fun t9 ht9 hW9 => ⟨⟨0, (mW G Q (xsT (xsT X 0) 2) w0), rfl, Or.inr ⟨g, hok, Or.inl ⟨Or.inl (ls_14.mpr (by rw [← hO.cnt]; exact c1)), rfl⟩⟩, eWo ht9 hI⟩, hS.F ht9⟩) hS.2.2 d_Mo_node_66
      refine lv_aload_n hx hb d_Mo_node_50 rfl (lv_at hl 0 rfl) ?_
      refine hp_get (ci := 5) (v := .ref (Q 13)) (C := R_Mo) (T := F_Mo) (N := 28) hx hb hg i_Mo hown hK hI (mw_o hQ) rfl 13 (by decide) (hg _ k_786) (fun _ h9 => h9) rfl d_Mo_node_51 ?_
      refine lv_iload_n hx hb d_Mo_node_54 rfl (lv_at hl 1 rfl) ?_
      refine mv_iald hx hb hK hI 0 (X.1 13) (mw_13 hQ) rfl g (rfl) (by omega) (by decide) d_Mo_node_55 ?_
      refine mv_i (y := nI (dp g)) (hO.de hg1 hgt) ?_
      refine lv_iconst (v := 5) hx hb d_Mo_node_56 (by decide) ?_
      refine mv_cne (tgt := 67) hx hb (dp g) 5 rfl rfl (by omega) (by omega) d_Mo_node_57 (by decide) (fun c2 => ?_) (fun c2 => ?_)
      rotate_left
      · refine lv_aload_n hx hb d_Mo_node_60 rfl (lv_at hl 0 rfl) ?_
        refine lv_iconst (v := 2) hx hb d_Mo_node_61 (by decide) ?_
        refine hp_putC (ci := 5) (v := .int 2) (ty := .int) (C := R_Mo) (T := F_Mo) (N := 28) hx hb hg i_Mo t_Mo t_Mo_ok n_Mo hown hK hI hS (mw_o hQ) rfl 27 (by decide) (hg _ k_800) (fun _ h9 => h9) rfl (by decide +kernel) rfl rfl (Nat.le_of_ble_eq_true rfl) d_Mo_node_62 (fun H locs hI hS hsz => ?_)
        have hI : eI G S0 (mW G Q (xsT (xsT X 0) 2) w0) H := by rw [← mws_T hQ]; exact hI
        refine lv_iconst (v := 0) hx hb d_Mo_node_65 (by decide) ?_
        exact W.iret (v := 0) hx hb hr (fun t9 ht9 hW9 => ⟨⟨0, (mW G Q (xsT (xsT X 0) 2) w0), rfl, Or.inr ⟨g, hok, Or.inl ⟨Or.inr (by omega), rfl⟩⟩, eWo ht9 hI⟩, hS.F ht9⟩) hS.2.2 d_Mo_node_66
      refine lv_iconst (v := 1) hx hb d_Mo_node_67 (by decide) ?_
      refine lv_istore (lv' := [(4, .int 1), (0, .ref (Q 25)), (1, .int (nI g)), (2, .int kd), (3, .int co)]) hx hb d_Mo_node_68 hl (by decide) rfl (fun ls hl => ?_)
      refine W.lpw (fun j (n : Nat) => 1 ≤ n ∧ n ≤ 14 ∧ j = 14 - n ∧ (∀ i, i < n → sTh d i = true)) (fun (n : Nat) => (mW G Q (xsT X 0) w0)) (fun (n : Nat) => [(4, .int (nI n)), (0, .ref (Q 25)), (1, .int (nI g)), (2, .int kd), (3, .int co)]) (fun (n : Nat) => 0) (fun (n : Nat) => 0) 6 70 (fun (n : Nat) => []) (13) (1) (⟨Nat.le_refl _, by decide, rfl, fun i hi => by obtain rfl : i = 0 := (by omega); exact htr.1⟩) (lv_sub hl [0, 1, 2, 3, 4] rfl) hI hS ?_
      rintro j n ls H locs hP hl hI hS O
      try dsimp only at hP hl hI ⊢
      obtain ⟨hn1, hn14, ej, hall⟩ := hP
      have hn : n < 14 := by
        rcases Nat.lt_or_ge n 14 with q | q
        · exact q
        · exact absurd (nTh_all (d := d) 14 (fun j hj => hall j (by omega))) (by rw [← hO.cnt]; exact c1)
      refine lv_aload_n hx hb d_Mo_node_70 rfl (lv_at hl 1 rfl) ?_
      refine hp_get (ci := 5) (v := .ref (Q 0)) (C := R_Mo) (T := F_Mo) (N := 28) hx hb hg i_Mo hown hK hI (mw_o hQ) rfl 0 (by decide) (hg _ k_773) (fun _ h9 => h9) rfl d_Mo_node_71 ?_
      refine lv_iload hx hb d_Mo_node_74 (lv_at hl 0 rfl) ?_
      refine mv_zald hx hb hK hI 2 (X.1 0) (mw_0 hQ) rfl n (rfl) (by omega) (by decide) d_Mo_node_76 ?_
      refine mv_i (y := bI (sTh d n)) (hM.th hn) ?_
      refine mv_zeq (tgt := 86) hx hb (sTh d n) rfl d_Mo_node_77 (by decide) (fun c3 => ?_) (fun c3 => ?_)
      rotate_left
      · refine lv_iinc (v := nI (n + 1)) (lv' := [(4, .int (nI (n + 1))), (0, .ref (Q 25)), (1, .int (nI g)), (2, .int kd), (3, .int co)]) hx hb d_Mo_node_80 hl (k := 0) rfl (nI_inc n) (by decide) rfl (fun ls hl => ?_)
        refine lv_goto (tgt := 70) hx hb d_Mo_node_83 (by decide) ?_
        exact O (14 - (n + 1)) (n + 1) _ _ _ (by omega) (⟨by omega, by omega, rfl, fun i hi => by rcases Nat.lt_or_ge i n with q | q; exact hall i q; rw [show i = n by omega]; exact c3⟩) (lv_sub hl [0, 1, 2, 3, 4] rfl) hI hS
      have hnt : ¬ sTh d n = true := by rw [c3]; decide
      have hls : lsF d n := ⟨by omega, hall, fun _ => hnt⟩
      refine lv_aload_n hx hb d_Mo_node_86 rfl (lv_at hl 1 rfl) ?_
      refine hp_get (ci := 5) (v := .ref (Q 0)) (C := R_Mo) (T := F_Mo) (N := 28) hx hb hg i_Mo hown hK hI (mw_o hQ) rfl 0 (by decide) (hg _ k_773) (fun _ h9 => h9) rfl d_Mo_node_87 ?_
      refine lv_iload hx hb d_Mo_node_90 (lv_at hl 0 rfl) ?_
      refine lv_iconst (v := 1) hx hb d_Mo_node_92 (by decide) ?_
      refine mv_zast hx hb hK hI hS 2 (X.1 0) (mw_0 hQ) rfl n (Or.inr rfl) (fun f9 => mW G Q (xsI (xsT X 0) 0 f9) w0) (fun _ => mws_0 hQ) (rfl) (by omega) (by decide) d_Mo_node_93 (fun H locs f_1 ef_1 hI hS hsz => ?_)
      try dsimp only at hI
      refine lv_aload_n hx hb d_Mo_node_94 rfl (lv_at hl 1 rfl) ?_
      refine hp_get (ci := 5) (v := .ref (Q 1)) (C := R_Mo) (T := F_Mo) (N := 28) hx hb hg i_Mo hown hK hI (mw_o hQ) rfl 1 (by decide) (hg _ k_774) (fun _ h9 => h9) rfl d_Mo_node_95 ?_
      refine lv_iload hx hb d_Mo_node_98 (lv_at hl 0 rfl) ?_
      refine lv_iconst (v := 0) hx hb d_Mo_node_100 (by decide) ?_
      refine mv_zast hx hb hK hI hS 2 (X.1 1) (mw_1 hQ) rfl n (Or.inl rfl) (fun f9 => mW G Q (xsI (xsI (xsT X 0) 0 f_1) 1 f9) w0) (fun _ => mws_1 hQ) (rfl) (by omega) (by decide) d_Mo_node_101 (fun H locs f_2 ef_2 hI hS hsz => ?_)
      try dsimp only at hI
      refine lv_aload_n hx hb d_Mo_node_102 rfl (lv_at hl 1 rfl) ?_
      refine hp_get (ci := 5) (v := .ref (Q 4)) (C := R_Mo) (T := F_Mo) (N := 28) hx hb hg i_Mo hown hK hI (mw_o hQ) rfl 4 (by decide) (hg _ k_777) (fun _ h9 => h9) rfl d_Mo_node_103 ?_
      refine lv_iload hx hb d_Mo_node_106 (lv_at hl 0 rfl) ?_
      refine lv_iload_n hx hb d_Mo_node_108 rfl (lv_at hl 3 rfl) ?_
      refine mv_iast hx hb hK hI hS 0 (X.1 4) (mw_4 hQ) rfl n (fun f9 => mW G Q (xsI (xsI (xsI (xsT X 0) 0 f_1) 1 f_2) 4 f9) w0) (fun _ => mws_4 hQ) (rfl) (by omega) (by decide) d_Mo_node_109 (fun H locs f_3 ef_3 hI hS hsz => ?_)
      try dsimp only at hI
      refine lv_aload_n hx hb d_Mo_node_110 rfl (lv_at hl 1 rfl) ?_
      refine hp_get (ci := 5) (v := .ref (Q 5)) (C := R_Mo) (T := F_Mo) (N := 28) hx hb hg i_Mo hown hK hI (mw_o hQ) rfl 5 (by decide) (hg _ k_778) (fun _ h9 => h9) rfl d_Mo_node_111 ?_
      refine lv_iload hx hb d_Mo_node_114 (lv_at hl 0 rfl) ?_
      refine lv_iconst (v := 0) hx hb d_Mo_node_116 (by decide) ?_
      refine mv_iast hx hb hK hI hS 0 (X.1 5) (mw_5 hQ) rfl n (fun f9 => mW G Q (xsI (xsI (xsI (xsI (xsT X 0) 0 f_1) 1 f_2) 4 f_3) 5 f9) w0) (fun _ => mws_5 hQ) (rfl) (by omega) (by decide) d_Mo_node_117 (fun H locs f_4 ef_4 hI hS hsz => ?_)
      try dsimp only at hI
      refine lv_aload_n hx hb d_Mo_node_118 rfl (lv_at hl 1 rfl) ?_
      refine hp_get (ci := 5) (v := .ref (Q 14)) (C := R_Mo) (T := F_Mo) (N := 28) hx hb hg i_Mo hown hK hI (mw_o hQ) rfl 14 (by decide) (hg _ k_787) (fun _ h9 => h9) rfl d_Mo_node_119 ?_
      refine lv_iload hx hb d_Mo_node_122 (lv_at hl 0 rfl) ?_
      refine lv_dconst1 hx hb d_Mo_node_124 ?_
      refine mv_dast hx hb hK hI hS 1 (X.2.1 14) (mw_14 hQ) rfl n (fun f9 => mW G Q (xsD (xsI (xsI (xsI (xsI (xsT X 0) 0 f_1) 1 f_2) 4 f_3) 5 f_4) 14 f9) w0) (fun _ => mws_14 hQ) (rfl) (by omega) (by decide) d_Mo_node_125 (fun H locs f_5 ef_5 hI hS hsz => ?_)
      try dsimp only at hI
      refine lv_aload_n hx hb d_Mo_node_126 rfl (lv_at hl 1 rfl) ?_
      refine hp_get (ci := 5) (v := .ref (Q 7)) (C := R_Mo) (T := F_Mo) (N := 28) hx hb hg i_Mo hown hK hI (mw_o hQ) rfl 7 (by decide) (hg _ k_780) (fun _ h9 => h9) rfl d_Mo_node_127 ?_
      refine lv_iload hx hb d_Mo_node_130 (lv_at hl 0 rfl) ?_
      refine lv_iconst (v := 0) hx hb d_Mo_node_132 (by decide) ?_
      refine mv_iast hx hb hK hI hS 0 (X.1 7) (mw_7 hQ) rfl n (fun f9 => mW G Q (xsI (xsD (xsI (xsI (xsI (xsI (xsT X 0) 0 f_1) 1 f_2) 4 f_3) 5 f_4) 14 f_5) 7 f9) w0) (fun _ => mws_7 hQ) (rfl) (by omega) (by decide) d_Mo_node_133 (fun H locs f_6 ef_6 hI hS hsz => ?_)
      try dsimp only at hI
      refine lv_aload_n hx hb d_Mo_node_134 rfl (lv_at hl 1 rfl) ?_
      refine hp_get (ci := 5) (v := .ref (Q 9)) (C := R_Mo) (T := F_Mo) (N := 28) hx hb hg i_Mo hown hK hI (mw_o hQ) rfl 9 (by decide) (hg _ k_782) (fun _ h9 => h9) rfl d_Mo_node_135 ?_
      refine lv_iload hx hb d_Mo_node_138 (lv_at hl 0 rfl) ?_
      refine lv_iconst (v := 0) hx hb d_Mo_node_140 (by decide) ?_
      refine mv_iast hx hb hK hI hS 0 (X.1 9) (mw_9 hQ) rfl n (fun f9 => mW G Q (xsI (xsI (xsD (xsI (xsI (xsI (xsI (xsT X 0) 0 f_1) 1 f_2) 4 f_3) 5 f_4) 14 f_5) 7 f_6) 9 f9) w0) (fun _ => mws_9 hQ) (rfl) (by omega) (by decide) d_Mo_node_141 (fun H locs f_7 ef_7 hI hS hsz => ?_)
      try dsimp only at hI
      refine lv_aload_n hx hb d_Mo_node_142 rfl (lv_at hl 1 rfl) ?_
      refine hp_get (ci := 5) (v := .ref (Q 15)) (C := R_Mo) (T := F_Mo) (N := 28) hx hb hg i_Mo hown hK hI (mw_o hQ) rfl 15 (by decide) (hg _ k_788) (fun _ h9 => h9) rfl d_Mo_node_143 ?_
      refine lv_iload hx hb d_Mo_node_146 (lv_at hl 0 rfl) ?_
      refine lv_dconst1 hx hb d_Mo_node_148 ?_
      refine mv_dast hx hb hK hI hS 1 (X.2.1 15) (mw_15 hQ) rfl n (fun f9 => mW G Q (xsD (xsI (xsI (xsD (xsI (xsI (xsI (xsI (xsT X 0) 0 f_1) 1 f_2) 4 f_3) 5 f_4) 14 f_5) 7 f_6) 9 f_7) 15 f9) w0) (fun _ => mws_15 hQ) (rfl) (by omega) (by decide) d_Mo_node_149 (fun H locs f_8 ef_8 hI hS hsz => ?_)
      try dsimp only at hI
      refine lv_aload_n hx hb d_Mo_node_150 rfl (lv_at hl 1 rfl) ?_
      refine hp_get (ci := 5) (v := .ref (Q 16)) (C := R_Mo) (T := F_Mo) (N := 28) hx hb hg i_Mo hown hK hI (mw_o hQ) rfl 16 (by decide) (hg _ k_789) (fun _ h9 => h9) rfl d_Mo_node_151 ?_
      refine lv_iload hx hb d_Mo_node_154 (lv_at hl 0 rfl) ?_
      refine lv_dconst1 hx hb d_Mo_node_156 ?_
      refine mv_dast hx hb hK hI hS 1 (X.2.1 16) (mw_16 hQ) rfl n (fun f9 => mW G Q (xsD (xsD (xsI (xsI (xsD (xsI (xsI (xsI (xsI (xsT X 0) 0 f_1) 1 f_2) 4 f_3) 5 f_4) 14 f_5) 7 f_6) 9 f_7) 15 f_8) 16 f9) w0) (fun _ => mws_16 hQ) (rfl) (by omega) (by decide) d_Mo_node_157 (fun H locs f_9 ef_9 hI hS hsz => ?_)
      try dsimp only at hI
      refine lv_iconst (v := 0) hx hb d_Mo_node_158 (by decide) ?_
      refine lv_istore (lv' := [(5, .int 0), (4, .int (nI n)), (0, .ref (Q 25)), (1, .int (nI g)), (2, .int kd), (3, .int co)]) hx hb d_Mo_node_159 hl (by decide) rfl (fun ls hl => ?_)
      obtain ⟨Z, eZ⟩ : ∃ z9, z9 = (xsD (xsD (xsI (xsI (xsD (xsI (xsI (xsI (xsI (xsT X 0) 0 f_1) 1 f_2) 4 f_3) 5 f_4) 14 f_5) 7 f_6) 9 f_7) 15 f_8) 16 f_9) := ⟨_, rfl⟩
      rw [← eZ] at hI
      have hI : eI G S0 (mW G Q (xsD (xsI Z 10 (Z.1 10)) 17 (Z.2.1 17)) w0) H := by rw [xi_same, xs_same]; exact hI
      have z10 : Z.1 10 = X.1 10 := by rw [eZ]; rfl
      have z17 : Z.2.1 17 = X.2.1 17 := by rw [eZ]; rfl
      refine W.lpw (fun j (q : (Nat → Int32) × (Nat → UInt64) × Nat) => match q with | (fk, fb, i) => i ≤ 4 ∧ j = 4 - i ∧ (∀ a, a < i → fk (n * 4 + a) = 0) ∧ (∀ y, (y < n * 4 ∨ n * 4 + 4 ≤ y) → fk y = X.1 10 y) ∧ (∀ a, a < i → fb (n * 4 + a) = if a = 3 then FP.i2d co else FP.dconst0) ∧ (∀ y, (y < n * 4 ∨ n * 4 + 4 ≤ y) → fb y = X.2.1 17 y)) (fun (q : (Nat → Int32) × (Nat → UInt64) × Nat) => match q with | (fk, fb, i) => mW G Q (xsD (xsI Z 10 fk) 17 fb) w0) (fun (q : (Nat → Int32) × (Nat → UInt64) × Nat) => match q with | (fk, fb, i) => [(5, .int (nI i)), (4, .int (nI n)), (0, .ref (Q 25)), (1, .int (nI g)), (2, .int kd), (3, .int co)]) (fun (q : (Nat → Int32) × (Nat → UInt64) × Nat) => match q with | (fk, fb, i) => 0) (fun (q : (Nat → Int32) × (Nat → UInt64) × Nat) => match q with | (fk, fb, i) => 0) 6 161 (fun (q : (Nat → Int32) × (Nat → UInt64) × Nat) => match q with | (fk, fb, i) => []) (4) ((Z.1 10, Z.2.1 17, 0)) (⟨by decide, rfl, fun a h => absurd h (Nat.not_lt_zero a), fun y _ => by rw [z10], fun a h => absurd h (Nat.not_lt_zero a), fun y _ => by rw [z17]⟩) (lv_sub hl [0, 1, 2, 3, 4, 5] rfl) hI hS ?_
      rintro j ⟨fk, fb, i⟩ ls H locs hP hl hI hS I
      try dsimp only at hP hl hI ⊢
      obtain ⟨hi4, ej, hk1, hk2, hb1, hb2⟩ := hP
      refine lv_iload hx hb d_Mo_node_161 (lv_at hl 0 rfl) ?_
      refine lv_iconst (v := 4) hx hb d_Mo_node_163 (by decide) ?_
      refine mv_cge (tgt := 210) hx hb i 4 rfl rfl (by omega) (by omega) d_Mo_node_164 (by decide) (fun c4 => ?_) (fun c4 => ?_)
      · have ei : i = 4 := by omega
        subst ei
        have htr' := htr.node (kd := kd) (co := co) hn hnt hg1 hgt hg0 (by omega)
        have hgn : g ≠ n := fun e => hnt (e ▸ hgt)
        have hlg := htr.len hg1 hgt
        have hM' := hM.node (E := xsD (xsI Z 10 fk) 17 fb) (kd := kd) (co := co) htr hn hnt hg1 hgt (by show Z.1 0 = _; rw [eZ, ← ef_1]; rfl) (by show Z.1 1 = _; rw [eZ, ← ef_2]; rfl) (by show Z.1 4 = _; rw [eZ, ← ef_3]; rfl) (by show Z.1 5 = _; rw [eZ, ← ef_4]; rfl) (by show Z.1 6 = _; rw [eZ]; rfl) (by show Z.1 7 = _; rw [eZ, ← ef_6]; rfl) (by show Z.1 8 = _; rw [eZ]; rfl) (by show Z.1 9 = _; rw [eZ, ← ef_7]; rfl) hk1 hk2 (by show Z.2.1 14 = _; rw [eZ, ← ef_5]; rfl) (by show Z.2.1 15 = _; rw [eZ, ← ef_8]; rfl) (by show Z.2.1 16 = _; rw [eZ, ← ef_9]; rfl) hb1 hb2 (by show Z.2.1 18 = _; rw [eZ]; rfl) (by show Z.2.1 19 = _; rw [eZ]; rfl)
        have hz7 : Z.1 7 g = nI (sCh d g).length := by
          rw [show Z.1 7 = f_6 by rw [eZ]; rfl, ef_6, upd_n hgn]
          exact hM.ct hg1 hgt
        refine lv_aload_n hx hb d_Mo_node_210 rfl (lv_at hl 2 rfl) ?_
        refine lv_iload hx hb d_Mo_node_211 (lv_at hl 1 rfl) ?_
        refine lv_iload_n hx hb d_Mo_node_213 rfl (lv_at hl 3 rfl) ?_
        refine ec_v (va_runV (As := [.int (nI n), .int (nI g)]) (rest := []) ⟨hx, hb, hml, hown, hts⟩ (m_Mo_enter l G S0 Q hQ (xsD (xsI Z 10 fk) 17 fb) w0 (dNode d n g kd co) (fset dp n (dp g + 1)) htr' n g (sCh d g).length hn hg1 (by omega) hz7 hM') (cwV 2 hts (gw_V k_879 k_881 k_46 k_67 k_882) rfl rfl rfl (by decide +kernel) ⟨Nat.le_of_ble_eq_true rfl, Nat.le_of_ble_eq_true rfl⟩) (eB.preV hE hI hS hz rfl (mw_o hQ)) rfl rfl hl.1 rfl (lv_room (Nat.le_of_ble_eq_true rfl)) d_Mo_node_214 ⟨Nat.le_of_ble_eq_true rfl, Nat.le_of_ble_eq_true rfl⟩) hS (fun w_2 H locs ew_2 hI hsz hS => ?_)
        obtain ⟨Y, ew_2, ⟨hY, hs⟩⟩ := ew_2
        subst ew_2
        have hs3 := hs.2.2
        have hC' : mC (xEn (xsD (xsI Z 10 fk) 17 fb) n g (sCh d g).length) (dNode d n g kd co) := ⟨fun k hk => by show Z.1 24 k = _; rw [eZ]; exact hC.1 k hk, by show Z.2.2.2.1 = _; rw [eZ]; exact hC.2⟩
        refine lv_iload hx hb d_Mo_node_217 (lv_at hl 1 rfl) ?_
        exact W.iret (v := (nI n)) hx hb hr (fun t9 ht9 hW9 => ⟨⟨(nI n), (mW G Q Y w0), rfl, Or.inr ⟨g, hok, Or.inr ⟨n, hls, hn, by omega, rfl, Y, rfl, ⟨hM'.sm hs, hY, hC'.sm hs⟩, by rw [hs3]; show Z.2.2.2.2 = 0; rw [eZ]; rfl⟩⟩, eWo ht9 hI⟩, hS.F ht9⟩) hS.2.2 d_Mo_node_219
      · refine lv_aload_n hx hb d_Mo_node_167 rfl (lv_at hl 2 rfl) ?_
        refine hp_get (ci := 5) (v := .ref (Q 10)) (C := R_Mo) (T := F_Mo) (N := 28) hx hb hg i_Mo hown hK hI (mw_o hQ) rfl 10 (by decide) (hg _ k_783) (fun _ h9 => h9) rfl d_Mo_node_168 ?_
        refine lv_iload hx hb d_Mo_node_171 (lv_at hl 1 rfl) ?_
        refine lv_iconst (v := 4) hx hb d_Mo_node_173 (by decide) ?_
        refine mv_imul hx hb n 4 rfl rfl d_Mo_node_174 ?_
        refine lv_iload hx hb d_Mo_node_175 (lv_at hl 0 rfl) ?_
        refine mv_iadd hx hb (n * 4) i rfl rfl d_Mo_node_177 ?_
        refine lv_iconst (v := 0) hx hb d_Mo_node_178 (by decide) ?_
        refine mv_iast hx hb hK hI hS 0 ((xsD (xsI Z 10 fk) 17 fb).1 10) (mw_10 hQ) rfl (n * 4 + i) (fun f9 => mW G Q (xsI (xsD (xsI Z 10 fk) 17 fb) 10 f9) w0) (fun _ => mws_10 hQ) (rfl) (by omega) (by decide) d_Mo_node_179 (fun H locs f_10 ef_10 hI hS hsz => ?_)
        try dsimp only at hI
        refine lv_aload_n hx hb d_Mo_node_180 rfl (lv_at hl 2 rfl) ?_
        refine hp_get (ci := 5) (v := .ref (Q 17)) (C := R_Mo) (T := F_Mo) (N := 28) hx hb hg i_Mo hown hK hI (mw_o hQ) rfl 17 (by decide) (hg _ k_790) (fun _ h9 => h9) rfl d_Mo_node_181 ?_
        refine lv_iload hx hb d_Mo_node_184 (lv_at hl 1 rfl) ?_
        refine lv_iconst (v := 4) hx hb d_Mo_node_186 (by decide) ?_
        refine mv_imul hx hb n 4 rfl rfl d_Mo_node_187 ?_
        refine lv_iload hx hb d_Mo_node_188 (lv_at hl 0 rfl) ?_
        refine mv_iadd hx hb (n * 4) i rfl rfl d_Mo_node_190 ?_
        refine lv_iload hx hb d_Mo_node_191 (lv_at hl 0 rfl) ?_
        refine lv_iconst (v := 3) hx hb d_Mo_node_193 (by decide) ?_
        refine mv_cne (tgt := 202) hx hb i 3 rfl rfl (by omega) (by omega) d_Mo_node_194 (by decide) (fun c5 => ?_) (fun c5 => ?_)
        · refine lv_dconst0 hx hb d_Mo_node_202 ?_
          refine mv_dast hx hb hK hI hS 1 ((xsD (xsI Z 10 fk) 17 fb).2.1 17) (mw_17 hQ) rfl (n * 4 + i) (fun f9 => mW G Q (xsD (xsI (xsD (xsI Z 10 fk) 17 fb) 10 f_10) 17 f9) w0) (fun _ => mws_17 hQ) (rfl) (by omega) (by decide) d_Mo_node_203 (fun H locs f_11 ef_11 hI hS hsz => ?_)
          try dsimp only at hI
          refine lv_iinc (v := nI (i + 1)) (lv' := [(5, .int (nI (i + 1))), (4, .int (nI n)), (0, .ref (Q 25)), (1, .int (nI g)), (2, .int kd), (3, .int co)]) hx hb d_Mo_node_204 hl (k := 0) rfl (nI_inc i) (by decide) rfl (fun ls hl => ?_)
          refine lv_goto (tgt := 161) hx hb d_Mo_node_207 (by decide) ?_
          rw [xn_n] at hI
          exact I (4 - (i + 1)) ((f_10, f_11, i + 1)) _ _ _ (by omega) (⟨by show i + 1 ≤ 4; omega, rfl, fun a ha => by rw [ef_10]; show (if n * 4 + a = n * 4 + i then (0 : Int32) else fk (n * 4 + a)) = 0; split; rfl; exact hk1 a (by omega), fun y hy => by rw [ef_10, upd_n (by omega)]; exact hk2 y hy, fun a ha => by rw [ef_11]; show (if n * 4 + a = n * 4 + i then FP.dconst0 else fb (n * 4 + a)) = _; by_cases q : a = i; rw [if_pos (by omega), if_neg (by omega)]; rw [if_neg (by omega)]; exact hb1 a (by omega), fun y hy => by rw [ef_11, vup_n (by omega)]; exact hb2 y hy⟩) (lv_sub hl [0, 1, 2, 3, 4, 5] rfl) hI hS
        · refine lv_iload_n hx hb d_Mo_node_197 rfl (lv_at hl 5 rfl) ?_
          refine lv_i2d hx hb d_Mo_node_198 ?_
          refine lv_goto (tgt := 203) hx hb d_Mo_node_199 (by decide) ?_
          refine mv_dast hx hb hK hI hS 1 ((xsD (xsI Z 10 fk) 17 fb).2.1 17) (mw_17 hQ) rfl (n * 4 + i) (fun f9 => mW G Q (xsD (xsI (xsD (xsI Z 10 fk) 17 fb) 10 f_10) 17 f9) w0) (fun _ => mws_17 hQ) (rfl) (by omega) (by decide) d_Mo_node_203 (fun H locs f_12 ef_12 hI hS hsz => ?_)
          try dsimp only at hI
          refine lv_iinc (v := nI (i + 1)) (lv' := [(5, .int (nI (i + 1))), (4, .int (nI n)), (0, .ref (Q 25)), (1, .int (nI g)), (2, .int kd), (3, .int co)]) hx hb d_Mo_node_204 hl (k := 0) rfl (nI_inc i) (by decide) rfl (fun ls hl => ?_)
          refine lv_goto (tgt := 161) hx hb d_Mo_node_207 (by decide) ?_
          rw [xn_n] at hI
          exact I (4 - (i + 1)) ((f_10, f_12, i + 1)) _ _ _ (by omega) (⟨by show i + 1 ≤ 4; omega, rfl, fun a ha => by rw [ef_10]; show (if n * 4 + a = n * 4 + i then (0 : Int32) else fk (n * 4 + a)) = 0; split; rfl; exact hk1 a (by omega), fun y hy => by rw [ef_10, upd_n (by omega)]; exact hk2 y hy, fun a ha => by rw [ef_12]; show (if n * 4 + a = n * 4 + i then FP.i2d co else fb (n * 4 + a)) = _; by_cases q : a = i; rw [if_pos (by omega), if_pos (by omega)]; rw [if_neg (by omega)]; exact hb1 a (by omega), fun y hy => by rw [ef_12, vup_n (by omega)]; exact hb2 y hy⟩) (lv_sub hl [0, 1, 2, 3, 4, 5] rfl) hI hS
    · have hbt : b = false := by cases b with | true => cases cb | false => rfl
      refine lv_iconst (v := 0) hx hb d_Mo_node_39 (by decide) ?_
      exact W.iret (v := 0) hx hb hr (fun t9 ht9 hW9 => ⟨⟨0, (mW G Q (xsT X (bI (!b))) w0), rfl, Or.inl ⟨fun h => (by rw [hP.mpr h] at hbt; cases hbt), by rw [hbt]; rfl⟩, eWo ht9 hI⟩, hS.F ht9⟩) hS.2.2 d_Mo_node_40
  · refine ec_i (va_runV (As := [.int gr]) (rest := [.ref (Q 25)]) ⟨hx, hb, hml, hown, hts⟩ (m_Mo_isGroup l G S0 Q hQ X w0 d hM gr) (cwV 1 hts (gw_V k_867 k_869 k_43 k_67 k_870) rfl rfl rfl (by decide +kernel) ⟨Nat.le_of_ble_eq_true rfl, Nat.le_of_ble_eq_true rfl⟩) (eB.preV hE hI hS hz rfl (mw_o hQ)) rfl rfl hl.1 rfl (lv_room (Nat.le_of_ble_eq_true rfl)) d_Mo_node_3 ⟨Nat.le_of_ble_eq_true rfl, Nat.le_of_ble_eq_true rfl⟩) hS (fun r_4 w_3 H locs ew_3 hI hsz hS => ?_)
    obtain ⟨ew_3, h1⟩ := ew_3
    have ew_3 := ew_3.symm
    subst ew_3
    obtain ⟨b, eb, h1⟩ := h1
    subst eb
    refine mv_zeq (tgt := 32) hx hb b rfl d_Mo_node_6 (by decide) (fun c1 => ?_) (fun c1 => ?_)
    · refine lv_iconst (v := 0) hx hb d_Mo_node_32 (by decide) ?_
      exact K (false) _ _ _ (⟨fun h => (by cases h), fun h => absurd (h1.mpr h.1) (by rw [c1]; decide)⟩) (lv_sub hl [0, 1, 2, 3] rfl) hI hS
    refine lv_iload_n hx hb d_Mo_node_9 rfl (lv_at hl 2 rfl) ?_
    refine lv_if_lt (tgt := 32) hx hb d_Mo_node_10 (by decide) (fun c2 => ?_) (fun c2 => ?_)
    · refine lv_iconst (v := 0) hx hb d_Mo_node_32 (by decide) ?_
      exact K (false) _ _ _ (⟨fun h => (by cases h), fun h => absurd h.2.1.1 (Int32.not_le.mpr c2)⟩) (lv_sub hl [0, 1, 2, 3] rfl) hI hS
    refine lv_iload_n hx hb d_Mo_node_13 rfl (lv_at hl 2 rfl) ?_
    refine lv_iconst (v := 4) hx hb d_Mo_node_14 (by decide) ?_
    refine lv_icmp_ge (tgt := 32) hx hb d_Mo_node_15 (by decide) (fun c3 => ?_) (fun c3 => ?_)
    · refine lv_iconst (v := 0) hx hb d_Mo_node_32 (by decide) ?_
      exact K (false) _ _ _ (⟨fun h => (by cases h), fun h => absurd ((i32_lt 4 3 (by decide)).mpr h.2.1.2) (Int32.not_lt.mpr c3)⟩) (lv_sub hl [0, 1, 2, 3] rfl) hI hS
    refine lv_iload_n hx hb d_Mo_node_18 rfl (lv_at hl 3 rfl) ?_
    refine lv_if_le (tgt := 32) hx hb d_Mo_node_19 (by decide) (fun c4 => ?_) (fun c4 => ?_)
    · refine lv_iconst (v := 0) hx hb d_Mo_node_32 (by decide) ?_
      exact K (false) _ _ _ (⟨fun h => (by cases h), fun h => absurd ((i32_gt 0 1 (by decide)).mpr h.2.2.1) (Int32.not_lt.mpr c4)⟩) (lv_sub hl [0, 1, 2, 3] rfl) hI hS
    refine lv_iload_n hx hb d_Mo_node_22 rfl (lv_at hl 3 rfl) ?_
    refine lv_bipush (v := 16) hx hb d_Mo_node_23 (by decide) ?_
    refine lv_icmp_ge (tgt := 32) hx hb d_Mo_node_25 (by decide) (fun c5 => ?_) (fun c5 => ?_)
    · refine lv_iconst (v := 0) hx hb d_Mo_node_32 (by decide) ?_
      exact K (false) _ _ _ (⟨fun h => (by cases h), fun h => absurd ((i32_lt 16 15 (by decide)).mpr h.2.2.2) (Int32.not_lt.mpr c5)⟩) (lv_sub hl [0, 1, 2, 3] rfl) hI hS
    refine lv_iconst (v := 1) hx hb d_Mo_node_28 (by decide) ?_
    refine lv_goto (tgt := 33) hx hb d_Mo_node_29 (by decide) ?_
    exact K (true) _ _ _ (⟨fun _ => ⟨h1.mp c1, ⟨Int32.not_lt.mp c2, (i32_lt 4 3 (by decide)).mp (Int32.not_le.mp c3)⟩, (i32_gt 0 1 (by decide)).mp (Int32.not_le.mp c4), (i32_lt 16 15 (by decide)).mp (Int32.not_le.mp c5)⟩, fun _ => rfl⟩) (lv_sub hl [0, 1, 2, 3] rfl) hI hS

/-! Easel's calls: top, around, paint -/
abbrev cm1000 : UInt64 := 13875379345695965184
abbrev fx3 (x : UInt64) : Prop := ∃ m : Int, fx 3 m x
theorem fx3_c (i : Int32) : fx 3 (i.toInt * ((2 ^ 3 : Nat) : Int)) (FP.i2d i) := by
  have := fx_up 3 (fx_i2d i)
  exact this
theorem fx_1000 : fx 3 8000 c1000 := by
  have h := fx3_c 1000
  have e : FP.i2d 1000 = c1000 := by decide +kernel
  rw [e] at h
  exact h
theorem fx_m1000 : fx 3 (-8000) cm1000 := by
  have h := fx3_c (-1000)
  have e : FP.i2d (-1000) = cm1000 := by decide +kernel
  rw [e] at h
  exact h
theorem inT_ti {u : UInt64} (h : fx3 u) (hu : inT u) : tiO u := by
  obtain ⟨m, hm⟩ := h
  exact ⟨m, hm, (fx_ge hm (fx_c0 3)).mp hu.1, (fx_le hm fx_1000).mp hu.2⟩
abbrev inR (x : UInt64) : Prop := dge x cm1000 ∧ dle x c1000
theorem inR_p {x : UInt64} (h : fx3 x) (hx : inR x) : pR 0 x := by
  obtain ⟨m, hm⟩ := h
  have h1 := (fx_ge hm fx_m1000).mp hx.1
  have h2 := (fx_le hm fx_1000).mp hx.2
  have h3 := fx_up 3 hm
  exact ⟨_, h3, by show (m * ((2 ^ 3 : Nat) : Int)).natAbs ≤ 1000 * 2 ^ 6; rw [show ((2 ^ 3 : Nat) : Int) = 8 from rfl, show (2 : Nat) ^ 6 = 64 from rfl]; omega⟩
/-- the same at the nodes that are there -/
def nEq (d : DS) (nx nx' : Nat → Nat → UInt64) (ns ns' : Nat → Int32) : Prop := ∀ k, k < 14 → sTh d k = true → nx k 0 = nx' k 0 ∧ nx k 1 = nx' k 1 ∧ ns k = ns' k
theorem fs_congr {L : List Nat} {f g : Nat → Option Nat} (h : ∀ x ∈ L, f x = g x) : L.findSome? f = L.findSome? g := by
  induction L with
  | nil => rfl
  | cons x xs ih =>
    rw [List.findSome?_cons, List.findSome?_cons, h x List.mem_cons_self, ih (fun y hy => h y (List.mem_cons_of_mem _ hy))]
theorem tIn_congr {d : DS} {T T' : Nat → UInt64 → UInt64 → Option Nat} {k : Nat} (h : ∀ c ∈ sCh d k, ∀ a b, T c a b = T' c a b) (a b : UInt64) : tIn d T k a b = tIn d T' k a b := by
  have hf : fstH (sCh d k) (fun x => T x (tilK d k a) (tilK d k b)) = fstH (sCh d k) (fun x => T' x (tilK d k a) (tilK d k b)) := by
    unfold fstH
    cases hc : (sCh d k)[0]? with
    | none => rfl
    | some x =>
      dsimp only
      rw [h x (List.mem_of_getElem? hc)]
  have hg : ∀ n, ((sCh d k).drop n).reverse.findSome? (fun x => T x (tilK d k a) (tilK d k b)) = ((sCh d k).drop n).reverse.findSome? (fun x => T' x (tilK d k a) (tilK d k b)) := fun n => fs_congr (fun x hx => h x (List.mem_of_mem_drop (List.mem_reverse.mp hx)) _ _)
  unfold tIn
  rw [hf, hg, hg]
theorem tA_congr {d : DS} {dp : Nat → Nat} (htr : tOk d dp) {nx nx' : Nat → Nat → UInt64} {ns ns' : Nat → Int32} (h : nEq d nx nx' ns ns') : ∀ f k, k < 14 → sTh d k = true → ∀ a b, tA d nx ns f k a b = tA d nx' ns' f k a b
  | 0, _, _, _, _, _ => rfl
  | f + 1, k, hk, hkt, a, b => by
    obtain ⟨h1, h2, h3⟩ := h k hk hkt
    have el : locP d nx ns k a b = locP d nx' ns' k a b := by unfold locP; rw [h1, h2, h3]
    rw [tA_succ, tA_succ, el, tIn_congr (fun c hc => tA_congr htr h f c (htr.child hk hkt hc).1 (htr.child hk hkt hc).2.1)]
theorem tTop_congr {d : DS} {dp : Nat → Nat} (htr : tOk d dp) {nx nx' : Nat → Nat → UInt64} {ns ns' : Nat → Int32} (h : nEq d nx nx' ns ns') (a b : UInt64) : tIn d (tA d nx ns 5) 0 a b = tIn d (tA d nx' ns' 5) 0 a b :=
  tIn_congr (fun c hc => tA_congr htr h 5 c (htr.child (by decide) htr.1 hc).1 (htr.child (by decide) htr.1 hc).2.1) a b
theorem fs_mem {L : List Nat} {f : Nat → Option Nat} {c : Nat} (h : L.findSome? f = some c) : ∃ x ∈ L, f x = some c := List.exists_of_findSome?_eq_some h
theorem tIn_mem {d : DS} {T : Nat → UInt64 → UInt64 → Option Nat} {k c : Nat} {a b : UInt64} (h : tIn d T k a b = some c) : ∃ x ∈ sCh d k, ∃ a' b', T x a' b' = some c := by
  have key : ∀ n, ((sCh d k).drop n).reverse.findSome? (fun x => T x (tilK d k a) (tilK d k b)) = some c → ∃ x ∈ sCh d k, ∃ a' b', T x a' b' = some c := fun n hn => by
    obtain ⟨x, hx, hT⟩ := fs_mem hn
    exact ⟨x, List.mem_of_mem_drop (List.mem_reverse.mp hx), _, _, hT⟩
  unfold tIn at h
  split at h
  · split at h
    · exact key 1 h
    · cases h
  · exact key 0 h
theorem tA_th {d : DS} {dp : Nat → Nat} (htr : tOk d dp) {nx : Nat → Nat → UInt64} {ns : Nat → Int32} : ∀ f k, k < 14 → sTh d k = true → ∀ a b c, tA d nx ns f k a b = some c → c < 14 ∧ sTh d c = true
  | 0, _, _, _, _, _, _, h => by cases h
  | f + 1, k, hk, hkt, a, b, c, h => by
    rw [tA_succ] at h
    split at h
    · split at h
      · obtain ⟨x, hx, a', b', hT⟩ := tIn_mem h
        exact tA_th htr f x (htr.child hk hkt hx).1 (htr.child hk hkt hx).2.1 a' b' c hT
      · split at h
        · cases h; exact ⟨hk, hkt⟩
        · cases h
    · cases h
theorem tTop_th {d : DS} {dp : Nat → Nat} (htr : tOk d dp) {nx : Nat → Nat → UInt64} {ns : Nat → Int32} {a b : UInt64} {c : Nat} (h : tIn d (tA d nx ns 5) 0 a b = some c) : c < 14 ∧ sTh d c = true := by
  obtain ⟨x, hx, a', b', hT⟩ := tIn_mem h
  exact tA_th htr 5 x (htr.child (by decide) htr.1 hx).1 (htr.child (by decide) htr.1 hx).2.1 a' b' c hT
/-- the top shape at a point and a time -/
def topF (d : DS) (u a b : UInt64) : Option Nat := tIn d (tA d (fun k i => vX d u k i) (fun k => vS d u k) 5) 0 a b
theorem stld.neq {m : MS} {d : DS} {u : UInt64} (h : ∀ k, k < 14 → sTh d k = true → stld m d u k) : nEq d (mNx m) (fun k i => vX d u k i) (fun j => mNi m j 0) (fun k => vS d u k) := fun k hk hkt => ⟨(h k hk hkt).1, (h k hk hkt).2.1, (h k hk hkt).2.2.1⟩
theorem nOk.st {m m' : MS} {d : DS} (h : nOk m d) (e1 : m'.1 = m.1) (e2 : mAd m' = mAd m) : nOk m' d := fun k hk => by
  have h1 := h k hk
  unfold noF at h1 ⊢
  rw [e2, show mNf m' = mNf m by show m'.1.2.2.2 = m.1.2.2.2; rw [e1]]
  exact h1
set_option maxHeartbeats 4000000 in
set_option maxRecDepth 100000 in
theorem m_Ea_top (l : Launch) (hlt : l.stackTraces = false) (G : EG) (S0 : Nat) (w : hp_M) (ms : MS) (d : DS) (hp' : ePic G ms d w) (hno : nOk ms d) (dp : Nat → Nat) (htr : tOk d dp) (hv0 : vOk d) (a b u : UInt64) (ha : fx3 a) (hb' : fx3 b) (hu : fx3 u) : vx_Met l y_Ea_top w_Ea_top (rl 22 40 200) (eP G S0 w [.ref (mEo ms), .double a, .double b, .double u]) (va_Qi (fun r z => inR a ∧ inR b ∧ inT u ∧ (∃ c, topF d u a b = some c ∧ r = nI c) ∧ pubR G ms d w d z) (eW G S0) (hp_A S0)) (eX G S0 (fun E z => pubR G ms d w d z ∧ ((E = iae ∧ ¬ (inR a ∧ inR b ∧ inT u)) ∨ (E = nse ∧ (inR a ∧ inR b ∧ inT u) ∧ topF d u a b = none)))) 40 200 (hp_A S0) := by
  refine vx_ofW (cc := b_Ea_top) (maxL := 8) (ret := (some .int)) (by decide) rfl ?_
  intro p e s m args below meth c s₁ B hml hnx hv
  obtain ⟨rfl, hE, hI, hz⟩ := hv
  have hx := B.exec
  have hb := B.bytes
  have hr := B.returns
  have hts := atoms_spec (ws := w_Ea_top) B.pre
  have hg : ∀ w ∈ gw, w.before _ s = true := fun w h => hts w (List.mem_cons_of_mem _ h)
  have hown : s.vm.findClass "SceneEasel" = some m.cls := findClass_of_methodNamed B.named
  have hlocks := B.notSynchronized
  have hK := hE.K
  have hS : va_S (hp_A S0) s.heap s.heap [] := va_S.rf
  have hl := lv_entry ([.ref (mEo ms), .double a, .double b, .double u]) (n := 8) (Nat.le_of_ble_eq_true rfl)
  rw [lg_entry_eq]
  generalize (lg_sl ([.ref (mEo ms), .double a, .double b, .double u]) ++ List.replicate (8 - (lg_sl ([.ref (mEo ms), .double a, .double b, .double u])).length) Slot.unset).toArray = ls at hl ⊢
  have hl : lv_has ls 8 [(0, .ref (mEo ms)), (1, .double a), (3, .double b), (5, .double u)] := hl
  have hob := hp'.1
  have hpw : pubR G ms d w d w := ⟨ms, rfl, hp', hno, fR.rf _ _ _⟩
  refine lv_dload_n hx hb d_Ea_top_0 rfl (lv_at hl 1 rfl) ?_
  refine lv_ldc2d (v := 13875379345695965184) hx hb hown (hg _ k_701) d_Ea_top_1 ?_
  refine lv_ldc2d (v := 4652007308841189376) hx hb hown (hg _ k_528) d_Ea_top_4 ?_
  refine xc_v (vx_runS (As := [.double a, .double 13875379345695965184, .double 4652007308841189376]) (rest := []) ⟨hx, hb, hml, hown, hts⟩ (m_Ea_requireBetween l hlt G S0 w a cm1000 c1000) (cwS 3 hts (gw_S k_473 k_474 k_60 k_475) rfl rfl rfl (by decide +kernel) ⟨Nat.le_of_ble_eq_true rfl, Nat.le_of_ble_eq_true rfl⟩) (eB.preS hE hI hS hz) rfl rfl hl.1 rfl (lv_room (Nat.le_of_ble_eq_true rfl)) d_Ea_top_7 ⟨Nat.le_of_ble_eq_true rfl, Nat.le_of_ble_eq_true rfl⟩) hS (fun E9 ce9 q9 u9 H9 locs9 hpx9 hI9 hsz9 hS9 g1 g2 g3 => xc_out hnx hlocks g1 g2 g3 (⟨by rw [hpx9.2.1]; exact hpw, Or.inl ⟨hpx9.1, fun h => hpx9.2.2 h.1⟩⟩) hI9 hS9 (Nat.le_of_ble_eq_true rfl) (Nat.le_of_ble_eq_true rfl)) (fun w_1 H locs ew_1 hI hsz hS => ?_)
  obtain ⟨ew_1, h1⟩ := ew_1
  have ew_1 := ew_1.symm
  subst ew_1
  refine lv_dload_n hx hb d_Ea_top_10 rfl (lv_at hl 2 rfl) ?_
  refine lv_ldc2d (v := 13875379345695965184) hx hb hown (hg _ k_701) d_Ea_top_11 ?_
  refine lv_ldc2d (v := 4652007308841189376) hx hb hown (hg _ k_528) d_Ea_top_14 ?_
  refine xc_v (vx_runS (As := [.double b, .double 13875379345695965184, .double 4652007308841189376]) (rest := []) ⟨hx, hb, hml, hown, hts⟩ (m_Ea_requireBetween l hlt G S0 w b cm1000 c1000) (cwS 3 hts (gw_S k_473 k_474 k_60 k_475) rfl rfl rfl (by decide +kernel) ⟨Nat.le_of_ble_eq_true rfl, Nat.le_of_ble_eq_true rfl⟩) (eB.preS hE hI hS hz) rfl rfl hl.1 rfl (lv_room (Nat.le_of_ble_eq_true rfl)) d_Ea_top_17 ⟨Nat.le_of_ble_eq_true rfl, Nat.le_of_ble_eq_true rfl⟩) hS (fun E9 ce9 q9 u9 H9 locs9 hpx9 hI9 hsz9 hS9 g1 g2 g3 => xc_out hnx hlocks g1 g2 g3 (⟨by rw [hpx9.2.1]; exact hpw, Or.inl ⟨hpx9.1, fun h => hpx9.2.2 h.2.1⟩⟩) hI9 hS9 (Nat.le_of_ble_eq_true rfl) (Nat.le_of_ble_eq_true rfl)) (fun w_2 H locs ew_2 hI hsz hS => ?_)
  obtain ⟨ew_2, h2⟩ := ew_2
  have ew_2 := ew_2.symm
  subst ew_2
  refine lv_dload hx hb d_Ea_top_20 (lv_at hl 3 rfl) ?_
  refine xc_v (vx_runS (As := [.double u]) (rest := []) ⟨hx, hb, hml, hown, hts⟩ (m_Ea_requireTime l hlt G S0 w u) (cwS 1 hts (gw_S k_525 k_526 k_60 k_527) rfl rfl rfl (by decide +kernel) ⟨Nat.le_of_ble_eq_true rfl, Nat.le_of_ble_eq_true rfl⟩) (eB.preS hE hI hS hz) rfl rfl hl.1 rfl (lv_room (Nat.le_of_ble_eq_true rfl)) d_Ea_top_22 ⟨Nat.le_of_ble_eq_true rfl, Nat.le_of_ble_eq_true rfl⟩) hS (fun E9 ce9 q9 u9 H9 locs9 hpx9 hI9 hsz9 hS9 g1 g2 g3 => xc_out hnx hlocks g1 g2 g3 (⟨by rw [hpx9.2.1]; exact hpw, Or.inl ⟨hpx9.1, fun h => hpx9.2.2 h.2.2⟩⟩) hI9 hS9 (Nat.le_of_ble_eq_true rfl) (Nat.le_of_ble_eq_true rfl)) (fun w_3 H locs ew_3 hI hsz hS => ?_)
  obtain ⟨ew_3, h3⟩ := ew_3
  have ew_3 := ew_3.symm
  subst ew_3
  refine lv_aload_n hx hb d_Ea_top_25 rfl (lv_at hl 0 rfl) ?_
  refine lv_dload hx hb d_Ea_top_26 (lv_at hl 3 rfl) ?_
  refine ec_v (va_runV (As := [.double u]) (rest := []) ⟨hx, hb, hml, hown, hts⟩ (m_Ea_settle l G S0 w ms d hp' hno hv0 u (inT_ti hu h3)) (cwV 1 hts (gw_V k_629 k_631 k_22 k_60 k_632) rfl rfl rfl (by decide +kernel) ⟨Nat.le_of_ble_eq_true rfl, Nat.le_of_ble_eq_true rfl⟩) (eB.preV hE hI hS hz rfl hob) rfl rfl hl.1 rfl (lv_room (Nat.le_of_ble_eq_true rfl)) d_Ea_top_28 ⟨Nat.le_of_ble_eq_true rfl, Nat.le_of_ble_eq_true rfl⟩) hS (fun w1 H locs ew1 hI hsz hS => ?_)
  obtain ⟨m1, e1, e2, hp1, hf1, hst⟩ := ew1
  have eo : mEo m1 = mEo ms := by show m1.1.1 = ms.1.1; rw [e1]
  have hob1 := hp1.1
  rw [eo, e2] at hob1
  have hn0 := hp1.node (by decide) htr.1
  rw [e2] at hn0
  have hrd := stld.rdy hv0 (inT_ti hu h3) hst
  have hpz : pubR G ms d w d w1 := ⟨m1, eo, hp1, hno.st e1 e2, hf1⟩
  refine lv_aload_n hx hb d_Ea_top_31 rfl (lv_at hl 0 rfl) ?_
  refine hp_get (ci := 3) (v := .ref (mAd ms 0 0)) (C := R_Ea) (T := F_Ea) (N := 4) hx hb hg i_Ea hown hK hI hob1 rfl 0 (by decide) (hg _ k_243) (fun _ h9 => h9) rfl d_Ea_top_32 ?_
  refine lv_dload_n hx hb d_Ea_top_35 rfl (lv_at hl 1 rfl) ?_
  refine lv_dload_n hx hb d_Ea_top_36 rfl (lv_at hl 2 rfl) ?_
  have htp := m_top l G S0 w1 m1 d dp hp1 htr hv0 hrd a b (inR_p ha h1) (inR_p hb' h2)
  rw [e2, tTop_congr htr (stld.neq hst)] at htp
  refine ec_o (va_runVN (As := [.double a, .double b]) (rest := []) ⟨hx, hb, hml, hown, hts⟩ (htp) ⟨va_cnB 2 hts (gw_code k_660) rfl rfl rfl (hE.Nw q_657) (hg _ k_61) (by decide +kernel) ⟨Nat.le_of_ble_eq_true rfl, Nat.le_of_ble_eq_true rfl⟩, hg _ k_659, hg _ k_27⟩ (eB.preV hE hI hS hz rfl hn0) rfl rfl hl.1 rfl (lv_room (Nat.le_of_ble_eq_true rfl)) d_Ea_top_37 ⟨Nat.le_of_ble_eq_true rfl, Nat.le_of_ble_eq_true rfl⟩) hS (fun tp w_4 H locs ew_4 hI hsz hS => ?_)
  obtain ⟨etp, ew_4⟩ := ew_4
  have ew_4 := ew_4.symm
  subst ew_4
  have etop : topF d u a b = tIn d (tA d (fun k i => vX d u k i) (fun k => vS d u k) 5) 0 a b := rfl
  rw [← etop] at etp
  cases hT : topF d u a b with
  | none =>
    rw [hT] at etp
    have etp : tp = none := etp
    subst etp
    refine lv_astoreN (lv' := [(7, .null), (0, .ref (mEo ms)), (1, .double a), (3, .double b), (5, .double u)]) hx hb d_Ea_top_40 hl (by decide) rfl (fun ls hl => ?_)
    refine lv_aloadN hx hb d_Ea_top_42 (lv_at hl 0 rfl) ?_
    refine lv_ifnonnullN hx hb d_Ea_top_44 ?_
    exact xt_nse (text := "nothing lies there") (by decide +kernel) hx hb hlt hown hg hE hI hS (hl.1.trans hml.symm) d_Ea_top_47 d_Ea_top_50 d_Ea_top_51 d_Ea_top_53 d_Ea_top_56 hnx hlocks (⟨hpz, Or.inr ⟨rfl, ⟨h1, h2, h3⟩, rfl⟩⟩) (Nat.le_of_ble_eq_true rfl) (Nat.le_of_ble_eq_true rfl) (Nat.le_of_ble_eq_true rfl) (Nat.le_of_ble_eq_true rfl) (Nat.le_of_ble_eq_true rfl) (Nat.le_of_ble_eq_true rfl)
  | some c9 =>
    rw [hT] at etp
    have etp : tp = some (mAd ms c9 0) := etp
    subst etp
    obtain ⟨hc1, hc2⟩ := tTop_th htr (show tIn d (tA d (fun k i => vX d u k i) (fun k => vS d u k) 5) 0 a b = some c9 from hT)
    have hnc := hp1.node hc1 hc2
    rw [e2] at hnc
    refine lv_astore (lv' := [(7, .ref (mAd ms c9 0)), (0, .ref (mEo ms)), (1, .double a), (3, .double b), (5, .double u)]) hx hb d_Ea_top_40 hl (by decide) rfl (fun ls hl => ?_)
    refine lv_aload hx hb d_Ea_top_42 (lv_at hl 0 rfl) ?_
    refine lv_ifnonnull (tgt := 57) hx hb d_Ea_top_44 (by decide) ?_
    refine lv_aload hx hb d_Ea_top_57 (lv_at hl 0 rfl) ?_
    refine hp_getN (ci := 1) (v := .int (nI c9)) (C := R_No) (T := F_No) (N := 20) hx hb hg i_No hown hK hI hnc rfl 0 (by decide) (hE.N q_167) (fun _ h9 => h9) rfl d_Ea_top_59 ?_
    refine vx_ret ?_
    refine W.widen (k := 40) (n := 200) (Nat.le_of_ble_eq_true rfl) (Nat.le_of_ble_eq_true rfl) ?_
    exact W.iret (v := (nI c9)) hx hb hr (fun t9 ht9 hW9 => ⟨⟨(nI c9), w1, rfl, ⟨h1, h2, h3, ⟨c9, rfl, rfl⟩, hpz⟩, eWo ht9 hI⟩, hS.F ht9⟩) hS.2.2 d_Ea_top_62
theorem kdB_congr {d : DS} {T T' : Nat → Option B4} : ∀ (L : List Nat) (a : Option B4), (∀ x ∈ L, T x = T' x) → L.foldl (fun acc c => if sNi d c 2 = 0 then jnO acc (T c) else acc) a = L.foldl (fun acc c => if sNi d c 2 = 0 then jnO acc (T' c) else acc) a
  | [], _, _ => rfl
  | x :: xs, a, h => by
    rw [List.foldl_cons, List.foldl_cons, h x List.mem_cons_self]
    exact kdB_congr xs _ (fun y hy => h y (List.mem_cons_of_mem _ hy))
theorem kdB_eq {d : DS} {T T' : Nat → Option B4} (L : List Nat) (h : ∀ x ∈ L, T x = T' x) : kdB d T L = kdB d T' L := kdB_congr L none h
theorem bA_congr {d : DS} {dp : Nat → Nat} (htr : tOk d dp) {nx nx' : Nat → Nat → UInt64} {ns ns' : Nat → Int32} (h : nEq d nx nx' ns ns') : ∀ f k, k < 14 → sTh d k = true → bA d nx ns f k = bA d nx' ns' f k
  | 0, _, _, _ => rfl
  | f + 1, k, hk, hkt => by
    obtain ⟨h1, h2, h3⟩ := h k hk hkt
    have e : kdB d (bA d nx ns f) (sCh d k) = kdB d (bA d nx' ns' f) (sCh d k) := kdB_congr _ _ (fun c hc => bA_congr htr h f c (htr.child hk hkt hc).1 (htr.child hk hkt hc).2.1)
    show (if sNi d k 0 = 0 then kdB d (bA d nx ns f) (sCh d k) else some (spB d f k)).map (lyB f (fxv 6 (nx k 0)) (fxv 6 (nx k 1)) (tu d k) (ns k)) = _
    rw [e, h1, h2, h3]
    rfl
/-- the box round a node at a time, and its scale -/
def arB (d : DS) (dp : Nat → Nat) (u : UInt64) (k : Nat) : Option B4 := if k = 0 then kdB d (bA d (fun k i => vX d u k i) (fun k => vS d u k) 5) (sCh d 0) else bA d (fun k i => vX d u k i) (fun k => vS d u k) (5 - dp k + 1) k
def arG (dp : Nat → Nat) (k : Nat) : Nat := if k = 0 then 16 else 6 + 2 * (5 - dp k + 1)
def sdB (j : Nat) (q : B4) : Int := if j = 0 then q.1 else if j = 1 then q.2.1 else if j = 2 then q.2.2.1 else q.2.2.2
theorem sd_fx {g j : Nat} {q : B4} {x : D4} (h : exQ g q x) : fx g (sdB j q) (dz0 (xSide j x.1 x.2.1 x.2.2.1 x.2.2.2)) := by
  have key : ∀ (n : Int) (y : UInt64), fx g n y → fx g n (dz0 y) := fun n y hy => by
    unfold dz0
    by_cases h0 : FP.dcmp y FP.dconst0 = some .eq
    · rw [if_pos h0, (fx_eq hy (fx_c0 g)).mp h0]; exact fx_c0 g
    · rw [if_neg h0]; exact hy
  unfold sdB xSide
  by_cases h0 : j = 0
  · rw [if_pos h0, if_pos h0]; exact key _ _ h.1
  rw [if_neg h0, if_neg h0]
  by_cases h1 : j = 1
  · rw [if_pos h1, if_pos h1]; exact key _ _ h.2.1
  rw [if_neg h1, if_neg h1]
  by_cases h2 : j = 2
  · rw [if_pos h2, if_pos h2]; exact key _ _ h.2.2.1
  rw [if_neg h2, if_neg h2]
  exact key _ _ h.2.2.2
theorem msX_self (m : MS) : msX m (mXt m) = m := rfl
theorem frX.fR {m : MS} {d : DS} {w z : hp_M} (h : frX m d w z) (X : Nat → X5) : fR m d w (msX m X) d z :=
  ⟨fun a x q1 q2 => by rw [h a (fun j hj hjt e => q2 (Or.inr (Or.inr (Or.inr ⟨j, 3, hj, hjt, ⟨by decide, fun e => absurd e (by decide)⟩, e⟩))))]; exact q1, fun a q => Or.inl ((Own.congr rfl rfl rfl rfl a).mp q)⟩
set_option maxHeartbeats 4000000 in
set_option maxRecDepth 100000 in
theorem m_Ea_around (l : Launch) (hlt : l.stackTraces = false) (G : EG) (S0 : Nat) (w : hp_M) (ms : MS) (d : DS) (hp' : ePic G ms d w) (hno : nOk ms d) (dp : Nat → Nat) (htr : tOk d dp) (hv0 : vOk d) (n sd : Int32) (u : UInt64) (hu : fx3 u) : vx_Met l y_Ea_around w_Ea_around (rl 22 40 200) (eP G S0 w [.ref (mEo ms), .int n, .int sd, .double u]) (va_Qd (fun r z => ∃ k j q, k < 14 ∧ n = nI k ∧ sTh d k = true ∧ j < 4 ∧ sd = nI j ∧ inT u ∧ arB d dp u k = some q ∧ fx (arG dp k) (sdB j q) r ∧ pubR G ms d w d z) (eW G S0) (hp_A S0)) (eX G S0 (fun E z => pubR G ms d w d z ∧ ((E = iae ∧ ¬ (isN d n ∧ (0 ≤ sd ∧ sd ≤ 3) ∧ inT u)) ∨ (E = nse ∧ ∃ k j, k < 14 ∧ n = nI k ∧ sTh d k = true ∧ j < 4 ∧ sd = nI j ∧ inT u ∧ arB d dp u k = none)))) 40 200 (hp_A S0) := by
  refine vx_ofW (cc := b_Ea_around) (maxL := 6) (ret := (some .double)) (by decide) rfl ?_
  intro p e s m args below meth c s₁ B hml hnx hv
  obtain ⟨rfl, hE, hI, hz⟩ := hv
  have hx := B.exec
  have hb := B.bytes
  have hr := B.returns
  have hts := atoms_spec (ws := w_Ea_around) B.pre
  have hg : ∀ w ∈ gw, w.before _ s = true := fun w h => hts w (List.mem_cons_of_mem _ h)
  have hown : s.vm.findClass "SceneEasel" = some m.cls := findClass_of_methodNamed B.named
  have hlocks := B.notSynchronized
  have hK := hE.K
  have hS : va_S (hp_A S0) s.heap s.heap [] := va_S.rf
  have hl := lv_entry ([.ref (mEo ms), .int n, .int sd, .double u]) (n := 6) (Nat.le_of_ble_eq_true rfl)
  rw [lg_entry_eq]
  generalize (lg_sl ([.ref (mEo ms), .int n, .int sd, .double u]) ++ List.replicate (6 - (lg_sl ([.ref (mEo ms), .int n, .int sd, .double u])).length) Slot.unset).toArray = ls at hl ⊢
  have hl : lv_has ls 6 [(0, .ref (mEo ms)), (1, .int n), (2, .int sd), (3, .double u)] := hl
  have hob := hp'.1
  have hpw : pubR G ms d w d w := ⟨ms, rfl, hp', hno, fR.rf _ _ _⟩
  refine lv_aload_n hx hb d_Ea_around_0 rfl (lv_at hl 0 rfl) ?_
  refine lv_iload_n hx hb d_Ea_around_1 rfl (lv_at hl 1 rfl) ?_
  refine xc_o (vx_runV (As := [.int n]) (rest := []) ⟨hx, hb, hml, hown, hts⟩ (m_Ea_requireNode l hlt G S0 w ms d hp' hno n) (cwV 1 hts (gw_V k_300 k_302 k_7 k_60 k_303) rfl rfl rfl (by decide +kernel) ⟨Nat.le_of_ble_eq_true rfl, Nat.le_of_ble_eq_true rfl⟩) (eB.preV hE hI hS hz rfl hob) rfl rfl hl.1 rfl (lv_room (Nat.le_of_ble_eq_true rfl)) d_Ea_around_2 ⟨Nat.le_of_ble_eq_true rfl, Nat.le_of_ble_eq_true rfl⟩) hS (fun E9 ce9 q9 u9 H9 locs9 hpx9 hI9 hsz9 hS9 g1 g2 g3 => xc_out hnx hlocks g1 g2 g3 (⟨by rw [hpx9.2.1]; exact hpw, Or.inl ⟨hpx9.1, fun h => hpx9.2.2 h.1⟩⟩) hI9 hS9 (Nat.le_of_ble_eq_true rfl) (Nat.le_of_ble_eq_true rfl)) (fun nd w_1 H locs ew_1 hI hsz hS => ?_)
  obtain ⟨ew_1, h1⟩ := ew_1
  have ew_1 := ew_1.symm
  subst ew_1
  obtain ⟨k, hk, ek, ht, end_⟩ := h1
  subst end_
  refine lv_astore (lv' := [(5, .ref (mAd ms k 0)), (0, .ref (mEo ms)), (1, .int n), (2, .int sd), (3, .double u)]) hx hb d_Ea_around_5 hl (by decide) rfl (fun ls hl => ?_)
  refine lv_iload_n hx hb d_Ea_around_7 rfl (lv_at hl 3 rfl) ?_
  refine lv_iconst (v := 0) hx hb d_Ea_around_8 (by decide) ?_
  refine lv_iconst (v := 3) hx hb d_Ea_around_9 (by decide) ?_
  refine xc_v (vx_runS (As := [.int sd, .int 0, .int 3]) (rest := []) ⟨hx, hb, hml, hown, hts⟩ (m_Ea_requireWithin l hlt G S0 w sd 0 3) (cwS 3 hts (gw_S k_373 k_374 k_60 k_375) rfl rfl rfl (by decide +kernel) ⟨Nat.le_of_ble_eq_true rfl, Nat.le_of_ble_eq_true rfl⟩) (eB.preS hE hI hS hz) rfl rfl hl.1 rfl (lv_room (Nat.le_of_ble_eq_true rfl)) d_Ea_around_10 ⟨Nat.le_of_ble_eq_true rfl, Nat.le_of_ble_eq_true rfl⟩) hS (fun E9 ce9 q9 u9 H9 locs9 hpx9 hI9 hsz9 hS9 g1 g2 g3 => xc_out hnx hlocks g1 g2 g3 (⟨by rw [hpx9.2.1]; exact hpw, Or.inl ⟨hpx9.1, fun h => hpx9.2.2 h.2.1⟩⟩) hI9 hS9 (Nat.le_of_ble_eq_true rfl) (Nat.le_of_ble_eq_true rfl)) (fun w_2 H locs ew_2 hI hsz hS => ?_)
  obtain ⟨ew_2, h2⟩ := ew_2
  have ew_2 := ew_2.symm
  subst ew_2
  obtain ⟨j, hj, ej⟩ := i32_4 h2
  refine lv_dload_n hx hb d_Ea_around_13 rfl (lv_at hl 4 rfl) ?_
  refine xc_v (vx_runS (As := [.double u]) (rest := []) ⟨hx, hb, hml, hown, hts⟩ (m_Ea_requireTime l hlt G S0 w u) (cwS 1 hts (gw_S k_525 k_526 k_60 k_527) rfl rfl rfl (by decide +kernel) ⟨Nat.le_of_ble_eq_true rfl, Nat.le_of_ble_eq_true rfl⟩) (eB.preS hE hI hS hz) rfl rfl hl.1 rfl (lv_room (Nat.le_of_ble_eq_true rfl)) d_Ea_around_14 ⟨Nat.le_of_ble_eq_true rfl, Nat.le_of_ble_eq_true rfl⟩) hS (fun E9 ce9 q9 u9 H9 locs9 hpx9 hI9 hsz9 hS9 g1 g2 g3 => xc_out hnx hlocks g1 g2 g3 (⟨by rw [hpx9.2.1]; exact hpw, Or.inl ⟨hpx9.1, fun h => hpx9.2.2 h.2.2⟩⟩) hI9 hS9 (Nat.le_of_ble_eq_true rfl) (Nat.le_of_ble_eq_true rfl)) (fun w_3 H locs ew_3 hI hsz hS => ?_)
  obtain ⟨ew_3, h3⟩ := ew_3
  have ew_3 := ew_3.symm
  subst ew_3
  refine lv_aload_n hx hb d_Ea_around_17 rfl (lv_at hl 1 rfl) ?_
  refine lv_dload_n hx hb d_Ea_around_18 rfl (lv_at hl 4 rfl) ?_
  refine ec_v (va_runV (As := [.double u]) (rest := []) ⟨hx, hb, hml, hown, hts⟩ (m_Ea_settle l G S0 w ms d hp' hno hv0 u (inT_ti hu h3)) (cwV 1 hts (gw_V k_629 k_631 k_22 k_60 k_632) rfl rfl rfl (by decide +kernel) ⟨Nat.le_of_ble_eq_true rfl, Nat.le_of_ble_eq_true rfl⟩) (eB.preV hE hI hS hz rfl hob) rfl rfl hl.1 rfl (lv_room (Nat.le_of_ble_eq_true rfl)) d_Ea_around_19 ⟨Nat.le_of_ble_eq_true rfl, Nat.le_of_ble_eq_true rfl⟩) hS (fun w1 H locs ew1 hI hsz hS => ?_)
  obtain ⟨m1, e1, e2, hp1, hf1, hst⟩ := ew1
  have eo : mEo m1 = mEo ms := by show m1.1.1 = ms.1.1; rw [e1]
  have hob1 := hp1.1
  rw [eo, e2] at hob1
  have hnk := hp1.node hk ht
  rw [e2] at hnk
  have hrd := stld.rdy hv0 (inT_ti hu h3) hst
  have hneq := stld.neq hst
  have hp1x : ePic G (msX m1 (mXt m1)) d w1 := hp1
  refine lv_aload hx hb d_Ea_around_22 (lv_at hl 0 rfl) ?_
  refine lv_aload_n hx hb d_Ea_around_24 rfl (lv_at hl 1 rfl) ?_
  refine hp_get (ci := 3) (v := .ref (mAd ms 0 0)) (C := R_Ea) (T := F_Ea) (N := 4) hx hb hg i_Ea hown hK hI hob1 rfl 0 (by decide) (hg _ k_243) (fun _ h9 => h9) rfl d_Ea_around_25 ?_
  refine W.midw (G := G) (S0 := S0) (fun (q : (Nat → X5) × hp_M) => match q with | (Y, z) => ePic G (msX m1 Y) d z ∧ exO (arG dp k) (arB d dp u k) (Y k) ∧ frX m1 d w1 z) (fun (q : (Nat → X5) × hp_M) => match q with | (Y, z) => z) (fun (q : (Nat → X5) × hp_M) => match q with | (Y, z) => [(5, .ref (mAd ms k 0)), (0, .ref (mEo ms)), (1, .int n), (2, .int sd), (3, .double u)]) (fun (q : (Nat → X5) × hp_M) => match q with | (Y, z) => 3) (fun (q : (Nat → X5) × hp_M) => match q with | (Y, z) => 18) 6 44 (fun (q : (Nat → X5) × hp_M) => match q with | (Y, z) => []) ?_ (fun J => ?_)
  · rintro ⟨Y, z⟩ ls H locs hP hl hI hS
    try dsimp only at hP hl hI ⊢
    obtain ⟨hpz, h4, h5⟩ := hP
    have hpq : pubR G ms d w d z := ⟨msX m1 Y, eo, hpz, hno.st e1 e2, hf1.tr (h5.fR Y)⟩
    have hn : z (mAd ms k 0) = some (nC m1 d k) := by
      have := hpz.node hk ht
      rw [show mAd (msX m1 Y) k 0 = mAd ms k 0 by show mAd m1 k 0 = _; rw [e2]] at this
      exact this
    have hex' := hpz.ex hk ht
    refine lv_aload hx hb d_Ea_around_44 (lv_at hl 0 rfl) ?_
    refine hp_getN (ci := 1) (v := .ref (mAd m1 k 3)) (C := R_No) (T := F_No) (N := 20) hx hb hg i_No hown hK hI hn rfl 5 (by decide) (hE.N q_176) (fun _ h9 => h9) rfl d_Ea_around_46 ?_
    refine hp_getN (ci := 0) (v := .int (Y k).1) (C := R_Ex) (T := F_Ex) (N := 5) hx hb hg i_Ex hown hK hI hex' rfl 0 (by decide) (hE.N q_132) (fun _ h9 => h9) rfl d_Ea_around_49 ?_
    cases hA : arB d dp u k with
    | none =>
      rw [hA] at h4
      have h4 : (Y k).1 = 1 := h4
      refine lv_if_eq (tgt := 65) hx hb d_Ea_around_52 (by decide) (fun c9 => absurd c9 ((by rw [h4]; decide))) (fun c9 => ?_)
      exact xt_nse (text := "there is nothing to put a box round") (by decide +kernel) hx hb hlt hown hg hE hI hS (hl.1.trans hml.symm) d_Ea_around_55 d_Ea_around_58 d_Ea_around_59 d_Ea_around_61 d_Ea_around_64 hnx hlocks (⟨hpq, Or.inr ⟨rfl, k, j, hk, ek, ht, hj, ej, h3, hA⟩⟩) (Nat.le_of_ble_eq_true rfl) (Nat.le_of_ble_eq_true rfl) (Nat.le_of_ble_eq_true rfl) (Nat.le_of_ble_eq_true rfl) (Nat.le_of_ble_eq_true rfl) (Nat.le_of_ble_eq_true rfl)
    | some q =>
      rw [hA] at h4
      obtain ⟨h40, h4q⟩ : (Y k).1 = 0 ∧ exQ (arG dp k) q (Y k).2 := h4
      refine lv_if_eq (tgt := 65) hx hb d_Ea_around_52 (by decide) (fun c9 => ?_) (fun c9 => absurd (h40) c9)
      refine lv_aload hx hb d_Ea_around_65 (lv_at hl 0 rfl) ?_
      refine hp_getN (ci := 1) (v := .ref (mAd m1 k 3)) (C := R_No) (T := F_No) (N := 20) hx hb hg i_No hown hK hI hn rfl 5 (by decide) (hE.N q_176) (fun _ h9 => h9) rfl d_Ea_around_67 ?_
      refine lv_iload_n hx hb d_Ea_around_70 rfl (lv_at hl 3 rfl) ?_
      have hside := m_Ex_side l G S0 z (mAd m1 k 3) j hj hex'
      rw [← ej] at hside
      refine ec_d (va_runVN (As := [.int sd]) (rest := []) ⟨hx, hb, hml, hown, hts⟩ (hside) ⟨va_cnB 1 hts (gw_code k_753) rfl rfl rfl (hE.Nw q_750) (hg _ k_65) (by decide +kernel) ⟨Nat.le_of_ble_eq_true rfl, Nat.le_of_ble_eq_true rfl⟩, hg _ k_752, hg _ k_41⟩ (eB.preV hE hI hS hz rfl hex') rfl rfl hl.1 rfl (lv_room (Nat.le_of_ble_eq_true rfl)) d_Ea_around_71 ⟨Nat.le_of_ble_eq_true rfl, Nat.le_of_ble_eq_true rfl⟩) hS (fun rs w_4 H locs ew_4 hI hsz hS => ?_)
      obtain ⟨ers, ew_4⟩ := ew_4
      have ew_4 := ew_4.symm
      subst ew_4
      refine vx_ret ?_
      refine W.widen (k := 40) (n := 200) (Nat.le_of_ble_eq_true rfl) (Nat.le_of_ble_eq_true rfl) ?_
      exact W.dret (v := rs) hx hb hr (fun t9 ht9 hW9 => ⟨⟨rs, z, rfl, ⟨k, j, q, hk, ek, ht, hj, ej, h3, hA, by rw [ers]; exact sd_fx h4q, hpq⟩, eWo ht9 hI⟩, hS.F ht9⟩) hS.2.2 d_Ea_around_74
  · refine lv_acmp_ne (rx := (some (mAd ms k 0))) (ry := (some (mAd ms 0 0))) (tgt := 39) hx hb d_Ea_around_28 (by decide) (fun c1 => ?_) (fun c1 => ?_)
    · have hk0 : k ≠ 0 := fun e => c1 (by rw [e])
      have hdp1 : 1 ≤ dp k := by
        obtain ⟨g, -, -, -, -, e5, -⟩ := htr.2.2.2.2.1 k hk ht hk0
        omega
      have hdp5 := htr.2.2.2.2.2.2 k hk ht
      have hme := ME_all l G S0 m1 d dp htr hv0 hrd (5 - dp k) w1 (mXt m1) hp1x k hk ht hk0 (by omega)
      rw [e2] at hme
      refine lv_aload hx hb d_Ea_around_39 (lv_at hl 0 rfl) ?_
      refine ec_v (va_runVN (As := []) (rest := []) ⟨hx, hb, hml, hown, hts⟩ (hme) ⟨va_cnB 0 hts (gw_code k_721) rfl rfl rfl (hE.Nw q_748) (hg _ k_61) (by decide +kernel) ⟨by show 10 + (2 * (5 - dp k) + 5) + 1 ≤ 10 + (22); omega, by show 8 + (1 + 11) + (100 + 60 * (2 * (5 - dp k) + 5)) ≤ 100 + 60 * (22); omega⟩, hg _ k_720, hg _ k_34⟩ (eB.preV hE hI hS hz rfl hnk) rfl rfl hl.1 rfl (lv_room (Nat.le_of_ble_eq_true rfl)) d_Ea_around_41 ⟨Nat.le_of_ble_eq_true rfl, Nat.le_of_ble_eq_true rfl⟩) hS (fun w2 H locs ew2 hI hsz hS => ?_)
      obtain ⟨Y, g1, g2, g3, g4⟩ := ew2
      exact J ((Y, w2)) ls H locs (⟨g1, by rw [show arG dp k = 6 + 2 * (5 - dp k + 1) from if_neg hk0, show arB d dp u k = bA d (fun k i => vX d u k i) (fun k => vS d u k) (5 - dp k + 1) k from if_neg hk0, ← bA_congr htr hneq _ k hk ht]; exact g3, g4⟩) (lv_sub hl [0, 1, 2, 3, 4] rfl) hI hS
    · have hk0 : k = 0 := by
        rcases (some_ad0 hp' hk ht (by decide) htr.1) with ⟨q, -⟩
        exact q c1
      have hmi := m_No_measureInside l G S0 m1 d dp htr hv0 5 (fun f' _ => ME_all l G S0 m1 d dp htr hv0 hrd f') w1 (mXt m1) hp1x k hk ht (by rw [hk0, htr.2.2.2.1])
      rw [e2] at hmi
      refine lv_aload hx hb d_Ea_around_31 (lv_at hl 0 rfl) ?_
      refine ec_v (va_runVN (As := []) (rest := []) ⟨hx, hb, hml, hown, hts⟩ (hmi) ⟨va_cnB 0 hts (gw_code k_713) rfl rfl rfl (hE.Nw q_710) (hg _ k_61) (by decide +kernel) ⟨by show 10 + (2 * 5 + 4) + 1 ≤ 10 + (22); omega, by show 8 + (3 + 11) + (100 + 60 * (2 * 5 + 4)) ≤ 100 + 60 * (22); omega⟩, hg _ k_712, hg _ k_32⟩ (eB.preV hE hI hS hz rfl hnk) rfl rfl hl.1 rfl (lv_room (Nat.le_of_ble_eq_true rfl)) d_Ea_around_33 ⟨Nat.le_of_ble_eq_true rfl, Nat.le_of_ble_eq_true rfl⟩) hS (fun w2 H locs ew2 hI hsz hS => ?_)
      obtain ⟨Y, g1, g2, g3, g4⟩ := ew2
      refine lv_goto (tgt := 44) hx hb d_Ea_around_36 (by decide) ?_
      exact J ((Y, w2)) ls H locs (⟨g1, by rw [show arG dp k = 16 from if_pos hk0, show arB d dp u k = kdB d (bA d (fun k i => vX d u k i) (fun k => vS d u k) 5) (sCh d 0) from if_pos hk0, ← kdB_eq (T := bA d (mNx m1) (fun j => mNi m1 j 0) 5) (sCh d 0) (fun c hc => bA_congr htr hneq 5 c (htr.child (by decide) htr.1 hc).1 (htr.child (by decide) htr.1 hc).2.1)]; rw [hk0] at g3 ⊢; exact g3, g4⟩) (lv_sub hl [0, 1, 2, 3, 4] rfl) hI hS

/-! the model: key -/
theorem kSh_id (f : Nat → UInt64) (n : Nat) : kSh f n n = f := by
  funext j
  exact if_neg (by omega)
theorem xd_dd {X : XS} {i j : Nat} (h : i ≠ j) {a b c e : Nat → UInt64} : xsD (xsD (xsD (xsD X i a) j b) i c) j e = xsD (xsD X i c) j e := by
  obtain ⟨x, y, z⟩ := X
  show (x, fset (fset (fset (fset y i a) j b) i c) j e, z) = (x, fset (fset y i c) j e, z)
  congr 2
  funext q
  by_cases q1 : q = j
  · subst q1
    rw [fset_eq, fset_eq]
  · rw [fset_ne q1, fset_ne q1]
    by_cases q2 : q = i
    · subst q2
      rw [fset_eq, fset_eq]
    · rw [fset_ne q2, fset_ne q2, fset_ne q1, fset_ne q2]
def mOkK (d : DS) (n pr : Int32) (u v : UInt64) (k i : Nat) : Prop := k < 14 ∧ n = nI k ∧ sTh d k = true ∧ k ≠ 0 ∧ i < 4 ∧ pr = nI i ∧ dIn u FP.dconst0 c1000 = true ∧ mFit i v
/-- the rows of the model at a track -/
theorem mN.tr1 {X Y : XS} {d d' : DS} (hM : mN X d) {k i : Nat} (hk : k < 14) (hi : i < 4) (hkt : sTh d k = true) (e0 : sTh d' = sTh d) (eni : sNi d' = sNi d) (end_ : sNd d' = sNd d) (ech : sCh d' = sCh d) (epa : sPa d' = sPa d)
    (etn : ∀ c r, ¬ (c = k ∧ r = i) → sTn d' c r = sTn d c r ∧ sTt d' c r = sTt d c r ∧ sTv d' c r = sTv d c r) (hI' : ∀ j, j ≠ 10 → Y.1 j = X.1 j) (hD' : ∀ j, j ≠ 18 → j ≠ 19 → Y.2.1 j = X.2.1 j)
    (h10 : ∀ x, x ≠ k * 4 + i → Y.1 10 x = X.1 10 x) (h18 : ∀ x, (x < (k * 4 + i) * 4 ∨ (k * 4 + i) * 4 + 4 ≤ x) → Y.2.1 18 x = X.2.1 18 x ∧ Y.2.1 19 x = X.2.1 19 x) (hn : Y.1 10 (k * 4 + i) = nI (sTn d' k i) ∧ sTn d' k i ≤ 4) (hv : ∀ j, j < sTn d' k i → Y.2.1 18 ((k * 4 + i) * 4 + j) = sTt d' k i j ∧ Y.2.1 19 ((k * 4 + i) * 4 + j) = sTv d' k i j) : mN Y d' := by
  refine ⟨fun c hc => by rw [hI' 0 (by decide), e0]; exact hM.1 c hc, fun c hc hct => ?_⟩
  rw [e0] at hct
  obtain ⟨a1, a2, a3, a4, a5, a6, a7, a8, a9, a10, a11⟩ := hM.2 c hc hct
  unfold mN1
  rw [eni, end_, ech, epa, hI' 1 (by decide), hI' 4 (by decide), hI' 5 (by decide), hI' 9 (by decide), hI' 6 (by decide), hI' 7 (by decide), hI' 8 (by decide), hD' 14 (by decide) (by decide), hD' 15 (by decide) (by decide), hD' 16 (by decide) (by decide), hD' 17 (by decide) (by decide)]
  refine ⟨a1, a2, a3, a4, a5, a6, a7, fun r hr => ?_, a9, a10, fun r j hr hj => ?_⟩
  · by_cases q : c = k ∧ r = i
    · rw [q.1, q.2]; exact hn
    · rw [(etn c r q).1, h10 _ (fun e => q (by omega))]; exact a8 r hr
  · by_cases q : c = k ∧ r = i
    · rw [q.1, q.2] at hj ⊢; exact hv j hj
    · have h4 := (a8 r hr).2
      rw [(etn c r q).1] at hj
      rw [(etn c r q).2.1, (etn c r q).2.2, (h18 _ (by omega)).1, (h18 _ (by omega)).2]
      exact a11 r j hr hj
theorem mO.mv {X Y : XS} {d d' : DS} {dp : Nat → Nat} {L : List Nat} (h : mO X d dp L) (e0 : sTh d' = sTh d) (epa : sPa d' = sPa d) (h11 : Y.1 11 = X.1 11) (h13 : Y.1 13 = X.1 13) (hn : Y.2.2.1 = X.2.2.1) : mO Y d' dp L := by
  unfold mO at h ⊢
  rw [e0, epa, h11, h13, hn]
  exact h
theorem mC.mv {X Y : XS} {d d' : DS} (h : mC X d) (ec : sCl d' = sCl d) (ep : sPt d' = sPt d) (h24 : Y.1 24 = X.1 24) (hp : Y.2.2.2.1 = X.2.2.2.1) : mC Y d' := by
  unfold mC at h ⊢
  rw [ec, ep, h24, hp]
  exact h
theorem dKey_y {d : DS} {k i : Nat} {u v : UInt64} (h : kSame (sTt d k i) (sTn d k i) u) : dKey d k i u v = dTv (dTt d k i (vf_upd (sTt d k i) (kAt (sTt d k i) u (sTn d k i)) u)) k i (vf_upd (sTv d k i) (kAt (sTt d k i) u (sTn d k i)) v) := if_pos h
theorem dKey_n {d : DS} {k i : Nat} {u v : UInt64} (h : ¬ kSame (sTt d k i) (sTn d k i) u) : dKey d k i u v = dTn (dTv (dTt d k i (vf_upd (kSh (sTt d k i) (kAt (sTt d k i) u (sTn d k i)) (sTn d k i)) (kAt (sTt d k i) u (sTn d k i)) u)) k i (vf_upd (kSh (sTv d k i) (kAt (sTt d k i) u (sTn d k i)) (sTn d k i)) (kAt (sTt d k i) u (sTn d k i)) v)) k i (sTn d k i + 1) := if_neg h
theorem mN.keyS {X : XS} {d : DS} (hM : mN X d) {k i : Nat} (hk : k < 14) (hi : i < 4) (hkt : sTh d k = true) {u v : UInt64} (hs : kSame (sTt d k i) (sTn d k i) u) : mN (xsD (xsD X 18 (vf_upd (X.2.1 18) ((k * 4 + i) * 4 + kAt (sTt d k i) u (sTn d k i)) u)) 19 (vf_upd (X.2.1 19) ((k * 4 + i) * 4 + kAt (sTt d k i) u (sTn d k i)) v)) (dKey d k i u v) := by
  have h4 := hM.k4 hk hkt hi
  have hat := hs.1
  rw [dKey_y hs]
  obtain ⟨at9, eat⟩ : ∃ z9, z9 = kAt (sTt d k i) u (sTn d k i) := ⟨_, rfl⟩
  rw [← eat] at hat ⊢
  refine hM.tr1 hk hi hkt rfl rfl rfl rfl rfl (fun c r q => ⟨rfl, dTt_n q, dTv_n q⟩) (fun _ _ => rfl) (fun j h1 h2 => ?_) (fun _ _ => rfl) (fun x hx => ⟨?_, ?_⟩) ⟨hM.kn hk hkt hi, h4⟩ (fun j hj => ⟨?_, ?_⟩)
  · show fset (fset X.2.1 18 _) 19 _ j = _
    rw [fset_ne h2, fset_ne h1]
  · show vf_upd (X.2.1 18) _ u x = _
    exact vup_n (by omega)
  · show vf_upd (X.2.1 19) _ v x = _
    exact vup_n (by omega)
  · show vf_upd (X.2.1 18) ((k * 4 + i) * 4 + at9) u ((k * 4 + i) * 4 + j) = sTt (dTt d k i _) k i j
    rw [dTt_y]
    by_cases q : j = at9
    · rw [q, vup_y, vup_y]
    · rw [vup_n q, vup_n (by omega)]
      exact (hM.kv hk hkt hi hj).1
  · show vf_upd (X.2.1 19) ((k * 4 + i) * 4 + at9) v ((k * 4 + i) * 4 + j) = sTv (dTv _ k i _) k i j
    rw [dTv_y]
    by_cases q : j = at9
    · rw [q, vup_y, vup_y]
    · rw [vup_n q, vup_n (by omega)]
      exact (hM.kv hk hkt hi hj).2
theorem kSh_at {f g : Nat → UInt64} {b a n j : Nat} (h : ∀ j, j < n → f (b + j) = g j) (ha : a ≤ n) (hj : j ≤ n) (hja : j ≠ a) : kSh f (b + a) (b + n) (b + j) = kSh g a n j := by
  unfold kSh
  by_cases q : a < j
  · rw [if_pos (by omega), if_pos (by omega), show b + j - 1 = b + (j - 1) by omega]
    exact h (j - 1) (by omega)
  · rw [if_neg (by omega), if_neg (by omega)]
    exact h j (by omega)
theorem mN.keyN {X : XS} {d : DS} (hM : mN X d) {k i : Nat} (hk : k < 14) (hi : i < 4) (hkt : sTh d k = true) {u v : UInt64} (hs : ¬ kSame (sTt d k i) (sTn d k i) u) (h44 : sTn d k i ≠ 4) : mN (xsD (xsD (xsI X 10 (upd (X.1 10) (k * 4 + i) (nI (sTn d k i + 1)))) 18 (vf_upd (kSh (X.2.1 18) ((k * 4 + i) * 4 + kAt (sTt d k i) u (sTn d k i)) ((k * 4 + i) * 4 + sTn d k i)) ((k * 4 + i) * 4 + kAt (sTt d k i) u (sTn d k i)) u)) 19 (vf_upd (kSh (X.2.1 19) ((k * 4 + i) * 4 + kAt (sTt d k i) u (sTn d k i)) ((k * 4 + i) * 4 + sTn d k i)) ((k * 4 + i) * 4 + kAt (sTt d k i) u (sTn d k i)) v)) (dKey d k i u v) := by
  have h4 := hM.k4 hk hkt hi
  have hat := kAt_le (sTt d k i) u (sTn d k i)
  rw [dKey_n hs]
  obtain ⟨at9, eat⟩ : ∃ z9, z9 = kAt (sTt d k i) u (sTn d k i) := ⟨_, rfl⟩
  rw [← eat] at hat ⊢
  refine hM.tr1 hk hi hkt rfl rfl rfl rfl rfl (fun c r q => ⟨dTn_n q, dTt_n q, dTv_n q⟩) (fun j h1 => ?_) (fun j h1 h2 => ?_) (fun x hx => ?_) (fun x hx => ⟨?_, ?_⟩) ⟨?_, ?_⟩ (fun j hj => ?_)
  · show fset X.1 10 _ j = _
    exact fset_ne h1
  · show fset (fset X.2.1 18 _) 19 _ j = _
    rw [fset_ne h2, fset_ne h1]
  · show upd (X.1 10) _ _ x = _
    exact upd_n hx
  · show vf_upd (kSh (X.2.1 18) _ _) _ u x = _
    rw [vup_n (by omega)]
    exact if_neg (by omega)
  · show vf_upd (kSh (X.2.1 19) _ _) _ v x = _
    rw [vup_n (by omega)]
    exact if_neg (by omega)
  · show upd (X.1 10) (k * 4 + i) (nI (sTn d k i + 1)) (k * 4 + i) = _
    rw [upd_y, dTn_y]
  · rw [dTn_y]; omega
  · rw [dTn_y] at hj
    constructor
    · show vf_upd (kSh (X.2.1 18) ((k * 4 + i) * 4 + at9) ((k * 4 + i) * 4 + sTn d k i)) ((k * 4 + i) * 4 + at9) u ((k * 4 + i) * 4 + j) = sTt (dTt d k i _) k i j
      rw [dTt_y]
      by_cases q : j = at9
      · rw [q, vup_y, vup_y]
      · rw [vup_n q, vup_n (by omega)]
        exact kSh_at (fun j hj => (hM.kv hk hkt hi hj).1) hat (by omega) q
    · show vf_upd (kSh (X.2.1 19) ((k * 4 + i) * 4 + at9) ((k * 4 + i) * 4 + sTn d k i)) ((k * 4 + i) * 4 + at9) v ((k * 4 + i) * 4 + j) = sTv (dTv _ k i _) k i j
      rw [dTv_y]
      by_cases q : j = at9
      · rw [q, vup_y, vup_y]
      · rw [vup_n q, vup_n (by omega)]
        exact kSh_at (fun j hj => (hM.kv hk hkt hi hj).2) hat (by omega) q
theorem dKey_o {d : DS} {k i : Nat} {u v : UInt64} : sTh (dKey d k i u v) = sTh d ∧ sPa (dKey d k i u v) = sPa d ∧ sCl (dKey d k i u v) = sCl d ∧ sPt (dKey d k i u v) = sPt d := by
  rcases Classical.em (kSame (sTt d k i) (sTn d k i) u) with h | h
  · rw [dKey_y h]; exact ⟨rfl, rfl, rfl, rfl⟩
  · rw [dKey_n h]; exact ⟨rfl, rfl, rfl, rfl⟩
set_option maxHeartbeats 4000000 in
set_option maxRecDepth 100000 in
theorem m_Mo_key (l : Launch) (G : EG) (S0 : Nat) (Q : Nat → Nat) (hQ : qInj Q) (X : XS) (w0 : hp_M) (d : DS) (dp : Nat → Nat) (hM : mN X d) (L : List Nat) (hO : mO X d dp L) (hC : mC X d) (n pr : Int32) (u v : UInt64) : Met l y_Mo_key w_Mo_key (rl 2 0 0) (eP G S0 (mW G Q X w0) [.ref (Q 25), .int n, .int pr, .double u, .double v]) (va_Qi (fun r z => (¬ (∃ k i, mOkK d n pr u v k i) ∧ z = mW G Q (xsT X 1) w0) ∨ ∃ k i, mOkK d n pr u v k i ∧ ((¬ kSame (sTt d k i) (sTn d k i) u ∧ sTn d k i = 4 ∧ z = mW G Q (xsT X 2) w0) ∨ ((kSame (sTt d k i) (sTn d k i) u ∨ sTn d k i ≠ 4) ∧ r = nI (sTn (dKey d k i u v) k i) ∧ ∃ Y, z = mW G Q Y w0 ∧ mP Y (dKey d k i u v) dp ∧ Y.2.2.2.2 = 0))) (eW G S0) (hp_A S0)) 0 0 (hp_A S0) := by
  refine Met.ofW (cc := b_Mo_key) (maxL := 11) (ret := (some .int)) (by decide) rfl ?_
  intro p e s m args below meth c s₁ B hml hv
  obtain ⟨rfl, hE, hI, hz⟩ := hv
  have hx := B.exec
  have hb := B.bytes
  have hr := B.returns
  have hts := atoms_spec (ws := w_Mo_key) B.pre
  have hg : ∀ w ∈ gw, w.before _ s = true := fun w h => hts w (List.mem_cons_of_mem _ h)
  have hown : s.vm.findClass "SceneEaselModel" = some m.cls := findClass_of_methodNamed B.named
  have hlocks := B.notSynchronized
  have hK := hE.K
  have hS : va_S (hp_A S0) s.heap s.heap [] := va_S.rf
  have hl := lv_entry ([.ref (Q 25), .int n, .int pr, .double u, .double v]) (n := 11) (Nat.le_of_ble_eq_true rfl)
  rw [lg_entry_eq]
  generalize (lg_sl ([.ref (Q 25), .int n, .int pr, .double u, .double v]) ++ List.replicate (11 - (lg_sl ([.ref (Q 25), .int n, .int pr, .double u, .double v])).length) Slot.unset).toArray = ls at hl ⊢
  have hl : lv_has ls 11 [(0, .ref (Q 25)), (1, .int n), (2, .int pr), (3, .double u), (5, .double v)] := hl
  refine lv_aload_n hx hb d_Mo_key_0 rfl (lv_at hl 0 rfl) ?_
  refine lv_aload_n hx hb d_Mo_key_1 rfl (lv_at hl 0 rfl) ?_
  refine lv_iload_n hx hb d_Mo_key_2 rfl (lv_at hl 1 rfl) ?_
  refine W.midw (G := G) (S0 := S0) (fun (b : Bool) => b = true ↔ ∃ k i, mOkK d n pr u v k i) (fun (b : Bool) => (mW G Q X w0)) (fun (b : Bool) => [(0, .ref (Q 25)), (1, .int n), (2, .int pr), (3, .double u), (5, .double v)]) (fun (b : Bool) => 0) (fun (b : Bool) => 0) 11 43 (fun (b : Bool) => [.int (bI b), .ref (Q 25)]) ?_ (fun K => ?_)
  · rintro b ls H locs hP hl hI hS
    try dsimp only at hP hl hI ⊢
    refine ec_i (va_runV (As := [.int (bI b)]) (rest := []) ⟨hx, hb, hml, hown, hts⟩ (m_Mo_bad l G S0 Q hQ X w0 b) (cwV 1 hts (gw_V k_875 k_877 k_45 k_67 k_878) rfl rfl rfl (by decide +kernel) ⟨Nat.le_of_ble_eq_true rfl, Nat.le_of_ble_eq_true rfl⟩) (eB.preV hE hI hS hz rfl (mw_o hQ)) rfl rfl hl.1 rfl (lv_room (Nat.le_of_ble_eq_true rfl)) d_Mo_key_43 ⟨Nat.le_of_ble_eq_true rfl, Nat.le_of_ble_eq_true rfl⟩) hS (fun rb w_1 H locs ew_1 hI hsz hS => ?_)
    obtain ⟨erb, ew_1⟩ := ew_1
    subst ew_1
    subst erb
    refine mv_zeq (tgt := 51) hx hb (!b) rfl d_Mo_key_46 (by decide) (fun cb => ?_) (fun cb => ?_)
    · have hbt : b = true := by cases b with | true => rfl | false => cases cb
      obtain ⟨k, i, hok⟩ := hP.mp hbt
      have hok' := hok
      obtain ⟨hk, ek, ht, hk0, hi, ei, hiu, hfv⟩ := hok'
      have h4 := hM.k4 hk ht hi
      rw [ek, ei] at hl
      have ebt : bI (!b) = 0 := by rw [hbt]; rfl
      rw [ebt] at hI
      obtain ⟨c0, ec0⟩ : ∃ z9, z9 = sTn d k i := ⟨_, rfl⟩
      rw [← ec0] at h4
      refine lv_iload_n hx hb d_Mo_key_51 rfl (lv_at hl 1 rfl) ?_
      refine lv_iconst (v := 4) hx hb d_Mo_key_52 (by decide) ?_
      refine mv_imul hx hb k 4 rfl rfl d_Mo_key_53 ?_
      refine lv_iload_n hx hb d_Mo_key_54 rfl (lv_at hl 2 rfl) ?_
      refine mv_iadd hx hb (k * 4) i rfl rfl d_Mo_key_55 ?_
      refine lv_istore (lv' := [(7, .int (nI (k * 4 + i))), (0, .ref (Q 25)), (1, .int (nI k)), (2, .int (nI i)), (3, .double u), (5, .double v)]) hx hb d_Mo_key_56 hl (by decide) rfl (fun ls hl => ?_)
      refine lv_iconst (v := 0) hx hb d_Mo_key_58 (by decide) ?_
      refine lv_istore (lv' := [(8, .int 0), (7, .int (nI (k * 4 + i))), (0, .ref (Q 25)), (1, .int (nI k)), (2, .int (nI i)), (3, .double u), (5, .double v)]) hx hb d_Mo_key_59 hl (by decide) rfl (fun ls hl => ?_)
      refine W.midw (G := G) (S0 := S0) (fun (u9 : Unit) => True) (fun (u9 : Unit) => (mW G Q (xsT X 0) w0)) (fun (u9 : Unit) => [(8, .int (nI (kAt (sTt d k i) u c0))), (7, .int (nI (k * 4 + i))), (0, .ref (Q 25)), (1, .int (nI k)), (2, .int (nI i)), (3, .double u), (5, .double v)]) (fun (u9 : Unit) => 0) (fun (u9 : Unit) => 0) 11 96 (fun (u9 : Unit) => []) ?_ (fun A => ?_)
      · rintro u9 ls H locs hP hl hI hS
        try dsimp only at hP hl hI ⊢
        have hat := kAt_le (sTt d k i) u c0
        obtain ⟨at9, eat⟩ : ∃ z9, z9 = kAt (sTt d k i) u c0 := ⟨_, rfl⟩
        rw [← eat] at hl hat
        refine lv_iload hx hb d_Mo_key_96 (lv_at hl 0 rfl) ?_
        refine lv_aload_n hx hb d_Mo_key_98 rfl (lv_at hl 2 rfl) ?_
        refine hp_get (ci := 5) (v := .ref (Q 10)) (C := R_Mo) (T := F_Mo) (N := 28) hx hb hg i_Mo hown hK hI (mw_o hQ) rfl 10 (by decide) (hg _ k_783) (fun _ h9 => h9) rfl d_Mo_key_99 ?_
        refine lv_iload hx hb d_Mo_key_102 (lv_at hl 1 rfl) ?_
        refine mv_iald hx hb hK hI 0 (X.1 10) (mw_10 hQ) rfl (k * 4 + i) (rfl) (by omega) (by decide) d_Mo_key_104 ?_
        refine mv_i (y := nI c0) ((hM.kn hk ht hi).trans (by rw [ec0])) ?_
        refine W.midw (G := G) (S0 := S0) (fun (s9 : Bool) => s9 = true ↔ kSame (sTt d k i) (sTn d k i) u) (fun (s9 : Bool) => (mW G Q (xsT X 0) w0)) (fun (s9 : Bool) => [(8, .int (nI at9)), (7, .int (nI (k * 4 + i))), (0, .ref (Q 25)), (1, .int (nI k)), (2, .int (nI i)), (3, .double u), (5, .double v)]) (fun (s9 : Bool) => 0) (fun (s9 : Bool) => 0) 11 130 (fun (s9 : Bool) => [.int (bI s9)]) ?_ (fun B => ?_)
        · rintro s9 ls H locs hP hl hI hS
          try dsimp only at hP hl hI ⊢
          refine W.midw (G := G) (S0 := S0) (fun (q : (Nat → Int32) × (Nat → UInt64) × (Nat → UInt64)) => match q with | (f10, a, b) => (kSame (sTt d k i) (sTn d k i) u ∧ f10 = X.1 10 ∧ a = X.2.1 18 ∧ b = X.2.1 19) ∨ (¬ kSame (sTt d k i) (sTn d k i) u ∧ sTn d k i ≠ 4 ∧ f10 = upd (X.1 10) (k * 4 + i) (nI (c0 + 1)) ∧ a = kSh (X.2.1 18) ((k * 4 + i) * 4 + at9) ((k * 4 + i) * 4 + c0) ∧ b = kSh (X.2.1 19) ((k * 4 + i) * 4 + at9) ((k * 4 + i) * 4 + c0))) (fun (q : (Nat → Int32) × (Nat → UInt64) × (Nat → UInt64)) => match q with | (f10, a, b) => mW G Q (xsD (xsD (xsI (xsT X 0) 10 f10) 18 a) 19 b) w0) (fun (q : (Nat → Int32) × (Nat → UInt64) × (Nat → UInt64)) => match q with | (f10, a, b) => [(8, .int (nI at9)), (7, .int (nI (k * 4 + i))), (0, .ref (Q 25)), (1, .int (nI k)), (2, .int (nI i)), (3, .double u), (5, .double v)]) (fun (q : (Nat → Int32) × (Nat → UInt64) × (Nat → UInt64)) => match q with | (f10, a, b) => 0) (fun (q : (Nat → Int32) × (Nat → UInt64) × (Nat → UInt64)) => match q with | (f10, a, b) => 0) 11 245 (fun (q : (Nat → Int32) × (Nat → UInt64) × (Nat → UInt64)) => match q with | (f10, a, b) => []) ?_ (fun C => ?_)
          · rintro ⟨f10, a, b⟩ ls H locs hP hl hI hS
            try dsimp only at hP hl hI ⊢
            rcases hP with ⟨hs, e1, e2, e3⟩ | ⟨hs, h44, e1, e2, e3⟩
            · have hat2 : at9 < c0 := by rw [eat, ec0]; exact hs.1
              refine lv_aload_n hx hb d_Mo_key_245 rfl (lv_at hl 2 rfl) ?_
              refine hp_get (ci := 5) (v := .ref (Q 18)) (C := R_Mo) (T := F_Mo) (N := 28) hx hb hg i_Mo hown hK hI (mw_o hQ) rfl 18 (by decide) (hg _ k_791) (fun _ h9 => h9) rfl d_Mo_key_246 ?_
              refine lv_iload hx hb d_Mo_key_249 (lv_at hl 1 rfl) ?_
              refine lv_iconst (v := 4) hx hb d_Mo_key_251 (by decide) ?_
              refine mv_imul hx hb (k * 4 + i) 4 rfl rfl d_Mo_key_252 ?_
              refine lv_iload hx hb d_Mo_key_253 (lv_at hl 0 rfl) ?_
              refine mv_iadd hx hb ((k * 4 + i) * 4) at9 rfl rfl d_Mo_key_255 ?_
              refine lv_dload_n hx hb d_Mo_key_256 rfl (lv_at hl 5 rfl) ?_
              refine mv_dast hx hb hK hI hS 1 ((xsD (xsD (xsI (xsT X 0) 10 f10) 18 a) 19 b).2.1 18) (mw_18 hQ) rfl ((k * 4 + i) * 4 + at9) (fun f9 => mW G Q (xsD (xsD (xsD (xsI (xsT X 0) 10 f10) 18 a) 19 b) 18 f9) w0) (fun _ => mws_18 hQ) (rfl) (by omega) (by decide) d_Mo_key_257 (fun H locs f_1 ef_1 hI hS hsz => ?_)
              try dsimp only at hI
              refine lv_aload_n hx hb d_Mo_key_258 rfl (lv_at hl 2 rfl) ?_
              refine hp_get (ci := 5) (v := .ref (Q 19)) (C := R_Mo) (T := F_Mo) (N := 28) hx hb hg i_Mo hown hK hI (mw_o hQ) rfl 19 (by decide) (hg _ k_792) (fun _ h9 => h9) rfl d_Mo_key_259 ?_
              refine lv_iload hx hb d_Mo_key_262 (lv_at hl 1 rfl) ?_
              refine lv_iconst (v := 4) hx hb d_Mo_key_264 (by decide) ?_
              refine mv_imul hx hb (k * 4 + i) 4 rfl rfl d_Mo_key_265 ?_
              refine lv_iload hx hb d_Mo_key_266 (lv_at hl 0 rfl) ?_
              refine mv_iadd hx hb ((k * 4 + i) * 4) at9 rfl rfl d_Mo_key_268 ?_
              refine lv_dload hx hb d_Mo_key_269 (lv_at hl 6 rfl) ?_
              refine mv_dast hx hb hK hI hS 1 ((xsD (xsD (xsI (xsT X 0) 10 f10) 18 a) 19 b).2.1 19) (mw_19 hQ) rfl ((k * 4 + i) * 4 + at9) (fun f9 => mW G Q (xsD (xsD (xsD (xsD (xsI (xsT X 0) 10 f10) 18 a) 19 b) 18 f_1) 19 f9) w0) (fun _ => mws_19 hQ) (rfl) (by omega) (by decide) d_Mo_key_271 (fun H locs f_2 ef_2 hI hS hsz => ?_)
              try dsimp only at hI
              refine lv_aload_n hx hb d_Mo_key_272 rfl (lv_at hl 2 rfl) ?_
              refine hp_get (ci := 5) (v := .ref (Q 10)) (C := R_Mo) (T := F_Mo) (N := 28) hx hb hg i_Mo hown hK hI (mw_o hQ) rfl 10 (by decide) (hg _ k_783) (fun _ h9 => h9) rfl d_Mo_key_273 ?_
              refine lv_iload hx hb d_Mo_key_276 (lv_at hl 1 rfl) ?_
              refine mv_iald hx hb hK hI 0 ((xsD (xsD (xsI (xsT X 0) 10 f10) 18 a) 19 b).1 10) (mw_10 hQ) rfl (k * 4 + i) (rfl) (by omega) (by decide) d_Mo_key_278 ?_
              have hM' := (hM.T (v := 0)).keyS (v := v) hk hi ht hs
              rw [← ec0, ← eat] at hM'
              have eY : xsD (xsD (xsD (xsD (xsI (xsT X 0) 10 f10) 18 a) 19 b) 18 f_1) 19 f_2 = xsD (xsD (xsT X 0) 18 (vf_upd (X.2.1 18) ((k * 4 + i) * 4 + at9) u)) 19 (vf_upd (X.2.1 19) ((k * 4 + i) * 4 + at9) v) := by
                rw [xd_dd (by decide), e1, show xsI (xsT X 0) 10 (X.1 10) = xsT X 0 from xi_same (X := xsT X 0), ef_1, ef_2]
                show xsD (xsD (xsT X 0) 18 (vf_upd a _ u)) 19 (vf_upd b _ v) = _
                rw [e2, e3]
              have hM' : mN ((xsD (xsD (xsD (xsD (xsI (xsT X 0) 10 f10) 18 a) 19 b) 18 f_1) 19 f_2)) (dKey d k i u v) := by rw [eY]; exact hM'
              exact W.iret (v := (((xsD (xsD (xsI (xsT X 0) 10 f10) 18 a) 19 b).1 10) (k * 4 + i))) hx hb hr (fun t9 ht9 hW9 => ⟨⟨(((xsD (xsD (xsI (xsT X 0) 10 f10) 18 a) 19 b).1 10) (k * 4 + i)), (mW G Q (xsD (xsD (xsD (xsD (xsI (xsT X 0) 10 f10) 18 a) 19 b) 18 f_1) 19 f_2) w0), rfl, Or.inr ⟨k, i, hok, Or.inr ⟨Or.inl hs, by show f10 (k * 4 + i) = _; rw [e1, hM.kn hk ht hi, dKey_y hs]; rfl, (xsD (xsD (xsD (xsD (xsI (xsT X 0) 10 f10) 18 a) 19 b) 18 f_1) 19 f_2), rfl, ⟨hM', ⟨L, hO.mv dKey_o.1 dKey_o.2.1 rfl rfl rfl⟩, hC.mv dKey_o.2.2.1 dKey_o.2.2.2 rfl rfl⟩, rfl⟩⟩, eWo ht9 hI⟩, hS.F ht9⟩) hS.2.2 d_Mo_key_279
            · have hat2 : at9 < 4 := by have := h44; omega
              refine lv_aload_n hx hb d_Mo_key_245 rfl (lv_at hl 2 rfl) ?_
              refine hp_get (ci := 5) (v := .ref (Q 18)) (C := R_Mo) (T := F_Mo) (N := 28) hx hb hg i_Mo hown hK hI (mw_o hQ) rfl 18 (by decide) (hg _ k_791) (fun _ h9 => h9) rfl d_Mo_key_246 ?_
              refine lv_iload hx hb d_Mo_key_249 (lv_at hl 1 rfl) ?_
              refine lv_iconst (v := 4) hx hb d_Mo_key_251 (by decide) ?_
              refine mv_imul hx hb (k * 4 + i) 4 rfl rfl d_Mo_key_252 ?_
              refine lv_iload hx hb d_Mo_key_253 (lv_at hl 0 rfl) ?_
              refine mv_iadd hx hb ((k * 4 + i) * 4) at9 rfl rfl d_Mo_key_255 ?_
              refine lv_dload_n hx hb d_Mo_key_256 rfl (lv_at hl 5 rfl) ?_
              refine mv_dast hx hb hK hI hS 1 ((xsD (xsD (xsI (xsT X 0) 10 f10) 18 a) 19 b).2.1 18) (mw_18 hQ) rfl ((k * 4 + i) * 4 + at9) (fun f9 => mW G Q (xsD (xsD (xsD (xsI (xsT X 0) 10 f10) 18 a) 19 b) 18 f9) w0) (fun _ => mws_18 hQ) (rfl) (by omega) (by decide) d_Mo_key_257 (fun H locs f_3 ef_3 hI hS hsz => ?_)
              try dsimp only at hI
              refine lv_aload_n hx hb d_Mo_key_258 rfl (lv_at hl 2 rfl) ?_
              refine hp_get (ci := 5) (v := .ref (Q 19)) (C := R_Mo) (T := F_Mo) (N := 28) hx hb hg i_Mo hown hK hI (mw_o hQ) rfl 19 (by decide) (hg _ k_792) (fun _ h9 => h9) rfl d_Mo_key_259 ?_
              refine lv_iload hx hb d_Mo_key_262 (lv_at hl 1 rfl) ?_
              refine lv_iconst (v := 4) hx hb d_Mo_key_264 (by decide) ?_
              refine mv_imul hx hb (k * 4 + i) 4 rfl rfl d_Mo_key_265 ?_
              refine lv_iload hx hb d_Mo_key_266 (lv_at hl 0 rfl) ?_
              refine mv_iadd hx hb ((k * 4 + i) * 4) at9 rfl rfl d_Mo_key_268 ?_
              refine lv_dload hx hb d_Mo_key_269 (lv_at hl 6 rfl) ?_
              refine mv_dast hx hb hK hI hS 1 ((xsD (xsD (xsI (xsT X 0) 10 f10) 18 a) 19 b).2.1 19) (mw_19 hQ) rfl ((k * 4 + i) * 4 + at9) (fun f9 => mW G Q (xsD (xsD (xsD (xsD (xsI (xsT X 0) 10 f10) 18 a) 19 b) 18 f_3) 19 f9) w0) (fun _ => mws_19 hQ) (rfl) (by omega) (by decide) d_Mo_key_271 (fun H locs f_4 ef_4 hI hS hsz => ?_)
              try dsimp only at hI
              refine lv_aload_n hx hb d_Mo_key_272 rfl (lv_at hl 2 rfl) ?_
              refine hp_get (ci := 5) (v := .ref (Q 10)) (C := R_Mo) (T := F_Mo) (N := 28) hx hb hg i_Mo hown hK hI (mw_o hQ) rfl 10 (by decide) (hg _ k_783) (fun _ h9 => h9) rfl d_Mo_key_273 ?_
              refine lv_iload hx hb d_Mo_key_276 (lv_at hl 1 rfl) ?_
              refine mv_iald hx hb hK hI 0 ((xsD (xsD (xsI (xsT X 0) 10 f10) 18 a) 19 b).1 10) (mw_10 hQ) rfl (k * 4 + i) (rfl) (by omega) (by decide) d_Mo_key_278 ?_
              have hM' := (hM.T (v := 0)).keyN (u := u) (v := v) hk hi ht hs h44
              rw [← ec0, ← eat] at hM'
              have eY : xsD (xsD (xsD (xsD (xsI (xsT X 0) 10 f10) 18 a) 19 b) 18 f_3) 19 f_4 = xsD (xsD (xsI (xsT X 0) 10 (upd (X.1 10) (k * 4 + i) (nI (c0 + 1)))) 18 (vf_upd (kSh (X.2.1 18) ((k * 4 + i) * 4 + at9) ((k * 4 + i) * 4 + c0)) ((k * 4 + i) * 4 + at9) u)) 19 (vf_upd (kSh (X.2.1 19) ((k * 4 + i) * 4 + at9) ((k * 4 + i) * 4 + c0)) ((k * 4 + i) * 4 + at9) v) := by
                rw [xd_dd (by decide), e1, ef_3, ef_4]
                show xsD (xsD (xsI (xsT X 0) 10 _) 18 (vf_upd a _ u)) 19 (vf_upd b _ v) = _
                rw [e2, e3]
              have hM' : mN ((xsD (xsD (xsD (xsD (xsI (xsT X 0) 10 f10) 18 a) 19 b) 18 f_3) 19 f_4)) (dKey d k i u v) := by rw [eY]; exact hM'
              exact W.iret (v := (((xsD (xsD (xsI (xsT X 0) 10 f10) 18 a) 19 b).1 10) (k * 4 + i))) hx hb hr (fun t9 ht9 hW9 => ⟨⟨(((xsD (xsD (xsI (xsT X 0) 10 f10) 18 a) 19 b).1 10) (k * 4 + i)), (mW G Q (xsD (xsD (xsD (xsD (xsI (xsT X 0) 10 f10) 18 a) 19 b) 18 f_3) 19 f_4) w0), rfl, Or.inr ⟨k, i, hok, Or.inr ⟨Or.inr h44, by show f10 (k * 4 + i) = _; rw [e1, upd_y, dKey_n hs, dTn_y, ec0], (xsD (xsD (xsD (xsD (xsI (xsT X 0) 10 f10) 18 a) 19 b) 18 f_3) 19 f_4), rfl, ⟨hM', ⟨L, hO.mv dKey_o.1 dKey_o.2.1 rfl rfl rfl⟩, hC.mv dKey_o.2.2.1 dKey_o.2.2.2 rfl rfl⟩, rfl⟩⟩, eWo ht9 hI⟩, hS.F ht9⟩) hS.2.2 d_Mo_key_279
          · refine lv_istore (lv' := [(9, .int (bI s9)), (8, .int (nI at9)), (7, .int (nI (k * 4 + i))), (0, .ref (Q 25)), (1, .int (nI k)), (2, .int (nI i)), (3, .double u), (5, .double v)]) hx hb d_Mo_key_130 hl (by decide) rfl (fun ls hl => ?_)
            refine lv_iload hx hb d_Mo_key_132 (lv_at hl 0 rfl) ?_
            refine mv_zne (tgt := 155) hx hb s9 rfl d_Mo_key_134 (by decide) (fun c1 => ?_) (fun c1 => ?_)
            · have hs := hP.mp c1
              refine lv_iload hx hb d_Mo_key_155 (lv_at hl 0 rfl) ?_
              refine mv_zne (tgt := 245) hx hb s9 rfl d_Mo_key_157 (by decide) (fun c2 => ?_) (fun c2 => ?_)
              · have hI : eI G S0 (mW G Q (xsD (xsD (xsI (xsT X 0) 10 (X.1 10)) 18 (X.2.1 18)) 19 (X.2.1 19)) w0) H := by rw [show xsI (xsT X 0) 10 (X.1 10) = xsT X 0 from xi_same (X := xsT X 0), show xsD (xsT X 0) 18 (X.2.1 18) = xsT X 0 from xs_same (X := xsT X 0), show xsD (xsT X 0) 19 (X.2.1 19) = xsT X 0 from xs_same (X := xsT X 0)]; exact hI
                exact C ((X.1 10, X.2.1 18, X.2.1 19)) _ _ _ (Or.inl ⟨hs, rfl, rfl, rfl⟩) (lv_sub hl [1, 2, 3, 4, 5, 6, 7] rfl) hI hS
              · exact absurd (c1.symm.trans c2) (by decide)
            · have hs : ¬ kSame (sTt d k i) (sTn d k i) u := fun h => absurd (hP.mpr h) (by rw [c1]; decide)
              refine lv_aload_n hx hb d_Mo_key_137 rfl (lv_at hl 3 rfl) ?_
              refine hp_get (ci := 5) (v := .ref (Q 10)) (C := R_Mo) (T := F_Mo) (N := 28) hx hb hg i_Mo hown hK hI (mw_o hQ) rfl 10 (by decide) (hg _ k_783) (fun _ h9 => h9) rfl d_Mo_key_138 ?_
              refine lv_iload hx hb d_Mo_key_141 (lv_at hl 2 rfl) ?_
              refine mv_iald hx hb hK hI 0 (X.1 10) (mw_10 hQ) rfl (k * 4 + i) (rfl) (by omega) (by decide) d_Mo_key_143 ?_
              refine mv_i (y := nI c0) ((hM.kn hk ht hi).trans (by rw [ec0])) ?_
              refine lv_iconst (v := 4) hx hb d_Mo_key_144 (by decide) ?_
              refine mv_cne (tgt := 155) hx hb c0 4 rfl rfl (by omega) (by omega) d_Mo_key_145 (by decide) (fun c2 => ?_) (fun c2 => ?_)
              · refine lv_iload hx hb d_Mo_key_155 (lv_at hl 0 rfl) ?_
                refine mv_zne (tgt := 245) hx hb s9 rfl d_Mo_key_157 (by decide) (fun c3 => ?_) (fun c3 => ?_)
                · exact absurd (c1.symm.trans c3) (by decide)
                refine lv_aload_n hx hb d_Mo_key_160 rfl (lv_at hl 3 rfl) ?_
                refine hp_get (ci := 5) (v := .ref (Q 10)) (C := R_Mo) (T := F_Mo) (N := 28) hx hb hg i_Mo hown hK hI (mw_o hQ) rfl 10 (by decide) (hg _ k_783) (fun _ h9 => h9) rfl d_Mo_key_161 ?_
                refine lv_iload hx hb d_Mo_key_164 (lv_at hl 2 rfl) ?_
                refine mv_iald hx hb hK hI 0 (X.1 10) (mw_10 hQ) rfl (k * 4 + i) (rfl) (by omega) (by decide) d_Mo_key_166 ?_
                refine mv_i (y := nI c0) ((hM.kn hk ht hi).trans (by rw [ec0])) ?_
                refine lv_istore (lv' := [(10, .int (nI c0)), (9, .int (bI s9)), (8, .int (nI at9)), (7, .int (nI (k * 4 + i))), (0, .ref (Q 25)), (1, .int (nI k)), (2, .int (nI i)), (3, .double u), (5, .double v)]) hx hb d_Mo_key_167 hl (by decide) rfl (fun ls hl => ?_)
                have hI : eI G S0 (mW G Q (xsD (xsD (xsT X 0) 18 (kSh (X.2.1 18) ((k * 4 + i) * 4 + c0) ((k * 4 + i) * 4 + c0))) 19 (kSh (X.2.1 19) ((k * 4 + i) * 4 + c0) ((k * 4 + i) * 4 + c0))) w0) H := by rw [kSh_id, kSh_id, show xsD (xsT X 0) 18 (X.2.1 18) = xsT X 0 from xs_same (X := xsT X 0), show xsD (xsT X 0) 19 (X.2.1 19) = xsT X 0 from xs_same (X := xsT X 0)]; exact hI
                refine W.lpw (fun j (q9 : Nat) => at9 ≤ q9 ∧ q9 ≤ c0 ∧ j = q9) (fun (q9 : Nat) => mW G Q (xsD (xsD (xsT X 0) 18 (kSh (X.2.1 18) ((k * 4 + i) * 4 + q9) ((k * 4 + i) * 4 + c0))) 19 (kSh (X.2.1 19) ((k * 4 + i) * 4 + q9) ((k * 4 + i) * 4 + c0))) w0) (fun (q9 : Nat) => [(10, .int (nI q9)), (8, .int (nI at9)), (7, .int (nI (k * 4 + i))), (0, .ref (Q 25)), (1, .int (nI k)), (2, .int (nI i)), (3, .double u), (5, .double v), (9, .int (bI s9))]) (fun (q9 : Nat) => 0) (fun (q9 : Nat) => 0) 11 169 (fun (q9 : Nat) => []) (c0) (c0) (⟨hat, Nat.le_refl _, rfl⟩) (lv_sub hl [0, 2, 3, 4, 5, 6, 7, 8, 1] rfl) hI hS ?_
                rintro j q9 ls H locs hP hl hI hS W9
                try dsimp only at hP hl hI ⊢
                obtain ⟨h1, h2, ej⟩ := hP
                refine lv_iload hx hb d_Mo_key_169 (lv_at hl 0 rfl) ?_
                refine lv_iload hx hb d_Mo_key_171 (lv_at hl 1 rfl) ?_
                refine mv_cle (tgt := 234) hx hb q9 at9 rfl rfl (by omega) (by omega) d_Mo_key_173 (by decide) (fun c4 => ?_) (fun c4 => ?_)
                · obtain rfl : q9 = at9 := by omega
                  refine lv_aload_n hx hb d_Mo_key_234 rfl (lv_at hl 3 rfl) ?_
                  refine hp_get (ci := 5) (v := .ref (Q 10)) (C := R_Mo) (T := F_Mo) (N := 28) hx hb hg i_Mo hown hK hI (mw_o hQ) rfl 10 (by decide) (hg _ k_783) (fun _ h9 => h9) rfl d_Mo_key_235 ?_
                  refine lv_iload hx hb d_Mo_key_238 (lv_at hl 2 rfl) ?_
                  refine lv_dup2_11 hx hb d_Mo_key_240 rfl rfl ?_
                  refine mv_iald hx hb hK hI 0 ((xsD (xsD (xsT X 0) 18 (kSh (X.2.1 18) ((k * 4 + i) * 4 + q9) ((k * 4 + i) * 4 + c0))) 19 (kSh (X.2.1 19) ((k * 4 + i) * 4 + q9) ((k * 4 + i) * 4 + c0))).1 10) (mw_10 hQ) rfl (k * 4 + i) (rfl) (by omega) (by decide) d_Mo_key_241 ?_
                  refine mv_i (y := nI c0) ((hM.kn hk ht hi).trans (by rw [ec0])) ?_
                  refine lv_iconst (v := 1) hx hb d_Mo_key_242 (by decide) ?_
                  refine mv_iadd hx hb c0 1 rfl rfl d_Mo_key_243 ?_
                  refine mv_iast hx hb hK hI hS 0 ((xsD (xsD (xsT X 0) 18 (kSh (X.2.1 18) ((k * 4 + i) * 4 + q9) ((k * 4 + i) * 4 + c0))) 19 (kSh (X.2.1 19) ((k * 4 + i) * 4 + q9) ((k * 4 + i) * 4 + c0))).1 10) (mw_10 hQ) rfl (k * 4 + i) (fun f9 => mW G Q (xsI (xsD (xsD (xsT X 0) 18 (kSh (X.2.1 18) ((k * 4 + i) * 4 + q9) ((k * 4 + i) * 4 + c0))) 19 (kSh (X.2.1 19) ((k * 4 + i) * 4 + q9) ((k * 4 + i) * 4 + c0))) 10 f9) w0) (fun _ => mws_10 hQ) (rfl) (by omega) (by decide) d_Mo_key_244 (fun H locs f_5 ef_5 hI hS hsz => ?_)
                  try dsimp only at hI
                  exact C ((f_5, _, _)) _ _ _ (Or.inr ⟨hs, by rw [← ec0]; exact c2, ef_5, rfl, rfl⟩) (lv_sub hl [1, 2, 3, 4, 5, 6, 7] rfl) hI hS
                · refine lv_aload_n hx hb d_Mo_key_176 rfl (lv_at hl 3 rfl) ?_
                  refine hp_get (ci := 5) (v := .ref (Q 18)) (C := R_Mo) (T := F_Mo) (N := 28) hx hb hg i_Mo hown hK hI (mw_o hQ) rfl 18 (by decide) (hg _ k_791) (fun _ h9 => h9) rfl d_Mo_key_177 ?_
                  refine lv_iload hx hb d_Mo_key_180 (lv_at hl 2 rfl) ?_
                  refine lv_iconst (v := 4) hx hb d_Mo_key_182 (by decide) ?_
                  refine mv_imul hx hb (k * 4 + i) 4 rfl rfl d_Mo_key_183 ?_
                  refine lv_iload hx hb d_Mo_key_184 (lv_at hl 0 rfl) ?_
                  refine mv_iadd hx hb ((k * 4 + i) * 4) q9 rfl rfl d_Mo_key_186 ?_
                  refine lv_aload_n hx hb d_Mo_key_187 rfl (lv_at hl 3 rfl) ?_
                  refine hp_get (ci := 5) (v := .ref (Q 18)) (C := R_Mo) (T := F_Mo) (N := 28) hx hb hg i_Mo hown hK hI (mw_o hQ) rfl 18 (by decide) (hg _ k_791) (fun _ h9 => h9) rfl d_Mo_key_188 ?_
                  refine lv_iload hx hb d_Mo_key_191 (lv_at hl 2 rfl) ?_
                  refine lv_iconst (v := 4) hx hb d_Mo_key_193 (by decide) ?_
                  refine mv_imul hx hb (k * 4 + i) 4 rfl rfl d_Mo_key_194 ?_
                  refine lv_iload hx hb d_Mo_key_195 (lv_at hl 0 rfl) ?_
                  refine mv_iadd hx hb ((k * 4 + i) * 4) q9 rfl rfl d_Mo_key_197 ?_
                  refine lv_iconst (v := 1) hx hb d_Mo_key_198 (by decide) ?_
                  refine mv_isub hx hb ((k * 4 + i) * 4 + q9) 1 rfl rfl (by omega) d_Mo_key_199 ?_
                  refine mv_dald hx hb hK hI 1 ((xsD (xsD (xsT X 0) 18 (kSh (X.2.1 18) ((k * 4 + i) * 4 + q9) ((k * 4 + i) * 4 + c0))) 19 (kSh (X.2.1 19) ((k * 4 + i) * 4 + q9) ((k * 4 + i) * 4 + c0))).2.1 18) (mw_18 hQ) rfl ((k * 4 + i) * 4 + q9 - 1) (rfl) (by omega) (by decide) d_Mo_key_200 ?_
                  refine mv_dast hx hb hK hI hS 1 ((xsD (xsD (xsT X 0) 18 (kSh (X.2.1 18) ((k * 4 + i) * 4 + q9) ((k * 4 + i) * 4 + c0))) 19 (kSh (X.2.1 19) ((k * 4 + i) * 4 + q9) ((k * 4 + i) * 4 + c0))).2.1 18) (mw_18 hQ) rfl ((k * 4 + i) * 4 + q9) (fun f9 => mW G Q (xsD (xsD (xsD (xsT X 0) 18 (kSh (X.2.1 18) ((k * 4 + i) * 4 + q9) ((k * 4 + i) * 4 + c0))) 19 (kSh (X.2.1 19) ((k * 4 + i) * 4 + q9) ((k * 4 + i) * 4 + c0))) 18 f9) w0) (fun _ => mws_18 hQ) (rfl) (by omega) (by decide) d_Mo_key_201 (fun H locs f_6 ef_6 hI hS hsz => ?_)
                  try dsimp only at hI
                  refine lv_aload_n hx hb d_Mo_key_202 rfl (lv_at hl 3 rfl) ?_
                  refine hp_get (ci := 5) (v := .ref (Q 19)) (C := R_Mo) (T := F_Mo) (N := 28) hx hb hg i_Mo hown hK hI (mw_o hQ) rfl 19 (by decide) (hg _ k_792) (fun _ h9 => h9) rfl d_Mo_key_203 ?_
                  refine lv_iload hx hb d_Mo_key_206 (lv_at hl 2 rfl) ?_
                  refine lv_iconst (v := 4) hx hb d_Mo_key_208 (by decide) ?_
                  refine mv_imul hx hb (k * 4 + i) 4 rfl rfl d_Mo_key_209 ?_
                  refine lv_iload hx hb d_Mo_key_210 (lv_at hl 0 rfl) ?_
                  refine mv_iadd hx hb ((k * 4 + i) * 4) q9 rfl rfl d_Mo_key_212 ?_
                  refine lv_aload_n hx hb d_Mo_key_213 rfl (lv_at hl 3 rfl) ?_
                  refine hp_get (ci := 5) (v := .ref (Q 19)) (C := R_Mo) (T := F_Mo) (N := 28) hx hb hg i_Mo hown hK hI (mw_o hQ) rfl 19 (by decide) (hg _ k_792) (fun _ h9 => h9) rfl d_Mo_key_214 ?_
                  refine lv_iload hx hb d_Mo_key_217 (lv_at hl 2 rfl) ?_
                  refine lv_iconst (v := 4) hx hb d_Mo_key_219 (by decide) ?_
                  refine mv_imul hx hb (k * 4 + i) 4 rfl rfl d_Mo_key_220 ?_
                  refine lv_iload hx hb d_Mo_key_221 (lv_at hl 0 rfl) ?_
                  refine mv_iadd hx hb ((k * 4 + i) * 4) q9 rfl rfl d_Mo_key_223 ?_
                  refine lv_iconst (v := 1) hx hb d_Mo_key_224 (by decide) ?_
                  refine mv_isub hx hb ((k * 4 + i) * 4 + q9) 1 rfl rfl (by omega) d_Mo_key_225 ?_
                  refine mv_dald hx hb hK hI 1 ((xsD (xsD (xsT X 0) 18 (kSh (X.2.1 18) ((k * 4 + i) * 4 + q9) ((k * 4 + i) * 4 + c0))) 19 (kSh (X.2.1 19) ((k * 4 + i) * 4 + q9) ((k * 4 + i) * 4 + c0))).2.1 19) (mw_19 hQ) rfl ((k * 4 + i) * 4 + q9 - 1) (rfl) (by omega) (by decide) d_Mo_key_226 ?_
                  refine mv_dast hx hb hK hI hS 1 ((xsD (xsD (xsT X 0) 18 (kSh (X.2.1 18) ((k * 4 + i) * 4 + q9) ((k * 4 + i) * 4 + c0))) 19 (kSh (X.2.1 19) ((k * 4 + i) * 4 + q9) ((k * 4 + i) * 4 + c0))).2.1 19) (mw_19 hQ) rfl ((k * 4 + i) * 4 + q9) (fun f9 => mW G Q (xsD (xsD (xsD (xsD (xsT X 0) 18 (kSh (X.2.1 18) ((k * 4 + i) * 4 + q9) ((k * 4 + i) * 4 + c0))) 19 (kSh (X.2.1 19) ((k * 4 + i) * 4 + q9) ((k * 4 + i) * 4 + c0))) 18 f_6) 19 f9) w0) (fun _ => mws_19 hQ) (rfl) (by omega) (by decide) d_Mo_key_227 (fun H locs f_7 ef_7 hI hS hsz => ?_)
                  try dsimp only at hI
                  refine lv_iinc (v := nI (q9 - 1)) (lv' := [(10, .int (nI (q9 - 1))), (8, .int (nI at9)), (7, .int (nI (k * 4 + i))), (0, .ref (Q 25)), (1, .int (nI k)), (2, .int (nI i)), (3, .double u), (5, .double v), (9, .int (bI s9))]) hx hb d_Mo_key_228 hl (k := 0) rfl (by rw [dnI_dec, ← dnI_of (show 1 ≤ q9 by omega)]) (by decide) rfl (fun ls hl => ?_)
                  refine lv_goto (tgt := 169) hx hb d_Mo_key_231 (by decide) ?_
                  rw [xd_dd (by decide)] at hI
                  have e1 := kSh_step (X.2.1 18) (k := (k * 4 + i) * 4 + q9) (n := (k * 4 + i) * 4 + c0) (by omega) (by omega)
                  have e2 := kSh_step (X.2.1 19) (k := (k * 4 + i) * 4 + q9) (n := (k * 4 + i) * 4 + c0) (by omega) (by omega)
                  have e1 : f_6 = kSh (X.2.1 18) ((k * 4 + i) * 4 + (q9 - 1)) ((k * 4 + i) * 4 + c0) := by rw [ef_6, show (k * 4 + i) * 4 + (q9 - 1) = (k * 4 + i) * 4 + q9 - 1 by omega]; exact e1
                  have e2 : f_7 = kSh (X.2.1 19) ((k * 4 + i) * 4 + (q9 - 1)) ((k * 4 + i) * 4 + c0) := by rw [ef_7, show (k * 4 + i) * 4 + (q9 - 1) = (k * 4 + i) * 4 + q9 - 1 by omega]; exact e2
                  rw [e1, e2] at hI
                  exact W9 (q9 - 1) (q9 - 1) _ _ _ (by omega) (⟨by omega, by omega, rfl⟩) (lv_sub hl [0, 1, 2, 3, 4, 5, 6, 7, 8] rfl) hI hS
              · refine lv_aload_n hx hb d_Mo_key_148 rfl (lv_at hl 3 rfl) ?_
                refine lv_iconst (v := 2) hx hb d_Mo_key_149 (by decide) ?_
                refine hp_putC (ci := 5) (v := .int 2) (ty := .int) (C := R_Mo) (T := F_Mo) (N := 28) hx hb hg i_Mo t_Mo t_Mo_ok n_Mo hown hK hI hS (mw_o hQ) rfl 27 (by decide) (hg _ k_800) (fun _ h9 => h9) rfl (by decide +kernel) rfl rfl (Nat.le_of_ble_eq_true rfl) d_Mo_key_150 (fun H locs hI hS hsz => ?_)
                have hI : eI G S0 (mW G Q (xsT (xsT X 0) 2) w0) H := by rw [← mws_T hQ]; exact hI
                refine lv_iconst (v := 0) hx hb d_Mo_key_153 (by decide) ?_
                exact W.iret (v := 0) hx hb hr (fun t9 ht9 hW9 => ⟨⟨0, (mW G Q (xsT (xsT X 0) 2) w0), rfl, Or.inr ⟨k, i, hok, Or.inl ⟨hs, by rw [← ec0]; exact c2, by rfl⟩⟩, eWo ht9 hI⟩, hS.F ht9⟩) hS.2.2 d_Mo_key_154
        · refine mv_cge (tgt := 129) hx hb at9 c0 rfl rfl (by omega) (by omega) d_Mo_key_105 (by decide) (fun c1 => ?_) (fun c1 => ?_)
          · refine lv_iconst (v := 0) hx hb d_Mo_key_129 (by decide) ?_
            exact B (false) _ _ _ (⟨fun h => (by cases h), fun h => absurd h.1 (by rw [← ec0, ← eat]; omega)⟩) (lv_sub hl [0, 1, 2, 3, 4, 5, 6] rfl) hI hS
          · refine lv_aload_n hx hb d_Mo_key_108 rfl (lv_at hl 2 rfl) ?_
            refine hp_get (ci := 5) (v := .ref (Q 18)) (C := R_Mo) (T := F_Mo) (N := 28) hx hb hg i_Mo hown hK hI (mw_o hQ) rfl 18 (by decide) (hg _ k_791) (fun _ h9 => h9) rfl d_Mo_key_109 ?_
            refine lv_iload hx hb d_Mo_key_112 (lv_at hl 1 rfl) ?_
            refine lv_iconst (v := 4) hx hb d_Mo_key_114 (by decide) ?_
            refine mv_imul hx hb (k * 4 + i) 4 rfl rfl d_Mo_key_115 ?_
            refine lv_iload hx hb d_Mo_key_116 (lv_at hl 0 rfl) ?_
            refine mv_iadd hx hb ((k * 4 + i) * 4) at9 rfl rfl d_Mo_key_118 ?_
            refine mv_dald hx hb hK hI 1 (X.2.1 18) (mw_18 hQ) rfl ((k * 4 + i) * 4 + at9) (rfl) (by omega) (by decide) d_Mo_key_119 ?_
            refine mv_d (y := sTt d k i at9) ((hM.kv hk ht hi (by omega)).1) ?_
            refine lv_dload_n hx hb d_Mo_key_120 rfl (lv_at hl 5 rfl) ?_
            refine lv_dcmp hx hb d_Mo_key_121 ?_
            refine lv_if_ne (tgt := 129) hx hb d_Mo_key_122 (by decide) (fun c2 => ?_) (fun c2 => ?_)
            · refine lv_iconst (v := 0) hx hb d_Mo_key_129 (by decide) ?_
              exact B (false) _ _ _ (⟨fun h => (by cases h), fun h => absurd (cv_l_eq.mpr (by have := h.2; rw [← ec0, ← eat] at this; exact this)) c2⟩) (lv_sub hl [0, 1, 2, 3, 4, 5, 6] rfl) hI hS
            · refine lv_iconst (v := 1) hx hb d_Mo_key_125 (by decide) ?_
              refine lv_goto (tgt := 130) hx hb d_Mo_key_126 (by decide) ?_
              exact B (true) _ _ _ (⟨fun _ => ⟨by rw [← ec0, ← eat]; exact c1, by rw [← ec0, ← eat]; exact cv_l_eq.mp c2⟩, fun _ => rfl⟩) (lv_sub hl [0, 1, 2, 3, 4, 5, 6] rfl) hI hS
      · refine W.lpw (fun j (a9 : Nat) => a9 ≤ c0 ∧ j = c0 - a9 ∧ kAt (sTt d k i) u a9 = a9) (fun (a9 : Nat) => (mW G Q (xsT X 0) w0)) (fun (a9 : Nat) => [(8, .int (nI a9)), (7, .int (nI (k * 4 + i))), (0, .ref (Q 25)), (1, .int (nI k)), (2, .int (nI i)), (3, .double u), (5, .double v)]) (fun (a9 : Nat) => 0) (fun (a9 : Nat) => 0) 11 61 (fun (a9 : Nat) => []) (c0) (0) (⟨Nat.zero_le _, rfl, rfl⟩) (lv_sub hl [0, 1, 2, 3, 4, 5, 6] rfl) hI hS ?_
        rintro j a9 ls H locs hP hl hI hS O
        try dsimp only at hP hl hI ⊢
        obtain ⟨h1, ej, h2⟩ := hP
        refine lv_iload hx hb d_Mo_key_61 (lv_at hl 0 rfl) ?_
        refine lv_aload_n hx hb d_Mo_key_63 rfl (lv_at hl 2 rfl) ?_
        refine hp_get (ci := 5) (v := .ref (Q 10)) (C := R_Mo) (T := F_Mo) (N := 28) hx hb hg i_Mo hown hK hI (mw_o hQ) rfl 10 (by decide) (hg _ k_783) (fun _ h9 => h9) rfl d_Mo_key_64 ?_
        refine lv_iload hx hb d_Mo_key_67 (lv_at hl 1 rfl) ?_
        refine mv_iald hx hb hK hI 0 (X.1 10) (mw_10 hQ) rfl (k * 4 + i) (rfl) (by omega) (by decide) d_Mo_key_69 ?_
        refine mv_i (y := nI c0) ((hM.kn hk ht hi).trans (by rw [ec0])) ?_
        refine mv_cge (tgt := 96) hx hb a9 c0 rfl rfl (by omega) (by omega) d_Mo_key_70 (by decide) (fun c1 => ?_) (fun c1 => ?_)
        · have e9 : a9 = kAt (sTt d k i) u c0 := by
            have e : a9 = c0 := by omega
            rw [e] at h2 ⊢
            exact h2.symm
          rw [e9] at hl
          exact A (()) _ _ _ (trivial) (lv_sub hl [0, 1, 2, 3, 4, 5, 6] rfl) hI hS
        · refine lv_aload_n hx hb d_Mo_key_73 rfl (lv_at hl 2 rfl) ?_
          refine hp_get (ci := 5) (v := .ref (Q 18)) (C := R_Mo) (T := F_Mo) (N := 28) hx hb hg i_Mo hown hK hI (mw_o hQ) rfl 18 (by decide) (hg _ k_791) (fun _ h9 => h9) rfl d_Mo_key_74 ?_
          refine lv_iload hx hb d_Mo_key_77 (lv_at hl 1 rfl) ?_
          refine lv_iconst (v := 4) hx hb d_Mo_key_79 (by decide) ?_
          refine mv_imul hx hb (k * 4 + i) 4 rfl rfl d_Mo_key_80 ?_
          refine lv_iload hx hb d_Mo_key_81 (lv_at hl 0 rfl) ?_
          refine mv_iadd hx hb ((k * 4 + i) * 4) a9 rfl rfl d_Mo_key_83 ?_
          refine mv_dald hx hb hK hI 1 (X.2.1 18) (mw_18 hQ) rfl ((k * 4 + i) * 4 + a9) (rfl) (by omega) (by decide) d_Mo_key_84 ?_
          refine mv_d (y := sTt d k i a9) ((hM.kv hk ht hi (by omega)).1) ?_
          refine lv_dload_n hx hb d_Mo_key_85 rfl (lv_at hl 5 rfl) ?_
          refine lv_dcmp hx hb d_Mo_key_86 ?_
          refine lv_if_ge (tgt := 96) hx hb d_Mo_key_87 (by decide) (fun c2 => ?_) (fun c2 => ?_)
          · have hst := kAt_stop (sTt d k i) u h2 (cv_g_ge.mp c2) c0 (by omega)
            rw [← hst] at hl
            exact A (()) _ _ _ (trivial) (lv_sub hl [0, 1, 2, 3, 4, 5, 6] rfl) hI hS
          · have hgo := kAt_go (sTt d k i) u h2 (cv_g_lt.mp (Int32.not_le.mp c2))
            refine lv_iinc (v := nI (a9 + 1)) (lv' := [(8, .int (nI (a9 + 1))), (7, .int (nI (k * 4 + i))), (0, .ref (Q 25)), (1, .int (nI k)), (2, .int (nI i)), (3, .double u), (5, .double v)]) hx hb d_Mo_key_90 hl (k := 0) rfl (nI_inc a9) (by decide) rfl (fun ls hl => ?_)
            refine lv_goto (tgt := 61) hx hb d_Mo_key_93 (by decide) ?_
            exact O (c0 - (a9 + 1)) (a9 + 1) _ _ _ (by omega) (⟨c1, rfl, hgo⟩) (lv_sub hl [0, 1, 2, 3, 4, 5, 6] rfl) hI hS
    · have hbt : b = false := by cases b with | true => cases cb | false => rfl
      refine lv_iconst (v := 0) hx hb d_Mo_key_49 (by decide) ?_
      exact W.iret (v := 0) hx hb hr (fun t9 ht9 hW9 => ⟨⟨0, (mW G Q (xsT X (bI (!b))) w0), rfl, Or.inl ⟨fun h => (by rw [hP.mpr h] at hbt; cases hbt), by rw [hbt]; rfl⟩, eWo ht9 hI⟩, hS.F ht9⟩) hS.2.2 d_Mo_key_50
  · refine ec_i (va_runV (As := [.int n]) (rest := [.ref (Q 25)]) ⟨hx, hb, hml, hown, hts⟩ (m_Mo_isOther l G S0 Q hQ X w0 d hM n) (cwV 1 hts (gw_V k_896 k_898 k_47 k_67 k_899) rfl rfl rfl (by decide +kernel) ⟨Nat.le_of_ble_eq_true rfl, Nat.le_of_ble_eq_true rfl⟩) (eB.preV hE hI hS hz rfl (mw_o hQ)) rfl rfl hl.1 rfl (lv_room (Nat.le_of_ble_eq_true rfl)) d_Mo_key_3 ⟨Nat.le_of_ble_eq_true rfl, Nat.le_of_ble_eq_true rfl⟩) hS (fun r_3 w_2 H locs ew_2 hI hsz hS => ?_)
    obtain ⟨ew_2, h1⟩ := ew_2
    have ew_2 := ew_2.symm
    subst ew_2
    obtain ⟨b, eb, h1⟩ := h1
    subst eb
    refine mv_zeq (tgt := 42) hx hb b rfl d_Mo_key_6 (by decide) (fun c1 => ?_) (fun c1 => ?_)
    · refine lv_iconst (v := 0) hx hb d_Mo_key_42 (by decide) ?_
      exact K (false) _ _ _ (⟨fun h => (by cases h), fun ⟨k, i, q1, q2, q3, q4, _⟩ => absurd (h1.mpr ⟨⟨k, q1, q2, q3⟩, fun e => q4 ((nI_eq (a := k) (b := 0) (by omega) (by decide)).mp (q2.symm.trans e))⟩) (by rw [c1]; decide)⟩) (lv_sub hl [0, 1, 2, 3, 4] rfl) hI hS
    refine lv_iload_n hx hb d_Mo_key_9 rfl (lv_at hl 2 rfl) ?_
    refine lv_if_lt (tgt := 42) hx hb d_Mo_key_10 (by decide) (fun c2 => ?_) (fun c2 => ?_)
    · refine lv_iconst (v := 0) hx hb d_Mo_key_42 (by decide) ?_
      exact K (false) _ _ _ (⟨fun h => (by cases h), fun ⟨k, i, q1, q2, q3, q4, q5, q6, _⟩ => absurd c2 (by rw [q6]; exact nI_nlt0 (by omega))⟩) (lv_sub hl [0, 1, 2, 3, 4] rfl) hI hS
    refine lv_iload_n hx hb d_Mo_key_13 rfl (lv_at hl 2 rfl) ?_
    refine lv_iconst (v := 4) hx hb d_Mo_key_14 (by decide) ?_
    refine lv_icmp_ge (tgt := 42) hx hb d_Mo_key_15 (by decide) (fun c3 => ?_) (fun c3 => ?_)
    · refine lv_iconst (v := 0) hx hb d_Mo_key_42 (by decide) ?_
      exact K (false) _ _ _ (⟨fun h => (by cases h), fun ⟨k, i, q1, q2, q3, q4, q5, q6, _⟩ => absurd c3 (by rw [q6]; exact fun q => absurd ((nI_leI (a := 4) (b := i) (by omega) (by omega)).mp q) (by omega))⟩) (lv_sub hl [0, 1, 2, 3, 4] rfl) hI hS
    obtain ⟨⟨k, hk, ek, ht⟩, hn0⟩ := h1.mp c1
    obtain ⟨i, hi, ei⟩ := i32_4 ⟨Int32.not_lt.mp c2, (i32_lt 4 3 (by decide)).mp (Int32.not_le.mp c3)⟩
    refine lv_dload_n hx hb d_Mo_key_18 rfl (lv_at hl 3 rfl) ?_
    refine lv_dconst0 hx hb d_Mo_key_19 ?_
    refine lv_ldc2d (v := 4652007308841189376) hx hb hown (hg _ k_918) d_Mo_key_20 ?_
    refine ec_i (va_runS (As := [.double u, .double FP.dconst0, .double 4652007308841189376]) (rest := [.ref (Q 25)]) ⟨hx, hb, hml, hown, hts⟩ (m_Mo_in l G S0 (mW G Q X w0) u FP.dconst0 c1000) (cwS 3 hts (gw_S k_889 k_890 k_67 k_891) rfl rfl rfl (by decide +kernel) ⟨Nat.le_of_ble_eq_true rfl, Nat.le_of_ble_eq_true rfl⟩) (eB.preS hE hI hS hz) rfl rfl hl.1 rfl (lv_room (Nat.le_of_ble_eq_true rfl)) d_Mo_key_23 ⟨Nat.le_of_ble_eq_true rfl, Nat.le_of_ble_eq_true rfl⟩) hS (fun q1 w_4 H locs ew_4 hI hsz hS => ?_)
    obtain ⟨eq1, ew_4⟩ := ew_4
    have ew_4 := ew_4.symm
    subst ew_4
    subst eq1
    refine mv_zeq (tgt := 42) hx hb (dIn u FP.dconst0 c1000) rfl d_Mo_key_26 (by decide) (fun c4 => ?_) (fun c4 => ?_)
    · refine lv_iconst (v := 0) hx hb d_Mo_key_42 (by decide) ?_
      exact K (false) _ _ _ (⟨fun h => (by cases h), fun ⟨k, i, q1, q2, q3, q4, q5, q6, q7, _⟩ => absurd q7 (by rw [c4]; decide)⟩) (lv_sub hl [0, 1, 2, 3, 4] rfl) hI hS
    have hfi := m_Mo_fits l G S0 (mW G Q X w0) i hi v
    rw [← ei] at hfi
    refine lv_iload_n hx hb d_Mo_key_29 rfl (lv_at hl 2 rfl) ?_
    refine lv_dload hx hb d_Mo_key_30 (lv_at hl 4 rfl) ?_
    refine ec_i (va_runS (As := [.int pr, .double v]) (rest := [.ref (Q 25)]) ⟨hx, hb, hml, hown, hts⟩ (hfi) (cwS 2 hts (gw_S k_919 k_920 k_67 k_921) rfl rfl rfl (by decide +kernel) ⟨Nat.le_of_ble_eq_true rfl, Nat.le_of_ble_eq_true rfl⟩) (eB.preS hE hI hS hz) rfl rfl hl.1 rfl (lv_room (Nat.le_of_ble_eq_true rfl)) d_Mo_key_32 ⟨Nat.le_of_ble_eq_true rfl, Nat.le_of_ble_eq_true rfl⟩) hS (fun r_6 w_5 H locs ew_5 hI hsz hS => ?_)
    obtain ⟨ew_5, h2⟩ := ew_5
    have ew_5 := ew_5.symm
    subst ew_5
    obtain ⟨b2, eb, h2⟩ := h2
    subst eb
    refine mv_zeq (tgt := 42) hx hb b2 rfl d_Mo_key_35 (by decide) (fun c5 => ?_) (fun c5 => ?_)
    · refine lv_iconst (v := 0) hx hb d_Mo_key_42 (by decide) ?_
      exact K (false) _ _ _ (⟨fun h => (by cases h), fun ⟨k', i', q1, q2, q3, q4, q5, q6, q7, q8⟩ => absurd (h2.mpr (by rw [show i = i' from (nI_eq (a := i) (b := i') (by omega) (by omega)).mp (ei.symm.trans q6)]; exact q8)) (by rw [c5]; decide)⟩) (lv_sub hl [0, 1, 2, 3, 4] rfl) hI hS
    refine lv_iconst (v := 1) hx hb d_Mo_key_38 (by decide) ?_
    refine lv_goto (tgt := 43) hx hb d_Mo_key_39 (by decide) ?_
    exact K (true) _ _ _ (⟨fun _ => ⟨k, i, hk, ek, ht, fun e => hn0 (by rw [ek, e]; rfl), hi, ei, c4, h2.mp c5⟩, fun _ => rfl⟩) (lv_sub hl [0, 1, 2, 3, 4] rfl) hI hS

/-! the model's picture; its small methods -/
def pCd (o : Option Nat) : Int32 := match o with
  | none => -1
  | some g => nI g
def mN1 (X : XS) (d : DS) (k : Nat) : Prop :=
  X.1 1 k = sNi d k 2 ∧ X.1 4 k = sNi d k 0 ∧ X.1 5 k = sNi d k 5 ∧ X.1 9 k = sNi d k 3 ∧ X.1 6 k = pCd (sPa d k) ∧ X.1 7 k = nI (sCh d k).length ∧
  (∀ i (h : i < (sCh d k).length), X.1 8 (k * 14 + i) = nI ((sCh d k)[i])) ∧ (∀ i, i < 4 → X.1 10 (k * 4 + i) = nI (sTn d k i) ∧ sTn d k i ≤ 4) ∧ X.2.1 14 k = sNd d k 4 ∧
  (k ≠ 0 → X.2.1 15 k = sNd d k 0 ∧ X.2.1 16 k = sNd d k 1 ∧ X.2.1 17 (k * 4) = sNd d k 2 ∧ X.2.1 17 (k * 4 + 1) = sNd d k 3 ∧ X.2.1 17 (k * 4 + 2) = FP.i2d (sNi d k 4) ∧ X.2.1 17 (k * 4 + 3) = FP.i2d (sNi d k 1)) ∧
  (∀ i j, i < 4 → j < sTn d k i → X.2.1 18 ((k * 4 + i) * 4 + j) = sTt d k i j ∧ X.2.1 19 ((k * 4 + i) * 4 + j) = sTv d k i j)
def mV (X : XS) (d : DS) : Prop := ∀ k, k < 14 → sTh d k = true → mN1 X d k
def mN (X : XS) (d : DS) : Prop := (∀ k, k < 14 → X.1 0 k = bI (sTh d k)) ∧ mV X d
def mO (X : XS) (d : DS) (dp : Nat → Nat) (L : List Nat) : Prop :=
  L.Nodup ∧ (∀ k, k ∈ L ↔ k < 14 ∧ sTh d k = true) ∧ L[0]? = some 0 ∧ L.length ≤ 14 ∧ X.2.2.1 = nI L.length ∧ (∀ i (h : i < L.length), X.1 11 i = nI L[i]) ∧ (∀ k, k ∈ L → X.1 13 k = nI (dp k)) ∧
  (∀ i (h : i < L.length) g, sPa d L[i] = some g → ∃ j, j < i ∧ L[j]? = some g)
def mC (X : XS) (d : DS) : Prop := (∀ k, k < 192 → X.1 24 k = sCl d k) ∧ X.2.2.2.1 = sPt d
def mP (X : XS) (d : DS) (dp : Nat → Nat) : Prop := mN X d ∧ (∃ L, mO X d dp L) ∧ mC X d
theorem mN.th {X : XS} {d : DS} (h : mN X d) {k : Nat} (hk : k < 14) : X.1 0 k = bI (sTh d k) := h.1 k hk
theorem mV.ki {X : XS} {d : DS} (h : mV X d) {k : Nat} (hk : k < 14) (ht : sTh d k = true) : X.1 4 k = sNi d k 0 := (h k hk ht).2.1
theorem mN.ki {X : XS} {d : DS} (h : mN X d) {k : Nat} (hk : k < 14) (ht : sTh d k = true) : X.1 4 k = sNi d k 0 := h.2.ki hk ht
theorem mV.pa {X : XS} {d : DS} (h : mV X d) {k : Nat} (hk : k < 14) (ht : sTh d k = true) : X.1 6 k = pCd (sPa d k) := (h k hk ht).2.2.2.2.1
theorem mN.pa {X : XS} {d : DS} (h : mN X d) {k : Nat} (hk : k < 14) (ht : sTh d k = true) : X.1 6 k = pCd (sPa d k) := h.2.pa hk ht
theorem mV.ct {X : XS} {d : DS} (h : mV X d) {k : Nat} (hk : k < 14) (ht : sTh d k = true) : X.1 7 k = nI (sCh d k).length := (h k hk ht).2.2.2.2.2.1
theorem mN.ct {X : XS} {d : DS} (h : mN X d) {k : Nat} (hk : k < 14) (ht : sTh d k = true) : X.1 7 k = nI (sCh d k).length := h.2.ct hk ht
theorem mV.ch {X : XS} {d : DS} (h : mV X d) {k : Nat} (hk : k < 14) (ht : sTh d k = true) {i : Nat} (hi : i < (sCh d k).length) : X.1 8 (k * 14 + i) = nI ((sCh d k)[i]) := (h k hk ht).2.2.2.2.2.2.1 i hi
theorem mN.ch {X : XS} {d : DS} (h : mN X d) {k : Nat} (hk : k < 14) (ht : sTh d k = true) {i : Nat} (hi : i < (sCh d k).length) : X.1 8 (k * 14 + i) = nI ((sCh d k)[i]) := h.2.ch hk ht hi
theorem mV.kn {X : XS} {d : DS} (h : mV X d) {k : Nat} (hk : k < 14) (ht : sTh d k = true) {i : Nat} (hi : i < 4) : X.1 10 (k * 4 + i) = nI (sTn d k i) := ((h k hk ht).2.2.2.2.2.2.2.1 i hi).1
theorem mN.kn {X : XS} {d : DS} (h : mN X d) {k : Nat} (hk : k < 14) (ht : sTh d k = true) {i : Nat} (hi : i < 4) : X.1 10 (k * 4 + i) = nI (sTn d k i) := h.2.kn hk ht hi
theorem mV.k4 {X : XS} {d : DS} (h : mV X d) {k : Nat} (hk : k < 14) (ht : sTh d k = true) {i : Nat} (hi : i < 4) : sTn d k i ≤ 4 := ((h k hk ht).2.2.2.2.2.2.2.1 i hi).2
theorem mN.k4 {X : XS} {d : DS} (h : mN X d) {k : Nat} (hk : k < 14) (ht : sTh d k = true) {i : Nat} (hi : i < 4) : sTn d k i ≤ 4 := h.2.k4 hk ht hi
theorem mN.T {X : XS} {d : DS} (h : mN X d) {v : Int32} : mN (xsT X v) d := h
theorem mV.kv {X : XS} {d : DS} (h : mV X d) {k : Nat} (hk : k < 14) (ht : sTh d k = true) {i j : Nat} (hi : i < 4) (hj : j < sTn d k i) : X.2.1 18 ((k * 4 + i) * 4 + j) = sTt d k i j ∧ X.2.1 19 ((k * 4 + i) * 4 + j) = sTv d k i j := (h k hk ht).2.2.2.2.2.2.2.2.2.2 i j hi hj
theorem mN.kv {X : XS} {d : DS} (h : mN X d) {k : Nat} (hk : k < 14) (ht : sTh d k = true) {i j : Nat} (hi : i < 4) (hj : j < sTn d k i) : X.2.1 18 ((k * 4 + i) * 4 + j) = sTt d k i j ∧ X.2.1 19 ((k * 4 + i) * 4 + j) = sTv d k i j := h.2.kv hk ht hi hj
theorem mV.hi {X : XS} {d : DS} (h : mV X d) {k : Nat} (hk : k < 14) (ht : sTh d k = true) : X.1 1 k = sNi d k 2 := (h k hk ht).1
theorem mV.mo {X : XS} {d : DS} (h : mV X d) {k : Nat} (hk : k < 14) (ht : sTh d k = true) : X.1 5 k = sNi d k 5 := (h k hk ht).2.2.1
theorem mV.tu {X : XS} {d : DS} (h : mV X d) {k : Nat} (hk : k < 14) (ht : sTh d k = true) : X.1 9 k = sNi d k 3 := (h k hk ht).2.2.2.1
theorem mV.st {X : XS} {d : DS} (h : mV X d) {k : Nat} (hk : k < 14) (ht : sTh d k = true) : X.2.1 14 k = sNd d k 4 := (h k hk ht).2.2.2.2.2.2.2.2.1
theorem mV.ba {X : XS} {d : DS} (h : mV X d) {k : Nat} (hk : k < 14) (ht : sTh d k = true) (h0 : k ≠ 0) : X.2.1 15 k = sNd d k 0 ∧ X.2.1 16 k = sNd d k 1 ∧ X.2.1 17 (k * 4) = sNd d k 2 ∧ X.2.1 17 (k * 4 + 1) = sNd d k 3 ∧ X.2.1 17 (k * 4 + 2) = FP.i2d (sNi d k 4) ∧ X.2.1 17 (k * 4 + 3) = FP.i2d (sNi d k 1) := (h k hk ht).2.2.2.2.2.2.2.2.2.1 h0
def dIn (v a b : UInt64) : Bool := decide (dge v a ∧ dle v b)
theorem dIn_iff {v a b : UInt64} : dIn v a b = true ↔ dge v a ∧ dle v b := decide_eq_true_iff
set_option maxHeartbeats 4000000 in
set_option maxRecDepth 100000 in
theorem m_Mo_in (l : Launch) (G : EG) (S0 : Nat) (w : hp_M) (v a b : UInt64) : Met l y_Mo_in w_Mo_in (rl 0 0 0) (eP G S0 w [.double v, .double a, .double b]) (va_Qi (fun r z => r = bI (dIn v a b) ∧ z = w) (eW G S0) (hp_A S0)) 0 0 (hp_A S0) := by
  refine Met.ofW (cc := b_Mo_in) (maxL := 6) (ret := (some .boolean)) (by decide) rfl ?_
  intro p e s m args below meth c s₁ B hml hv
  obtain ⟨rfl, hE, hI, hz⟩ := hv
  have hx := B.exec
  have hb := B.bytes
  have hr := B.returns
  have hts := atoms_spec (ws := w_Mo_in) B.pre
  have hg : ∀ w ∈ gw, w.before _ s = true := fun w h => hts w (List.mem_cons_of_mem _ h)
  have hown : s.vm.findClass "SceneEaselModel" = some m.cls := findClass_of_methodNamed B.named
  have hlocks := B.notSynchronized
  have hK := hE.K
  have hS : va_S (hp_A S0) s.heap s.heap [] := va_S.rf
  have hl := lv_entry ([.double v, .double a, .double b]) (n := 6) (Nat.le_of_ble_eq_true rfl)
  rw [lg_entry_eq]
  generalize (lg_sl ([.double v, .double a, .double b]) ++ List.replicate (6 - (lg_sl ([.double v, .double a, .double b])).length) Slot.unset).toArray = ls at hl ⊢
  have hl : lv_has ls 6 [(0, .double v), (2, .double a), (4, .double b)] := hl
  refine lv_dload_n hx hb d_Mo_in_0 rfl (lv_at hl 0 rfl) ?_
  refine lv_dload_n hx hb d_Mo_in_1 rfl (lv_at hl 1 rfl) ?_
  refine lv_dcmp hx hb d_Mo_in_2 ?_
  refine lv_if_lt (tgt := 17) hx hb d_Mo_in_3 (by decide) (fun c1 => ?_) (fun c1 => ?_)
  · refine lv_iconst (v := 0) hx hb d_Mo_in_17 (by decide) ?_
    exact W.zret (v := 0) hx hb hr rfl (fun t9 ht9 hW9 => ⟨⟨0, w, rfl, ⟨by rw [show dIn v a b = false from decide_eq_false (fun h => absurd (cv_l_ge.mpr h.1) (Int32.not_le.mpr c1))]; rfl, rfl⟩, eWo ht9 hI⟩, hS.F ht9⟩) hS.2.2 d_Mo_in_18
  · refine lv_dload_n hx hb d_Mo_in_6 rfl (lv_at hl 0 rfl) ?_
    refine lv_dload hx hb d_Mo_in_7 (lv_at hl 2 rfl) ?_
    refine lv_dcmp hx hb d_Mo_in_9 ?_
    refine lv_if_gt (tgt := 17) hx hb d_Mo_in_10 (by decide) (fun c2 => ?_) (fun c2 => ?_)
    · refine lv_iconst (v := 0) hx hb d_Mo_in_17 (by decide) ?_
      exact W.zret (v := 0) hx hb hr rfl (fun t9 ht9 hW9 => ⟨⟨0, w, rfl, ⟨by rw [show dIn v a b = false from decide_eq_false (fun h => absurd (cv_g_le.mpr h.2) (Int32.not_le.mpr c2))]; rfl, rfl⟩, eWo ht9 hI⟩, hS.F ht9⟩) hS.2.2 d_Mo_in_18
    · refine lv_iconst (v := 1) hx hb d_Mo_in_13 (by decide) ?_
      refine lv_goto (tgt := 18) hx hb d_Mo_in_14 (by decide) ?_
      exact W.zret (v := 1) hx hb hr rfl (fun t9 ht9 hW9 => ⟨⟨1, w, rfl, ⟨by rw [show dIn v a b = true from decide_eq_true ⟨cv_l_ge.mp (Int32.not_lt.mp c1), cv_g_le.mp (Int32.not_lt.mp c2)⟩]; rfl, rfl⟩, eWo ht9 hI⟩, hS.F ht9⟩) hS.2.2 d_Mo_in_18
set_option maxHeartbeats 4000000 in
set_option maxRecDepth 100000 in
theorem m_Mo_floor (l : Launch) (G : EG) (S0 : Nat) (w : hp_M) (v : UInt64) : Met l y_Mo_floor w_Mo_floor (rl 0 0 0) (eP G S0 w [.double v]) (va_Qd (fun r z => r = fx_mfl v ∧ z = w) (eW G S0) (hp_A S0)) 0 0 (hp_A S0) := by
  refine Met.ofW (cc := b_Mo_floor) (maxL := 4) (ret := (some .double)) (by decide) rfl ?_
  intro p e s m args below meth c s₁ B hml hv
  obtain ⟨rfl, hE, hI, hz⟩ := hv
  have hx := B.exec
  have hb := B.bytes
  have hr := B.returns
  have hts := atoms_spec (ws := w_Mo_floor) B.pre
  have hg : ∀ w ∈ gw, w.before _ s = true := fun w h => hts w (List.mem_cons_of_mem _ h)
  have hown : s.vm.findClass "SceneEaselModel" = some m.cls := findClass_of_methodNamed B.named
  have hlocks := B.notSynchronized
  have hK := hE.K
  have hS : va_S (hp_A S0) s.heap s.heap [] := va_S.rf
  have hl := lv_entry ([.double v]) (n := 4) (Nat.le_of_ble_eq_true rfl)
  rw [lg_entry_eq]
  generalize (lg_sl ([.double v]) ++ List.replicate (4 - (lg_sl ([.double v])).length) Slot.unset).toArray = ls at hl ⊢
  have hl : lv_has ls 4 [(0, .double v)] := hl
  refine lv_dload_n hx hb d_Mo_floor_0 rfl (lv_at hl 0 rfl) ?_
  refine lv_d2l hx hb d_Mo_floor_1 ?_
  refine lv_lstore_n (lv' := [(2, .long (FP.d2l v)), (0, .double v)]) hx hb d_Mo_floor_2 rfl hl (by decide) rfl (fun ls hl => ?_)
  refine lv_lload_n hx hb d_Mo_floor_3 rfl (lv_at hl 0 rfl) ?_
  refine lv_l2d hx hb d_Mo_floor_4 ?_
  refine lv_dload_n hx hb d_Mo_floor_5 rfl (lv_at hl 1 rfl) ?_
  refine lv_dcmp hx hb d_Mo_floor_6 ?_
  refine lv_if_le (tgt := 17) hx hb d_Mo_floor_7 (by decide) (fun c1 => ?_) (fun c1 => ?_)
  · refine lv_lload_n hx hb d_Mo_floor_17 rfl (lv_at hl 0 rfl) ?_
    refine lv_l2d hx hb d_Mo_floor_18 ?_
    exact W.dret (v := (FP.l2d (FP.d2l v))) hx hb hr (fun t9 ht9 hW9 => ⟨⟨(FP.l2d (FP.d2l v)), w, rfl, ⟨by unfold fx_mfl; rw [if_neg (cv_l_le.mp c1)], rfl⟩, eWo ht9 hI⟩, hS.F ht9⟩) hS.2.2 d_Mo_floor_19
  · refine lv_lload_n hx hb d_Mo_floor_10 rfl (lv_at hl 0 rfl) ?_
    refine lv_lconst (v := 1) hx hb d_Mo_floor_11 (by decide) ?_
    refine lv_lsub hx hb d_Mo_floor_12 ?_
    refine lv_l2d hx hb d_Mo_floor_13 ?_
    refine lv_goto (tgt := 19) hx hb d_Mo_floor_14 (by decide) ?_
    exact W.dret (v := (FP.l2d ((FP.d2l v) - 1))) hx hb hr (fun t9 ht9 hW9 => ⟨⟨(FP.l2d ((FP.d2l v) - 1)), w, rfl, ⟨by unfold fx_mfl; rw [if_pos (cv_l_gt.mp (Int32.not_le.mp c1))], rfl⟩, eWo ht9 hI⟩, hS.F ht9⟩) hS.2.2 d_Mo_floor_19
set_option maxHeartbeats 4000000 in
set_option maxRecDepth 100000 in
theorem m_Mo_thrown (l : Launch) (G : EG) (S0 : Nat) (Q : Nat → Nat) (hQ : qInj Q) (X : XS) (w0 : hp_M) : Met l y_Mo_thrown w_Mo_thrown (rl 0 0 0) (eP G S0 (mW G Q X w0) [.ref (Q 25)]) (va_Qi (fun r z => r = X.2.2.2.2 ∧ z = mW G Q X w0) (eW G S0) (hp_A S0)) 0 0 (hp_A S0) := by
  refine Met.ofW (cc := b_Mo_thrown) (maxL := 1) (ret := (some .int)) (by decide) rfl ?_
  intro p e s m args below meth c s₁ B hml hv
  obtain ⟨rfl, hE, hI, hz⟩ := hv
  have hx := B.exec
  have hb := B.bytes
  have hr := B.returns
  have hts := atoms_spec (ws := w_Mo_thrown) B.pre
  have hg : ∀ w ∈ gw, w.before _ s = true := fun w h => hts w (List.mem_cons_of_mem _ h)
  have hown : s.vm.findClass "SceneEaselModel" = some m.cls := findClass_of_methodNamed B.named
  have hlocks := B.notSynchronized
  have hK := hE.K
  have hS : va_S (hp_A S0) s.heap s.heap [] := va_S.rf
  have hl := lv_entry ([.ref (Q 25)]) (n := 1) (Nat.le_of_ble_eq_true rfl)
  rw [lg_entry_eq]
  generalize (lg_sl ([.ref (Q 25)]) ++ List.replicate (1 - (lg_sl ([.ref (Q 25)])).length) Slot.unset).toArray = ls at hl ⊢
  have hl : lv_has ls 1 [(0, .ref (Q 25))] := hl
  refine lv_aload_n hx hb d_Mo_thrown_0 rfl (lv_at hl 0 rfl) ?_
  refine hp_get (ci := 5) (v := .int X.2.2.2.2) (C := R_Mo) (T := F_Mo) (N := 28) hx hb hg i_Mo hown hK hI (mw_o hQ) rfl 27 (by decide) (hg _ k_800) (fun _ h9 => h9) rfl d_Mo_thrown_1 ?_
  exact W.iret (v := X.2.2.2.2) hx hb hr (fun t9 ht9 hW9 => ⟨⟨X.2.2.2.2, (mW G Q X w0), rfl, ⟨rfl, rfl⟩, eWo ht9 hI⟩, hS.F ht9⟩) hS.2.2 d_Mo_thrown_4
set_option maxHeartbeats 4000000 in
set_option maxRecDepth 100000 in
theorem m_Mo_bad (l : Launch) (G : EG) (S0 : Nat) (Q : Nat → Nat) (hQ : qInj Q) (X : XS) (w0 : hp_M) (b : Bool) : Met l y_Mo_bad w_Mo_bad (rl 0 0 0) (eP G S0 (mW G Q X w0) [.ref (Q 25), .int (bI b)]) (va_Qi (fun r z => r = bI (!b) ∧ z = mW G Q (xsT X (bI (!b))) w0) (eW G S0) (hp_A S0)) 0 0 (hp_A S0) := by
  refine Met.ofW (cc := b_Mo_bad) (maxL := 2) (ret := (some .boolean)) (by decide) rfl ?_
  intro p e s m args below meth c s₁ B hml hv
  obtain ⟨rfl, hE, hI, hz⟩ := hv
  have hx := B.exec
  have hb := B.bytes
  have hr := B.returns
  have hts := atoms_spec (ws := w_Mo_bad) B.pre
  have hg : ∀ w ∈ gw, w.before _ s = true := fun w h => hts w (List.mem_cons_of_mem _ h)
  have hown : s.vm.findClass "SceneEaselModel" = some m.cls := findClass_of_methodNamed B.named
  have hlocks := B.notSynchronized
  have hK := hE.K
  have hS : va_S (hp_A S0) s.heap s.heap [] := va_S.rf
  have hl := lv_entry ([.ref (Q 25), .int (bI b)]) (n := 2) (Nat.le_of_ble_eq_true rfl)
  rw [lg_entry_eq]
  generalize (lg_sl ([.ref (Q 25), .int (bI b)]) ++ List.replicate (2 - (lg_sl ([.ref (Q 25), .int (bI b)])).length) Slot.unset).toArray = ls at hl ⊢
  have hl : lv_has ls 2 [(0, .ref (Q 25)), (1, .int (bI b))] := hl
  refine lv_aload_n hx hb d_Mo_bad_0 rfl (lv_at hl 0 rfl) ?_
  refine lv_iload_n hx hb d_Mo_bad_1 rfl (lv_at hl 1 rfl) ?_
  refine mv_zeq (tgt := 9) hx hb b rfl d_Mo_bad_2 (by decide) (fun c1 => ?_) (fun c1 => ?_)
  · refine lv_iconst (v := 1) hx hb d_Mo_bad_9 (by decide) ?_
    refine hp_putC (ci := 5) (v := .int 1) (ty := .int) (C := R_Mo) (T := F_Mo) (N := 28) hx hb hg i_Mo t_Mo t_Mo_ok n_Mo hown hK hI hS (mw_o hQ) rfl 27 (by decide) (hg _ k_800) (fun _ h9 => h9) rfl (by decide +kernel) rfl rfl (Nat.le_of_ble_eq_true rfl) d_Mo_bad_10 (fun H locs hI hS hsz => ?_)
    have hI : eI G S0 (mW G Q (xsT X 1) w0) H := by rw [← mws_T hQ]; exact hI
    refine lv_iload_n hx hb d_Mo_bad_13 rfl (lv_at hl 1 rfl) ?_
    refine mv_zne (tgt := 21) hx hb b rfl d_Mo_bad_14 (by decide) (fun c2 => ?_) (fun c2 => ?_)
    · exact absurd (c1.symm.trans c2) (by decide)
    refine lv_iconst (v := 1) hx hb d_Mo_bad_17 (by decide) ?_
    refine lv_goto (tgt := 22) hx hb d_Mo_bad_18 (by decide) ?_
    exact W.zret (v := 1) hx hb hr rfl (fun t9 ht9 hW9 => ⟨⟨1, (mW G Q (xsT X 1) w0), rfl, ⟨by rw [c1]; rfl, by rw [c1]; rfl⟩, eWo ht9 hI⟩, hS.F ht9⟩) hS.2.2 d_Mo_bad_22
  · refine lv_iconst (v := 0) hx hb d_Mo_bad_5 (by decide) ?_
    refine lv_goto (tgt := 10) hx hb d_Mo_bad_6 (by decide) ?_
    refine hp_putC (ci := 5) (v := .int 0) (ty := .int) (C := R_Mo) (T := F_Mo) (N := 28) hx hb hg i_Mo t_Mo t_Mo_ok n_Mo hown hK hI hS (mw_o hQ) rfl 27 (by decide) (hg _ k_800) (fun _ h9 => h9) rfl (by decide +kernel) rfl rfl (Nat.le_of_ble_eq_true rfl) d_Mo_bad_10 (fun H locs hI hS hsz => ?_)
    have hI : eI G S0 (mW G Q (xsT X 0) w0) H := by rw [← mws_T hQ]; exact hI
    refine lv_iload_n hx hb d_Mo_bad_13 rfl (lv_at hl 1 rfl) ?_
    refine mv_zne (tgt := 21) hx hb b rfl d_Mo_bad_14 (by decide) (fun c2 => ?_) (fun c2 => ?_)
    · refine lv_iconst (v := 0) hx hb d_Mo_bad_21 (by decide) ?_
      exact W.zret (v := 0) hx hb hr rfl (fun t9 ht9 hW9 => ⟨⟨0, (mW G Q (xsT X 0) w0), rfl, ⟨by rw [c1]; rfl, by rw [c1]; rfl⟩, eWo ht9 hI⟩, hS.F ht9⟩) hS.2.2 d_Mo_bad_22
    · exact absurd (c1.symm.trans c2) (by decide)
set_option maxHeartbeats 4000000 in
set_option maxRecDepth 100000 in
theorem m_Mo_is (l : Launch) (G : EG) (S0 : Nat) (Q : Nat → Nat) (hQ : qInj Q) (X : XS) (w0 : hp_M) (d : DS) (hM : mN X d) (n : Int32) : Met l y_Mo_is w_Mo_is (rl 0 0 0) (eP G S0 (mW G Q X w0) [.ref (Q 25), .int n]) (va_Qi (fun r z => z = mW G Q X w0 ∧ ∃ b, r = bI b ∧ (b = true ↔ isN d n)) (eW G S0) (hp_A S0)) 0 0 (hp_A S0) := by
  refine Met.ofW (cc := b_Mo_is) (maxL := 2) (ret := (some .boolean)) (by decide) rfl ?_
  intro p e s m args below meth c s₁ B hml hv
  obtain ⟨rfl, hE, hI, hz⟩ := hv
  have hx := B.exec
  have hb := B.bytes
  have hr := B.returns
  have hts := atoms_spec (ws := w_Mo_is) B.pre
  have hg : ∀ w ∈ gw, w.before _ s = true := fun w h => hts w (List.mem_cons_of_mem _ h)
  have hown : s.vm.findClass "SceneEaselModel" = some m.cls := findClass_of_methodNamed B.named
  have hlocks := B.notSynchronized
  have hK := hE.K
  have hS : va_S (hp_A S0) s.heap s.heap [] := va_S.rf
  have hl := lv_entry ([.ref (Q 25), .int n]) (n := 2) (Nat.le_of_ble_eq_true rfl)
  rw [lg_entry_eq]
  generalize (lg_sl ([.ref (Q 25), .int n]) ++ List.replicate (2 - (lg_sl ([.ref (Q 25), .int n])).length) Slot.unset).toArray = ls at hl ⊢
  have hl : lv_has ls 2 [(0, .ref (Q 25)), (1, .int n)] := hl
  refine lv_iload_n hx hb d_Mo_is_0 rfl (lv_at hl 1 rfl) ?_
  refine lv_if_lt (tgt := 23) hx hb d_Mo_is_1 (by decide) (fun c1 => ?_) (fun c1 => ?_)
  · refine lv_iconst (v := 0) hx hb d_Mo_is_23 (by decide) ?_
    exact W.zret (v := 0) hx hb hr rfl (fun t9 ht9 hW9 => ⟨⟨0, (mW G Q X w0), rfl, ⟨rfl, false, rfl, ⟨fun h => (by cases h), fun ⟨k, h1, h2, _⟩ => absurd c1 (by rw [h2]; exact Int32.not_lt.mpr (nI_pos' (by omega)))⟩⟩, eWo ht9 hI⟩, hS.F ht9⟩) hS.2.2 d_Mo_is_24
  · refine lv_iload_n hx hb d_Mo_is_4 rfl (lv_at hl 1 rfl) ?_
    refine lv_bipush (v := 14) hx hb d_Mo_is_5 (by decide) ?_
    refine lv_icmp_ge (tgt := 23) hx hb d_Mo_is_7 (by decide) (fun c2 => ?_) (fun c2 => ?_)
    · refine lv_iconst (v := 0) hx hb d_Mo_is_23 (by decide) ?_
      exact W.zret (v := 0) hx hb hr rfl (fun t9 ht9 hW9 => ⟨⟨0, (mW G Q X w0), rfl, ⟨rfl, false, rfl, ⟨fun h => (by cases h), fun ⟨k, h1, h2, _⟩ => absurd c2 (by rw [h2]; exact fun q => absurd ((nI_leI (a := 14) (b := k) (by omega) (by omega)).mp q) (by omega))⟩⟩, eWo ht9 hI⟩, hS.F ht9⟩) hS.2.2 d_Mo_is_24
    · obtain ⟨k, hk, ek⟩ := i32_nat c1 (Int32.not_le.mp c2)
      refine lv_aload_n hx hb d_Mo_is_10 rfl (lv_at hl 0 rfl) ?_
      refine hp_get (ci := 5) (v := .ref (Q 0)) (C := R_Mo) (T := F_Mo) (N := 28) hx hb hg i_Mo hown hK hI (mw_o hQ) rfl 0 (by decide) (hg _ k_773) (fun _ h9 => h9) rfl d_Mo_is_11 ?_
      refine lv_iload_n hx hb d_Mo_is_14 rfl (lv_at hl 1 rfl) ?_
      refine mv_zald hx hb hK hI 2 (X.1 0) (mw_0 hQ) rfl k (ek) (by omega) (by decide) d_Mo_is_15 ?_
      refine mv_i (y := bI (sTh d k)) (hM.th hk) ?_
      refine mv_zeq (tgt := 23) hx hb (sTh d k) rfl d_Mo_is_16 (by decide) (fun c3 => ?_) (fun c3 => ?_)
      · refine lv_iconst (v := 0) hx hb d_Mo_is_23 (by decide) ?_
        exact W.zret (v := 0) hx hb hr rfl (fun t9 ht9 hW9 => ⟨⟨0, (mW G Q X w0), rfl, ⟨rfl, false, rfl, ⟨fun h => (by cases h), fun ⟨k', h1, h2, h3⟩ => absurd h3 (by rw [show k' = k from (nI_eq (a := k') (b := k) (by omega) (by omega)).mp (h2.symm.trans ek), c3]; decide)⟩⟩, eWo ht9 hI⟩, hS.F ht9⟩) hS.2.2 d_Mo_is_24
      · refine lv_iconst (v := 1) hx hb d_Mo_is_19 (by decide) ?_
        refine lv_goto (tgt := 24) hx hb d_Mo_is_20 (by decide) ?_
        exact W.zret (v := 1) hx hb hr rfl (fun t9 ht9 hW9 => ⟨⟨1, (mW G Q X w0), rfl, ⟨rfl, true, rfl, ⟨fun _ => ⟨k, hk, ek, c3⟩, fun _ => rfl⟩⟩, eWo ht9 hI⟩, hS.F ht9⟩) hS.2.2 d_Mo_is_24
set_option maxHeartbeats 4000000 in
set_option maxRecDepth 100000 in
theorem m_Mo_isOther (l : Launch) (G : EG) (S0 : Nat) (Q : Nat → Nat) (hQ : qInj Q) (X : XS) (w0 : hp_M) (d : DS) (hM : mN X d) (n : Int32) : Met l y_Mo_isOther w_Mo_isOther (rl 1 0 0) (eP G S0 (mW G Q X w0) [.ref (Q 25), .int n]) (va_Qi (fun r z => z = mW G Q X w0 ∧ ∃ b, r = bI b ∧ (b = true ↔ isN d n ∧ n ≠ 0)) (eW G S0) (hp_A S0)) 0 0 (hp_A S0) := by
  refine Met.ofW (cc := b_Mo_isOther) (maxL := 2) (ret := (some .boolean)) (by decide) rfl ?_
  intro p e s m args below meth c s₁ B hml hv
  obtain ⟨rfl, hE, hI, hz⟩ := hv
  have hx := B.exec
  have hb := B.bytes
  have hr := B.returns
  have hts := atoms_spec (ws := w_Mo_isOther) B.pre
  have hg : ∀ w ∈ gw, w.before _ s = true := fun w h => hts w (List.mem_cons_of_mem _ h)
  have hown : s.vm.findClass "SceneEaselModel" = some m.cls := findClass_of_methodNamed B.named
  have hlocks := B.notSynchronized
  have hK := hE.K
  have hS : va_S (hp_A S0) s.heap s.heap [] := va_S.rf
  have hl := lv_entry ([.ref (Q 25), .int n]) (n := 2) (Nat.le_of_ble_eq_true rfl)
  rw [lg_entry_eq]
  generalize (lg_sl ([.ref (Q 25), .int n]) ++ List.replicate (2 - (lg_sl ([.ref (Q 25), .int n])).length) Slot.unset).toArray = ls at hl ⊢
  have hl : lv_has ls 2 [(0, .ref (Q 25)), (1, .int n)] := hl
  refine lv_iload_n hx hb d_Mo_isOther_0 rfl (lv_at hl 1 rfl) ?_
  refine lv_if_le (tgt := 16) hx hb d_Mo_isOther_1 (by decide) (fun c1 => ?_) (fun c1 => ?_)
  · refine lv_iconst (v := 0) hx hb d_Mo_isOther_16 (by decide) ?_
    exact W.zret (v := 0) hx hb hr rfl (fun t9 ht9 hW9 => ⟨⟨0, (mW G Q X w0), rfl, ⟨rfl, false, rfl, ⟨fun h => (by cases h), fun ⟨⟨k, h1, h2, _⟩, h3⟩ => absurd (Int32.le_antisymm c1 (by rw [h2]; exact nI_pos' (by omega))) h3⟩⟩, eWo ht9 hI⟩, hS.F ht9⟩) hS.2.2 d_Mo_isOther_17
  · refine lv_aload_n hx hb d_Mo_isOther_4 rfl (lv_at hl 0 rfl) ?_
    refine lv_iload_n hx hb d_Mo_isOther_5 rfl (lv_at hl 1 rfl) ?_
    refine ec_i (va_runV (As := [.int n]) (rest := []) ⟨hx, hb, hml, hown, hts⟩ (m_Mo_is l G S0 Q hQ X w0 d hM n) (cwV 1 hts (gw_V k_871 k_873 k_44 k_67 k_874) rfl rfl rfl (by decide +kernel) ⟨Nat.le_of_ble_eq_true rfl, Nat.le_of_ble_eq_true rfl⟩) (eB.preV hE hI hS hz rfl (mw_o hQ)) rfl rfl hl.1 rfl (lv_room (Nat.le_of_ble_eq_true rfl)) d_Mo_isOther_6 ⟨Nat.le_of_ble_eq_true rfl, Nat.le_of_ble_eq_true rfl⟩) hS (fun r_2 w_1 H locs ew_1 hI hsz hS => ?_)
    obtain ⟨ew_1, h1⟩ := ew_1
    have ew_1 := ew_1.symm
    subst ew_1
    obtain ⟨b, eb, h1⟩ := h1
    subst eb
    refine mv_zeq (tgt := 16) hx hb b rfl d_Mo_isOther_9 (by decide) (fun c2 => ?_) (fun c2 => ?_)
    · refine lv_iconst (v := 0) hx hb d_Mo_isOther_16 (by decide) ?_
      exact W.zret (v := 0) hx hb hr rfl (fun t9 ht9 hW9 => ⟨⟨0, (mW G Q X w0), rfl, ⟨rfl, false, rfl, ⟨fun h => (by cases h), fun h => absurd (h1.mpr h.1) (by rw [c2]; decide)⟩⟩, eWo ht9 hI⟩, hS.F ht9⟩) hS.2.2 d_Mo_isOther_17
    · refine lv_iconst (v := 1) hx hb d_Mo_isOther_12 (by decide) ?_
      refine lv_goto (tgt := 17) hx hb d_Mo_isOther_13 (by decide) ?_
      exact W.zret (v := 1) hx hb hr rfl (fun t9 ht9 hW9 => ⟨⟨1, (mW G Q X w0), rfl, ⟨rfl, true, rfl, ⟨fun _ => ⟨h1.mp c2, fun e => c1 (by rw [e]; decide)⟩, fun _ => rfl⟩⟩, eWo ht9 hI⟩, hS.F ht9⟩) hS.2.2 d_Mo_isOther_17
set_option maxHeartbeats 4000000 in
set_option maxRecDepth 100000 in
theorem m_Mo_isGroup (l : Launch) (G : EG) (S0 : Nat) (Q : Nat → Nat) (hQ : qInj Q) (X : XS) (w0 : hp_M) (d : DS) (hM : mN X d) (n : Int32) : Met l y_Mo_isGroup w_Mo_isGroup (rl 1 0 0) (eP G S0 (mW G Q X w0) [.ref (Q 25), .int n]) (va_Qi (fun r z => z = mW G Q X w0 ∧ ∃ b, r = bI b ∧ (b = true ↔ isGroup d n)) (eW G S0) (hp_A S0)) 0 0 (hp_A S0) := by
  refine Met.ofW (cc := b_Mo_isGroup) (maxL := 2) (ret := (some .boolean)) (by decide) rfl ?_
  intro p e s m args below meth c s₁ B hml hv
  obtain ⟨rfl, hE, hI, hz⟩ := hv
  have hx := B.exec
  have hb := B.bytes
  have hr := B.returns
  have hts := atoms_spec (ws := w_Mo_isGroup) B.pre
  have hg : ∀ w ∈ gw, w.before _ s = true := fun w h => hts w (List.mem_cons_of_mem _ h)
  have hown : s.vm.findClass "SceneEaselModel" = some m.cls := findClass_of_methodNamed B.named
  have hlocks := B.notSynchronized
  have hK := hE.K
  have hS : va_S (hp_A S0) s.heap s.heap [] := va_S.rf
  have hl := lv_entry ([.ref (Q 25), .int n]) (n := 2) (Nat.le_of_ble_eq_true rfl)
  rw [lg_entry_eq]
  generalize (lg_sl ([.ref (Q 25), .int n]) ++ List.replicate (2 - (lg_sl ([.ref (Q 25), .int n])).length) Slot.unset).toArray = ls at hl ⊢
  have hl : lv_has ls 2 [(0, .ref (Q 25)), (1, .int n)] := hl
  refine lv_aload_n hx hb d_Mo_isGroup_0 rfl (lv_at hl 0 rfl) ?_
  refine lv_iload_n hx hb d_Mo_isGroup_1 rfl (lv_at hl 1 rfl) ?_
  refine ec_i (va_runV (As := [.int n]) (rest := []) ⟨hx, hb, hml, hown, hts⟩ (m_Mo_is l G S0 Q hQ X w0 d hM n) (cwV 1 hts (gw_V k_871 k_873 k_44 k_67 k_874) rfl rfl rfl (by decide +kernel) ⟨Nat.le_of_ble_eq_true rfl, Nat.le_of_ble_eq_true rfl⟩) (eB.preV hE hI hS hz rfl (mw_o hQ)) rfl rfl hl.1 rfl (lv_room (Nat.le_of_ble_eq_true rfl)) d_Mo_isGroup_2 ⟨Nat.le_of_ble_eq_true rfl, Nat.le_of_ble_eq_true rfl⟩) hS (fun r_2 w_1 H locs ew_1 hI hsz hS => ?_)
  obtain ⟨ew_1, h1⟩ := ew_1
  have ew_1 := ew_1.symm
  subst ew_1
  obtain ⟨b, eb, h1⟩ := h1
  subst eb
  refine mv_zeq (tgt := 21) hx hb b rfl d_Mo_isGroup_5 (by decide) (fun c1 => ?_) (fun c1 => ?_)
  · refine lv_iconst (v := 0) hx hb d_Mo_isGroup_21 (by decide) ?_
    exact W.zret (v := 0) hx hb hr rfl (fun t9 ht9 hW9 => ⟨⟨0, (mW G Q X w0), rfl, ⟨rfl, false, rfl, ⟨fun h => (by cases h), fun ⟨k, q1, q2, q3, _⟩ => absurd (h1.mpr ⟨k, q1, q2, q3⟩) (by rw [c1]; decide)⟩⟩, eWo ht9 hI⟩, hS.F ht9⟩) hS.2.2 d_Mo_isGroup_22
  · obtain ⟨k, hk, ek, ht⟩ := h1.mp c1
    refine lv_aload_n hx hb d_Mo_isGroup_8 rfl (lv_at hl 0 rfl) ?_
    refine hp_get (ci := 5) (v := .ref (Q 4)) (C := R_Mo) (T := F_Mo) (N := 28) hx hb hg i_Mo hown hK hI (mw_o hQ) rfl 4 (by decide) (hg _ k_777) (fun _ h9 => h9) rfl d_Mo_isGroup_9 ?_
    refine lv_iload_n hx hb d_Mo_isGroup_12 rfl (lv_at hl 1 rfl) ?_
    refine mv_iald hx hb hK hI 0 (X.1 4) (mw_4 hQ) rfl k (ek) (by omega) (by decide) d_Mo_isGroup_13 ?_
    refine mv_i (y := sNi d k 0) (hM.ki hk ht) ?_
    refine lv_if_ne (tgt := 21) hx hb d_Mo_isGroup_14 (by decide) (fun c2 => ?_) (fun c2 => ?_)
    · refine lv_iconst (v := 0) hx hb d_Mo_isGroup_21 (by decide) ?_
      exact W.zret (v := 0) hx hb hr rfl (fun t9 ht9 hW9 => ⟨⟨0, (mW G Q X w0), rfl, ⟨rfl, false, rfl, ⟨fun h => (by cases h), fun ⟨k', q1, q2, q3, q4⟩ => absurd q4 (by rw [show k' = k from (nI_eq (a := k') (b := k) (by omega) (by omega)).mp (q2.symm.trans ek)]; exact c2)⟩⟩, eWo ht9 hI⟩, hS.F ht9⟩) hS.2.2 d_Mo_isGroup_22
    · refine lv_iconst (v := 1) hx hb d_Mo_isGroup_17 (by decide) ?_
      refine lv_goto (tgt := 22) hx hb d_Mo_isGroup_18 (by decide) ?_
      exact W.zret (v := 1) hx hb hr rfl (fun t9 ht9 hW9 => ⟨⟨1, (mW G Q X w0), rfl, ⟨rfl, true, rfl, ⟨fun _ => ⟨k, hk, ek, ht, c2⟩, fun _ => rfl⟩⟩, eWo ht9 hI⟩, hS.F ht9⟩) hS.2.2 d_Mo_isGroup_22

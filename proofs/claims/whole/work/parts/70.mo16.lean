/-! the model: boxes -/
def dgB (p : Int × Int) : B4 := (p.1, p.2, p.1, p.2)
def dgD (p : UInt64 × UInt64) : D4 := (p.1, p.2, p.1, p.2)
theorem tsB_dg (p : Int × Int) : ∀ t, (tsB (dgB p) t).2.2.1 = (tsB (dgB p) t).1 ∧ (tsB (dgB p) t).2.2.2 = (tsB (dgB p) t).2.1
  | 0 => ⟨rfl, rfl⟩
  | t + 1 => by
    obtain ⟨h1, h2⟩ := tsB_dg p t
    show -(tsB (dgB p) t).2.1 = -(tsB (dgB p) t).2.2.2 ∧ (tsB (dgB p) t).2.2.1 = (tsB (dgB p) t).1
    exact ⟨by rw [h2], h1⟩
theorem tsD_dg (p : UInt64 × UInt64) : ∀ t, (tsD (dgD p) t).2.2.1 = (tsD (dgD p) t).1 ∧ (tsD (dgD p) t).2.2.2 = (tsD (dgD p) t).2.1
  | 0 => ⟨rfl, rfl⟩
  | t + 1 => by
    obtain ⟨h1, h2⟩ := tsD_dg p t
    show FP.dneg (tsD (dgD p) t).2.1 = FP.dneg (tsD (dgD p) t).2.2.2 ∧ (tsD (dgD p) t).2.2.1 = (tsD (dgD p) t).1
    exact ⟨by rw [h2], h1⟩
theorem tnB_jn (a b : B4) : tnB (jnB a b) = jnB (tnB a) (tnB b) := by
  unfold tnB jnB
  refine Prod.ext ?_ (Prod.ext ?_ (Prod.ext ?_ ?_)) <;> dsimp only <;> omega
theorem tsB_jn (a b : B4) : ∀ t, tsB (jnB a b) t = jnB (tsB a t) (tsB b t)
  | 0 => rfl
  | t + 1 => by
    show tnB (tsB (jnB a b) t) = _
    rw [tsB_jn a b t, tnB_jn]
    rfl
theorem mul_min {v : Int} (hv : 0 ≤ v) (m n : Int) : min m n * v = min (m * v) (n * v) := by
  rcases Int.le_total m n with h | h
  · rw [Int.min_eq_left h, Int.min_eq_left (Int.mul_le_mul_of_nonneg_right h hv)]
  · rw [Int.min_eq_right h, Int.min_eq_right (Int.mul_le_mul_of_nonneg_right h hv)]
theorem mul_max {v : Int} (hv : 0 ≤ v) (m n : Int) : max m n * v = max (m * v) (n * v) := by
  rcases Int.le_total m n with h | h
  · rw [Int.max_eq_right h, Int.max_eq_right (Int.mul_le_mul_of_nonneg_right h hv)]
  · rw [Int.max_eq_left h, Int.max_eq_left (Int.mul_le_mul_of_nonneg_right h hv)]
theorem scB_jn {v : Int} (hv : 0 ≤ v) (a b : B4) : scB v (jnB a b) = jnB (scB v a) (scB v b) := by
  unfold scB jnB
  refine Prod.ext ?_ (Prod.ext ?_ (Prod.ext ?_ ?_)) <;> dsimp only
  · exact mul_min hv _ _
  · exact mul_min hv _ _
  · exact mul_max hv _ _
  · exact mul_max hv _ _
theorem shB_jn (X Y : Int) (a b : B4) : shB X Y (jnB a b) = jnB (shB X Y a) (shB X Y b) := by
  unfold shB jnB
  refine Prod.ext ?_ (Prod.ext ?_ (Prod.ext ?_ ?_)) <;> dsimp only <;> omega
theorem lyB_jn {f : Nat} {X Y : Int} {t : Nat} {s : Int32} (hs : s5 s) (a b : B4) : lyB f X Y t s (jnB a b) = jnB (lyB f X Y t s a) (lyB f X Y t s b) := by
  unfold lyB
  rw [scB_jn (by have := (sc5_fx hs).1; omega), tsB_jn, shB_jn]
/-- left is left of right, below is below above -/
def oB (q : B4) : Prop := q.1 ≤ q.2.2.1 ∧ q.2.1 ≤ q.2.2.2
theorem oB.dg {q : B4} (h : oB q) : q = jnB (dgB (q.1, q.2.1)) (dgB (q.2.2.1, q.2.2.2)) := by
  obtain ⟨h1, h2⟩ := h
  unfold jnB dgB
  refine Prod.ext ?_ (Prod.ext ?_ (Prod.ext ?_ ?_)) <;> dsimp only <;> omega
theorem oB.jn {a b : B4} (ha : oB a) (hb : oB b) : oB (jnB a b) := by
  obtain ⟨h1, h2⟩ := ha
  obtain ⟨h3, h4⟩ := hb
  unfold jnB oB
  dsimp only
  omega
theorem lyB_dg {f : Nat} {X Y : Int} {t : Nat} {s : Int32} (p : Int × Int) : (lyB f X Y t s (dgB p)).2.2.1 = (lyB f X Y t s (dgB p)).1 ∧ (lyB f X Y t s (dgB p)).2.2.2 = (lyB f X Y t s (dgB p)).2.1 := by
  obtain ⟨h1, h2⟩ := tsB_dg (p.1 * sc5 s, p.2 * sc5 s) t
  have e : scB (sc5 s) (dgB p) = dgB (p.1 * sc5 s, p.2 * sc5 s) := rfl
  unfold lyB
  rw [e]
  unfold shB
  dsimp only
  rw [h1, h2]
  exact ⟨rfl, rfl⟩
theorem lyB_o {f : Nat} {X Y : Int} {t : Nat} {s : Int32} (hs : s5 s) {q : B4} (h : oB q) : oB (lyB f X Y t s q) := by
  rw [h.dg, lyB_jn hs]
  obtain ⟨a1, a2⟩ := lyB_dg (f := f) (X := X) (Y := Y) (t := t) (s := s) (q.1, q.2.1)
  obtain ⟨b1, b2⟩ := lyB_dg (f := f) (X := X) (Y := Y) (t := t) (s := s) (q.2.2.1, q.2.2.2)
  exact oB.jn ⟨by rw [a1]; exact Int.le_refl _, by rw [a2]; exact Int.le_refl _⟩ ⟨by rw [b1]; exact Int.le_refl _, by rw [b2]; exact Int.le_refl _⟩
/-- the box of a node before it is laid out -/
def iB (d : DS) (dp : Nat → Nat) (u : UInt64) (k : Nat) : Option B4 := if sNi d k 0 = 0 then kdB d (arB d dp u) (sCh d k) else some (spB d (5 - dp k) k)
theorem kd_congr {d : DS} {T T' : Nat → Option B4} : ∀ (L : List Nat) (a : Option B4), (∀ c ∈ L, T c = T' c) → L.foldl (fun acc c => if sNi d c 2 = 0 then jnO acc (T c) else acc) a = L.foldl (fun acc c => if sNi d c 2 = 0 then jnO acc (T' c) else acc) a
  | [], _, _ => rfl
  | c :: L, a, h => by
    rw [List.foldl_cons, List.foldl_cons, h c List.mem_cons_self]
    exact kd_congr L _ (fun c hc => h c (List.mem_cons_of_mem _ hc))
theorem arB_c {d : DS} {dp : Nat → Nat} (htr : tOk d dp) {u : UInt64} {g c : Nat} (hg : g < 14) (hgt : sTh d g = true) (hc : c ∈ sCh d g) : arB d dp u c = bA d (nxV d u) (nsV d u) (5 - dp g) c := by
  obtain ⟨h1, h2, h3, h4, h5, h6⟩ := htr.child hg hgt hc
  unfold arB
  rw [if_neg h4, show 5 - dp c + 1 = 5 - dp g by omega]
theorem arB_0 {d : DS} {dp : Nat → Nat} (htr : tOk d dp) {u : UInt64} : arB d dp u 0 = iB d dp u 0 := by
  unfold iB
  rw [if_pos htr.2.2.1]
  show (if (0 : Nat) = 0 then kdB d (bA d (nxV d u) (nsV d u) 5) (sCh d 0) else _) = _
  rw [if_pos rfl]
  refine kd_congr _ _ (fun c hc => ?_)
  rw [arB_c htr (by decide) htr.1 hc, htr.2.2.2.1]
theorem arB_s {d : DS} {dp : Nat → Nat} (htr : tOk d dp) {u : UInt64} {k : Nat} (hk : k < 14) (ht : sTh d k = true) (h0 : k ≠ 0) : arB d dp u k = (iB d dp u k).map (lyB (5 - dp k) (fxv 6 (nxV d u k 0)) (fxv 6 (nxV d u k 1)) (tu d k) (nsV d u k)) := by
  have e : kdB d (arB d dp u) (sCh d k) = kdB d (bA d (nxV d u) (nsV d u) (5 - dp k)) (sCh d k) := kd_congr _ _ (fun c hc => arB_c htr hk ht hc)
  unfold iB
  rw [e]
  unfold arB
  rw [if_neg h0]
  rfl
theorem spB_o {d : DS} {f k : Nat} (hv : vOk1 d k) : oB (spB d f k) := by
  obtain ⟨-, -, -, -, -, -, ⟨P, p1, p2, p3⟩, ⟨Q, q1, q2, q3⟩, -⟩ := hv
  unfold spB
  rw [fxv_eq p1, fxv_eq q1]
  have h2 : (0 : Int) ≤ ((2 ^ (3 + 2 * f) : Nat) : Int) := Int.natCast_nonneg _
  have e1 : 0 ≤ P * ((2 ^ (3 + 2 * f) : Nat) : Int) := Int.mul_nonneg (by omega) h2
  have e2 : 0 ≤ Q * ((2 ^ (3 + 2 * f) : Nat) : Int) := Int.mul_nonneg (by omega) h2
  split
  · exact ⟨by show -(P * _) ≤ P * _; omega, by show -(P * _) ≤ P * _; omega⟩
  · exact ⟨e1, e2⟩
theorem kdB_o {d : DS} {T : Nat → Option B4} : ∀ (L : List Nat) (a : Option B4), (∀ x ∈ L, ∀ q, T x = some q → oB q) → (∀ q, a = some q → oB q) → ∀ q, L.foldl (fun acc x => if sNi d x 2 = 0 then jnO acc (T x) else acc) a = some q → oB q
  | [], a, _, ha => ha
  | x :: xs, a, hT, ha => by
    rw [List.foldl_cons]
    refine kdB_o xs _ (fun y hy => hT y (List.mem_cons_of_mem _ hy)) ?_
    intro q hq
    have hx := hT x List.mem_cons_self
    split at hq
    · cases hTx : T x with
      | none => rw [hTx] at hq; exact ha q hq
      | some r =>
        rw [hTx] at hq
        cases ha' : a with
        | none => rw [ha'] at hq; cases hq; exact hx _ hTx
        | some p => rw [ha'] at hq; cases hq; exact (ha p ha').jn (hx r hTx)
    · exact ha q hq
theorem bA_o {d : DS} {dp : Nat → Nat} {u : UInt64} (htr : tOk d dp) (hv : vOk d) : ∀ f k, k < 14 → sTh d k = true → ∀ q, bA d (nxV d u) (nsV d u) f k = some q → oB q
  | 0, _, _, _, q, h => by cases h
  | f + 1, k, hk, hkt, q, hq => by
    have hq : (if sNi d k 0 = 0 then kdB d (bA d (nxV d u) (nsV d u) f) (sCh d k) else some (spB d f k)).map (lyB f (fxv 6 (nxV d u k 0)) (fxv 6 (nxV d u k 1)) (tu d k) (nsV d u k)) = some q := hq
    cases ho : (if sNi d k 0 = 0 then kdB d (bA d (nxV d u) (nsV d u) f) (sCh d k) else some (spB d f k)) with
    | none => rw [ho] at hq; cases hq
    | some p =>
      rw [ho] at hq
      cases hq
      refine lyB_o (nsV_ok hv hk hkt) ?_
      split at ho
      · exact kdB_o _ none (fun x hx q h => bA_o htr hv f x (htr.child hk hkt hx).1 (htr.child hk hkt hx).2.1 q h) (fun q h => by cases h) p ho
      · cases ho; exact spB_o (hv k hk hkt)
theorem iB_ok {d : DS} {dp : Nat → Nat} {u : UInt64} (htr : tOk d dp) (hv : vOk d) (hu : tiO u) {k : Nat} (hk : k < 14) (ht : sTh d k = true) {q : B4} (hq : iB d dp u k = some q) : oB q ∧ bB (Qb (5 - dp k) * 2 ^ (6 + 2 * (5 - dp k))) q := by
  have hrd : rdy d (nxV d u) (nsV d u) := fun k hk ht => ⟨nxV_ok hv hu hk ht (by decide), nxV_ok hv hu hk ht (by decide), nsV_ok hv hk ht⟩
  have h5 := htr.2.2.2.2.2.2 k hk ht
  unfold iB at hq
  split at hq
  · refine ⟨kdB_o _ none (fun x hx q h => ?_) (fun q h => by cases h) q hq, kdB_b _ none (fun x hx => ?_) (fun q h => by cases h) q hq⟩
    · rw [arB_c htr hk ht hx] at h
      exact bA_o htr hv _ x (htr.child hk ht hx).1 (htr.child hk ht hx).2.1 q h
    · rw [arB_c htr hk ht hx]
      exact bA_b htr hv hrd _ (by omega) x (htr.child hk ht hx).1 (htr.child hk ht hx).2.1
  · cases hq
    exact ⟨spB_o (hv k hk ht), (sp_ok (by omega) (hv k hk ht)).2⟩
/-- a row of the boxes widened -/
def wdX (X : XS) (r : Nat) (v : UInt64) : XS := xsD (xsD X 22 (mWl (X.2.1 22) r v)) 23 (mWh (X.2.1 23) r v)
/-- a point laid out -/
def lyI (d : DS) (dp : Nat → Nat) (u : UInt64) (k : Nat) (p : Int × Int) : B4 := if k = 0 then dgB p else lyB (5 - dp k) (fxv 6 (nxV d u k 0)) (fxv 6 (nxV d u k 1)) (tu d k) (nsV d u k) (dgB p)
theorem dmul_1 {g : Nat} {n : Int} {x : UInt64} (hg : g ≤ 100) (h : fx g n x) (hb : n.natAbs < 2 ^ 53) : fx g n (FP.dmul x FP.dconst1) := by
  have := fx_mul (by omega) h fx_c1 (by rw [Int.mul_one]; exact hb)
  rw [Int.mul_one] at this
  exact this
theorem Qb_53 {f : Nat} (hf : f ≤ 5) : Qb f * 2 ^ (6 + 2 * f) < 2 ^ 53 := by
  rcases (show f = 0 ∨ f = 1 ∨ f = 2 ∨ f = 3 ∨ f = 4 ∨ f = 5 by omega) with rfl | rfl | rfl | rfl | rfl | rfl <;> decide
set_option maxHeartbeats 4000000 in
set_option maxRecDepth 100000 in
theorem m_Mo_layOut (l : Launch) (G : EG) (S0 : Nat) (Q : Nat → Nat) (hQ : qInj Q) (X : XS) (w0 : hp_M) (d : DS) (dp : Nat → Nat) (htr : tOk d dp) (hM : mV X d) (hv1 : vOk d) (hr0 : sNi d 0 3 = 0) (k : Nat) (hk : k < 14) (hkt : sTh d k = true) (x y u : UInt64) (hu : tiO u) (p0 : Int × Int) (hpx : fx (6 + 2 * (5 - dp k)) p0.1 x) (hpy : fx (6 + 2 * (5 - dp k)) p0.2 y) (hb1 : p0.1.natAbs ≤ Qb (5 - dp k) * 2 ^ (6 + 2 * (5 - dp k))) (hb2 : p0.2.natAbs ≤ Qb (5 - dp k) * 2 ^ (6 + 2 * (5 - dp k))) : Met l y_Mo_layOut w_Mo_layOut (rl 2 0 0) (eP G S0 (mW G Q X w0) [.ref (Q 25), .int (nI k), .double x, .double y, .double u]) (va_Qv (fun z => ∃ c' e', z = mW G Q (wdX (wdX X (k * 2) c') (k * 2 + 1) e') w0 ∧ fx (arG dp k) (lyI d dp u k p0).1 c' ∧ fx (arG dp k) (lyI d dp u k p0).2.1 e') (eW G S0) (hp_A S0)) 0 0 (hp_A S0) := by
  refine Met.ofW (cc := b_Mo_layOut) (maxL := 17) (ret := none) (by decide) rfl ?_
  intro p e s m args below meth c s₁ B hml hv
  obtain ⟨rfl, hE, hI, hz⟩ := hv
  have hx := B.exec
  have hb := B.bytes
  have hr := B.returns
  have hts := atoms_spec (ws := w_Mo_layOut) B.pre
  have hg : ∀ w ∈ gw, w.before _ s = true := fun w h => hts w (List.mem_cons_of_mem _ h)
  have hown : s.vm.findClass "SceneEaselModel" = some m.cls := findClass_of_methodNamed B.named
  have hlocks := B.notSynchronized
  have hK := hE.K
  have hS : va_S (hp_A S0) s.heap s.heap [] := va_S.rf
  have hl := lv_entry ([.ref (Q 25), .int (nI k), .double x, .double y, .double u]) (n := 17) (Nat.le_of_ble_eq_true rfl)
  rw [lg_entry_eq]
  generalize (lg_sl ([.ref (Q 25), .int (nI k), .double x, .double y, .double u]) ++ List.replicate (17 - (lg_sl ([.ref (Q 25), .int (nI k), .double x, .double y, .double u])).length) Slot.unset).toArray = ls at hl ⊢
  have hl : lv_has ls 17 [(0, .ref (Q 25)), (1, .int (nI k)), (2, .double x), (4, .double y), (6, .double u)] := hl
  obtain ⟨-, -, -, ⟨tn, htn, etn⟩, -⟩ := hv1 k hk hkt
  have etu := tu_of htn etn
  have hk5 := htr.2.2.2.2.2.2 k hk hkt
  refine lv_iload_n hx hb d_Mo_layOut_0 rfl (lv_at hl 1 rfl) ?_
  refine W.midw (G := G) (S0 := S0) (fun (q : UInt64 × UInt64) => match q with | (c', e') => fx (arG dp k) (lyI d dp u k p0).1 c' ∧ fx (arG dp k) (lyI d dp u k p0).2.1 e') (fun (q : UInt64 × UInt64) => match q with | (c', e') => (mW G Q X w0)) (fun (q : UInt64 × UInt64) => match q with | (c', e') => [(10, .double c'), (12, .double e'), (0, .ref (Q 25)), (1, .int (nI k))]) (fun (q : UInt64 × UInt64) => match q with | (c', e') => 0) (fun (q : UInt64 × UInt64) => match q with | (c', e') => 0) 17 97 (fun (q : UInt64 × UInt64) => match q with | (c', e') => []) ?_ (fun T => ?_)
  · rintro ⟨c', e'⟩ ls H locs hP hl hI hS
    try dsimp only at hP hl hI ⊢
    refine lv_aload_n hx hb d_Mo_layOut_97 rfl (lv_at hl 2 rfl) ?_
    refine lv_iload_n hx hb d_Mo_layOut_98 rfl (lv_at hl 3 rfl) ?_
    refine lv_iconst (v := 2) hx hb d_Mo_layOut_99 (by decide) ?_
    refine mv_imul hx hb k 2 rfl rfl d_Mo_layOut_100 ?_
    refine lv_dload hx hb d_Mo_layOut_101 (lv_at hl 0 rfl) ?_
    refine ec_v (va_runV (As := [.int (nI (k * 2)), .double c']) (rest := []) ⟨hx, hb, hml, hown, hts⟩ (m_Mo_widen l G S0 Q hQ X w0 (k * 2) (by omega) c') (cwV 2 hts (gw_V k_1003 k_1005 k_57 k_67 k_1006) rfl rfl rfl (by decide +kernel) ⟨Nat.le_of_ble_eq_true rfl, Nat.le_of_ble_eq_true rfl⟩) (eB.preV hE hI hS hz rfl (mw_o hQ)) rfl rfl hl.1 rfl (lv_room (Nat.le_of_ble_eq_true rfl)) d_Mo_layOut_103 ⟨Nat.le_of_ble_eq_true rfl, Nat.le_of_ble_eq_true rfl⟩) hS (fun w_1 H locs ew_1 hI hsz hS => ?_)
    subst ew_1
    refine lv_aload_n hx hb d_Mo_layOut_106 rfl (lv_at hl 2 rfl) ?_
    refine lv_iload_n hx hb d_Mo_layOut_107 rfl (lv_at hl 3 rfl) ?_
    refine lv_iconst (v := 2) hx hb d_Mo_layOut_108 (by decide) ?_
    refine mv_imul hx hb k 2 rfl rfl d_Mo_layOut_109 ?_
    refine lv_iconst (v := 1) hx hb d_Mo_layOut_110 (by decide) ?_
    refine mv_iadd hx hb (k * 2) 1 rfl rfl d_Mo_layOut_111 ?_
    refine lv_dload hx hb d_Mo_layOut_112 (lv_at hl 1 rfl) ?_
    refine ec_v (va_runV (As := [.int (nI (k * 2 + 1)), .double e']) (rest := []) ⟨hx, hb, hml, hown, hts⟩ (m_Mo_widen l G S0 Q hQ (wdX X (k * 2) c') w0 (k * 2 + 1) (by omega) e') (cwV 2 hts (gw_V k_1003 k_1005 k_57 k_67 k_1006) rfl rfl rfl (by decide +kernel) ⟨Nat.le_of_ble_eq_true rfl, Nat.le_of_ble_eq_true rfl⟩) (eB.preV hE hI hS hz rfl (mw_o hQ)) rfl rfl hl.1 rfl (lv_room (Nat.le_of_ble_eq_true rfl)) d_Mo_layOut_114 ⟨Nat.le_of_ble_eq_true rfl, Nat.le_of_ble_eq_true rfl⟩) hS (fun w_2 H locs ew_2 hI hsz hS => ?_)
    subst ew_2
    exact W.vret hx hb hr (fun t9 ht9 hW9 => ⟨⟨(mW G Q (wdX (wdX X (k * 2) c') (k * 2 + 1) e') w0), rfl, ⟨c', e', rfl, hP.1, hP.2⟩, eWo ht9 hI⟩, hS.F ht9⟩) hS.2.2 d_Mo_layOut_117
  · refine mv_ile (tgt := 18) hx hb k rfl (by omega) d_Mo_layOut_1 (by decide) (fun c1 => ?_) (fun c1 => ?_)
    · have htn0 : tn = 0 := by
        have : nI tn = nI 0 := by rw [← etn, c1, hr0]; rfl
        exact (nI_eq (a := tn) (b := 0) (by omega) (by decide)).mp this
      have hdp : dp k = 0 := by rw [c1]; exact htr.2.2.2.1
      have hg16 : 6 + 2 * (5 - dp k) = arG dp k := by unfold arG; rw [if_pos c1, hdp]
      have h53 := Qb_53 (show 5 - dp k ≤ 5 by omega)
      have m1 := dmul_1 (by omega) hpx (by omega)
      have m2 := dmul_1 (by omega) hpy (by omega)
      rw [hg16] at m1 m2
      refine lv_dconst1 hx hb d_Mo_layOut_18 ?_
      refine lv_dstore (lv' := [(8, .double FP.dconst1), (0, .ref (Q 25)), (1, .int (nI k)), (2, .double x), (4, .double y), (6, .double u)]) hx hb d_Mo_layOut_19 hl (by decide) rfl (fun ls hl => ?_)
      refine lv_dload_n hx hb d_Mo_layOut_21 rfl (lv_at hl 3 rfl) ?_
      refine lv_dload hx hb d_Mo_layOut_22 (lv_at hl 0 rfl) ?_
      refine lv_dmul hx hb d_Mo_layOut_24 m1.nn ?_
      refine lv_dstore (lv' := [(10, .double (FP.dmul x FP.dconst1)), (8, .double FP.dconst1), (0, .ref (Q 25)), (1, .int (nI k)), (2, .double x), (4, .double y), (6, .double u)]) hx hb d_Mo_layOut_25 hl (by decide) rfl (fun ls hl => ?_)
      refine lv_dload hx hb d_Mo_layOut_27 (lv_at hl 5 rfl) ?_
      refine lv_dload hx hb d_Mo_layOut_29 (lv_at hl 1 rfl) ?_
      refine lv_dmul hx hb d_Mo_layOut_31 m2.nn ?_
      refine lv_dstore (lv' := [(12, .double (FP.dmul y FP.dconst1)), (10, .double (FP.dmul x FP.dconst1)), (8, .double FP.dconst1), (0, .ref (Q 25)), (1, .int (nI k)), (2, .double x), (4, .double y), (6, .double u)]) hx hb d_Mo_layOut_32 hl (by decide) rfl (fun ls hl => ?_)
      refine lv_iconst (v := 0) hx hb d_Mo_layOut_34 (by decide) ?_
      refine lv_istore (lv' := [(14, .int 0), (12, .double (FP.dmul y FP.dconst1)), (10, .double (FP.dmul x FP.dconst1)), (8, .double FP.dconst1), (0, .ref (Q 25)), (1, .int (nI k)), (2, .double x), (4, .double y), (6, .double u)]) hx hb d_Mo_layOut_35 hl (by decide) rfl (fun ls hl => ?_)
      refine lv_iload hx hb d_Mo_layOut_37 (lv_at hl 0 rfl) ?_
      refine lv_aload_n hx hb d_Mo_layOut_39 rfl (lv_at hl 4 rfl) ?_
      refine hp_get (ci := 5) (v := .ref (Q 9)) (C := R_Mo) (T := F_Mo) (N := 28) hx hb hg i_Mo hown hK hI (mw_o hQ) rfl 9 (by decide) (hg _ k_782) (fun _ h9 => h9) rfl d_Mo_layOut_40 ?_
      refine lv_iload_n hx hb d_Mo_layOut_43 rfl (lv_at hl 5 rfl) ?_
      refine mv_iald hx hb hK hI 0 (X.1 9) (mw_9 hQ) rfl k (rfl) (by omega) (by decide) d_Mo_layOut_44 ?_
      refine mv_i (y := nI tn) ((hM.tu hk hkt).trans etn) ?_
      refine mv_cge (tgt := 67) hx hb 0 tn rfl rfl (by omega) (by omega) d_Mo_layOut_45 (by decide) (fun c2 => ?_) (fun c2 => ?_)
      · refine lv_iload_n hx hb d_Mo_layOut_67 rfl (lv_at hl 5 rfl) ?_
        refine mv_ile (tgt := 97) hx hb k rfl (by omega) d_Mo_layOut_68 (by decide) (fun c3 => ?_) (fun c3 => ?_)
        · exact T ((FP.dmul x FP.dconst1, FP.dmul y FP.dconst1)) _ _ _ (by unfold lyI; rw [if_pos c1]; exact ⟨m1, m2⟩) (lv_sub hl [2, 1, 4, 5] rfl) hI hS
        · omega
      · omega
    · have hk0 : k ≠ 0 := by omega
      obtain ⟨g, hg1, hpa, hgt, -, hdp, -⟩ := htr.2.2.2.2.1 k hk hkt hk0
      obtain ⟨sv, sv1, sv2, sv3⟩ := vJ_s (u := u) (hv1 k hk hkt)
      have hq0 : exQ (6 + 2 * (5 - dp k)) (dgB p0) (dgD (x, y)) := ⟨hpx, hpy, hpx, hpy⟩
      have hbq : bB (Qb (5 - dp k) * 2 ^ (6 + 2 * (5 - dp k))) (dgB p0) := ⟨hb1, hb2, hb1, hb2⟩
      obtain ⟨L1, L2, L3⟩ := ly_ok (show 5 - dp k ≤ 4 by omega) hq0 hbq (nxV_ok (i := 0) hv1 hu hk hkt (by decide)) (nxV_ok (i := 1) hv1 hu hk hkt (by decide)) (t := tn) sv1
      have e16 : arG dp k = 6 + 2 * (5 - dp k + 1) := by unfold arG; rw [if_neg hk0]
      have hL0 := (hq0.sc (by omega) hbq sv1 (by have := Qb_n (show 5 - dp k ≤ 4 by omega); omega))
      obtain ⟨z0, ez0⟩ : ∃ z9, z9 = dgD (FP.dmul x (pw2 sv), FP.dmul y (pw2 sv)) := ⟨_, rfl⟩
      refine lv_aload_n hx hb d_Mo_layOut_4 rfl (lv_at hl 0 rfl) ?_
      refine lv_iload_n hx hb d_Mo_layOut_5 rfl (lv_at hl 1 rfl) ?_
      refine lv_iconst (v := 2) hx hb d_Mo_layOut_6 (by decide) ?_
      refine lv_dload hx hb d_Mo_layOut_7 (lv_at hl 4 rfl) ?_
      refine ec_d (va_runV (As := [.int (nI k), .int 2, .double u]) (rest := []) ⟨hx, hb, hml, hown, hts⟩ (m_Mo_at l G S0 Q hQ X w0 d hM hv1 k 2 hk hkt hk0 (by decide) u hu) (cwV 3 hts (gw_V k_965 k_967 k_53 k_67 k_968) rfl rfl rfl (by decide +kernel) ⟨Nat.le_of_ble_eq_true rfl, Nat.le_of_ble_eq_true rfl⟩) (eB.preV hE hI hS hz rfl (mw_o hQ)) rfl rfl hl.1 rfl (lv_room (Nat.le_of_ble_eq_true rfl)) d_Mo_layOut_9 ⟨Nat.le_of_ble_eq_true rfl, Nat.le_of_ble_eq_true rfl⟩) hS (fun va w_3 H locs ew_3 hI hsz hS => ?_)
      obtain ⟨eva, ew_3⟩ := ew_3
      have ew_3 := ew_3.symm
      subst ew_3
      subst eva
      refine ec_d (va_runS (As := [.double (vA d u k 2)]) (rest := []) ⟨hx, hb, hml, hown, hts⟩ (m_Mo_power l G S0 (mW G Q X w0) (vA d u k 2)) (cwS 1 hts (gw_S k_970 k_971 k_67 k_972) rfl rfl rfl (by decide +kernel) ⟨Nat.le_of_ble_eq_true rfl, Nat.le_of_ble_eq_true rfl⟩) (eB.preS hE hI hS hz) rfl rfl hl.1 rfl (lv_room (Nat.le_of_ble_eq_true rfl)) d_Mo_layOut_12 ⟨Nat.le_of_ble_eq_true rfl, Nat.le_of_ble_eq_true rfl⟩) hS (fun pw w_4 H locs ew_4 hI hsz hS => ?_)
      obtain ⟨epw, ew_4⟩ := ew_4
      have ew_4 := ew_4.symm
      subst ew_4
      rw [vA_s, mPw_eq sv1 sv2] at epw
      subst epw
      refine lv_goto (tgt := 19) hx hb d_Mo_layOut_15 (by decide) ?_
      refine lv_dstore (lv' := [(8, .double (pw2 sv)), (0, .ref (Q 25)), (1, .int (nI k)), (2, .double x), (4, .double y), (6, .double u)]) hx hb d_Mo_layOut_19 hl (by decide) rfl (fun ls hl => ?_)
      refine lv_dload_n hx hb d_Mo_layOut_21 rfl (lv_at hl 3 rfl) ?_
      refine lv_dload hx hb d_Mo_layOut_22 (lv_at hl 0 rfl) ?_
      refine lv_dmul hx hb d_Mo_layOut_24 hL0.1.nn ?_
      refine lv_dstore (lv' := [(10, .double (FP.dmul x (pw2 sv))), (8, .double (pw2 sv)), (0, .ref (Q 25)), (1, .int (nI k)), (2, .double x), (4, .double y), (6, .double u)]) hx hb d_Mo_layOut_25 hl (by decide) rfl (fun ls hl => ?_)
      refine lv_dload hx hb d_Mo_layOut_27 (lv_at hl 5 rfl) ?_
      refine lv_dload hx hb d_Mo_layOut_29 (lv_at hl 1 rfl) ?_
      refine lv_dmul hx hb d_Mo_layOut_31 hL0.2.1.nn ?_
      refine lv_dstore (lv' := [(12, .double (FP.dmul y (pw2 sv))), (10, .double (FP.dmul x (pw2 sv))), (8, .double (pw2 sv)), (0, .ref (Q 25)), (1, .int (nI k)), (2, .double x), (4, .double y), (6, .double u)]) hx hb d_Mo_layOut_32 hl (by decide) rfl (fun ls hl => ?_)
      refine lv_iconst (v := 0) hx hb d_Mo_layOut_34 (by decide) ?_
      refine lv_istore (lv' := [(14, .int 0), (12, .double (FP.dmul y (pw2 sv))), (10, .double (FP.dmul x (pw2 sv))), (8, .double (pw2 sv)), (0, .ref (Q 25)), (1, .int (nI k)), (2, .double x), (4, .double y), (6, .double u)]) hx hb d_Mo_layOut_35 hl (by decide) rfl (fun ls hl => ?_)
      have hl : lv_has ls 17 [(14, .int 0), (12, .double (tsD z0 0).2.1), (10, .double (tsD z0 0).1), (8, .double (pw2 sv)), (0, .ref (Q 25)), (1, .int (nI k)), (2, .double x), (4, .double y), (6, .double u)] := by rw [ez0]; exact hl
      refine W.lpw (fun j (t9 : Nat) => t9 ≤ tn ∧ j = tn - t9) (fun (t9 : Nat) => (mW G Q X w0)) (fun (t9 : Nat) => [(14, .int (nI t9)), (10, .double (tsD z0 t9).1), (12, .double (tsD z0 t9).2.1), (0, .ref (Q 25)), (1, .int (nI k)), (6, .double u)]) (fun (t9 : Nat) => 0) (fun (t9 : Nat) => 0) 17 37 (fun (t9 : Nat) => []) (tn) (0) (⟨Nat.zero_le _, rfl⟩) (lv_sub hl [0, 2, 1, 4, 5, 8] rfl) hI hS ?_
      rintro j t9 ls H locs hP hl hI hS TL
      try dsimp only at hP hl hI ⊢
      obtain ⟨h1, ej⟩ := hP
      refine lv_iload hx hb d_Mo_layOut_37 (lv_at hl 0 rfl) ?_
      refine lv_aload_n hx hb d_Mo_layOut_39 rfl (lv_at hl 3 rfl) ?_
      refine hp_get (ci := 5) (v := .ref (Q 9)) (C := R_Mo) (T := F_Mo) (N := 28) hx hb hg i_Mo hown hK hI (mw_o hQ) rfl 9 (by decide) (hg _ k_782) (fun _ h9 => h9) rfl d_Mo_layOut_40 ?_
      refine lv_iload_n hx hb d_Mo_layOut_43 rfl (lv_at hl 4 rfl) ?_
      refine mv_iald hx hb hK hI 0 (X.1 9) (mw_9 hQ) rfl k (rfl) (by omega) (by decide) d_Mo_layOut_44 ?_
      refine mv_i (y := nI tn) ((hM.tu hk hkt).trans etn) ?_
      refine mv_cge (tgt := 67) hx hb t9 tn rfl rfl (by omega) (by omega) d_Mo_layOut_45 (by decide) (fun c2 => ?_) (fun c2 => ?_)
      · obtain rfl : t9 = tn := by omega
        refine lv_iload_n hx hb d_Mo_layOut_67 rfl (lv_at hl 4 rfl) ?_
        refine mv_ile (tgt := 97) hx hb k rfl (by omega) d_Mo_layOut_68 (by decide) (fun c3 => ?_) (fun c3 => ?_)
        · omega
        refine lv_dload hx hb d_Mo_layOut_71 (lv_at hl 1 rfl) ?_
        refine lv_aload_n hx hb d_Mo_layOut_73 rfl (lv_at hl 3 rfl) ?_
        refine lv_iload_n hx hb d_Mo_layOut_74 rfl (lv_at hl 4 rfl) ?_
        refine lv_iconst (v := 0) hx hb d_Mo_layOut_75 (by decide) ?_
        refine lv_dload hx hb d_Mo_layOut_76 (lv_at hl 5 rfl) ?_
        refine ec_d (va_runV (As := [.int (nI k), .int 0, .double u]) (rest := [.double (tsD z0 t9).1]) ⟨hx, hb, hml, hown, hts⟩ (m_Mo_at l G S0 Q hQ X w0 d hM hv1 k 0 hk hkt hk0 (by decide) u hu) (cwV 3 hts (gw_V k_965 k_967 k_53 k_67 k_968) rfl rfl rfl (by decide +kernel) ⟨Nat.le_of_ble_eq_true rfl, Nat.le_of_ble_eq_true rfl⟩) (eB.preV hE hI hS hz rfl (mw_o hQ)) rfl rfl hl.1 rfl (lv_room (Nat.le_of_ble_eq_true rfl)) d_Mo_layOut_78 ⟨Nat.le_of_ble_eq_true rfl, Nat.le_of_ble_eq_true rfl⟩) hS (fun va w_5 H locs ew_5 hI hsz hS => ?_)
        obtain ⟨eva, ew_5⟩ := ew_5
        have ew_5 := ew_5.symm
        subst ew_5
        rw [vA_x (by decide)] at eva
        subst eva
        have ez1 : scD (pw2 sv) (dgD (x, y)) = z0 := by rw [ez0]; rfl
        unfold lyD at L1
        rw [ez1] at L1
        refine lv_dadd hx hb d_Mo_layOut_81 L1.1.nn ?_
        refine lv_dstore (lv' := [(10, .double (FP.dadd (tsD z0 t9).1 (vX d u k 0))), (14, .int (nI t9)), (12, .double (tsD z0 t9).2.1), (0, .ref (Q 25)), (1, .int (nI k)), (6, .double u)]) hx hb d_Mo_layOut_82 hl (by decide) rfl (fun ls hl => ?_)
        refine lv_dload hx hb d_Mo_layOut_84 (lv_at hl 2 rfl) ?_
        refine lv_aload_n hx hb d_Mo_layOut_86 rfl (lv_at hl 3 rfl) ?_
        refine lv_iload_n hx hb d_Mo_layOut_87 rfl (lv_at hl 4 rfl) ?_
        refine lv_iconst (v := 1) hx hb d_Mo_layOut_88 (by decide) ?_
        refine lv_dload hx hb d_Mo_layOut_89 (lv_at hl 5 rfl) ?_
        refine ec_d (va_runV (As := [.int (nI k), .int 1, .double u]) (rest := [.double (tsD z0 t9).2.1]) ⟨hx, hb, hml, hown, hts⟩ (m_Mo_at l G S0 Q hQ X w0 d hM hv1 k 1 hk hkt hk0 (by decide) u hu) (cwV 3 hts (gw_V k_965 k_967 k_53 k_67 k_968) rfl rfl rfl (by decide +kernel) ⟨Nat.le_of_ble_eq_true rfl, Nat.le_of_ble_eq_true rfl⟩) (eB.preV hE hI hS hz rfl (mw_o hQ)) rfl rfl hl.1 rfl (lv_room (Nat.le_of_ble_eq_true rfl)) d_Mo_layOut_91 ⟨Nat.le_of_ble_eq_true rfl, Nat.le_of_ble_eq_true rfl⟩) hS (fun vb w_6 H locs ew_6 hI hsz hS => ?_)
        obtain ⟨evb, ew_6⟩ := ew_6
        have ew_6 := ew_6.symm
        subst ew_6
        rw [vA_x (by decide)] at evb
        subst evb
        refine lv_dadd hx hb d_Mo_layOut_94 L1.2.1.nn ?_
        refine lv_dstore (lv' := [(12, .double (FP.dadd (tsD z0 t9).2.1 (vX d u k 1))), (10, .double (FP.dadd (tsD z0 t9).1 (vX d u k 0))), (14, .int (nI t9)), (0, .ref (Q 25)), (1, .int (nI k)), (6, .double u)]) hx hb d_Mo_layOut_95 hl (by decide) rfl (fun ls hl => ?_)
        exact T ((_, _)) _ _ _ (by unfold lyI; rw [if_neg hk0, e16, etu, show nsV d u k = sv from sv3]; exact ⟨L1.1, L1.2.1⟩) (lv_sub hl [1, 0, 3, 4] rfl) hI hS
      · refine lv_dload hx hb d_Mo_layOut_48 (lv_at hl 1 rfl) ?_
        refine lv_dstore (lv' := [(15, .double (tsD z0 t9).1), (14, .int (nI t9)), (10, .double (tsD z0 t9).1), (12, .double (tsD z0 t9).2.1), (0, .ref (Q 25)), (1, .int (nI k)), (6, .double u)]) hx hb d_Mo_layOut_50 hl (by decide) rfl (fun ls hl => ?_)
        refine lv_dload hx hb d_Mo_layOut_52 (lv_at hl 3 rfl) ?_
        refine lv_dneg hx hb d_Mo_layOut_54 ?_
        refine lv_dstore (lv' := [(10, .double (FP.dneg (tsD z0 t9).2.1)), (15, .double (tsD z0 t9).1), (14, .int (nI t9)), (12, .double (tsD z0 t9).2.1), (0, .ref (Q 25)), (1, .int (nI k)), (6, .double u)]) hx hb d_Mo_layOut_55 hl (by decide) rfl (fun ls hl => ?_)
        refine lv_dload hx hb d_Mo_layOut_57 (lv_at hl 1 rfl) ?_
        refine lv_dstore (lv' := [(12, .double (tsD z0 t9).1), (10, .double (FP.dneg (tsD z0 t9).2.1)), (15, .double (tsD z0 t9).1), (14, .int (nI t9)), (0, .ref (Q 25)), (1, .int (nI k)), (6, .double u)]) hx hb d_Mo_layOut_59 hl (by decide) rfl (fun ls hl => ?_)
        refine lv_iinc (v := nI (t9 + 1)) (lv' := [(14, .int (nI (t9 + 1))), (12, .double (tsD z0 t9).1), (10, .double (FP.dneg (tsD z0 t9).2.1)), (15, .double (tsD z0 t9).1), (0, .ref (Q 25)), (1, .int (nI k)), (6, .double u)]) hx hb d_Mo_layOut_61 hl (k := 3) rfl (nI_inc t9) (by decide) rfl (fun ls hl => ?_)
        refine lv_goto (tgt := 37) hx hb d_Mo_layOut_64 (by decide) ?_
        have hdg := tsD_dg (FP.dmul x (pw2 sv), FP.dmul y (pw2 sv)) t9
        rw [← ez0] at hdg
        have e1 : FP.dneg (tsD z0 t9).2.1 = (tsD z0 (t9 + 1)).1 := by show _ = FP.dneg (tsD z0 t9).2.2.2; rw [hdg.2]
        rw [e1] at hl
        exact TL (tn - (t9 + 1)) (t9 + 1) _ _ _ (by omega) (⟨c2, rfl⟩) (lv_sub hl [0, 2, 1, 4, 5, 6] rfl) hI hS

/-! the model: box -/
def rdX (X : XS) (c : Nat) : D4 := (X.2.1 22 (c * 2), X.2.1 22 (c * 2 + 1), X.2.1 23 (c * 2), X.2.1 23 (c * 2 + 1))
/-- the model has the box of a node -/
def bxP (d : DS) (dp : Nat → Nat) (u : UInt64) (X : XS) (c : Nat) : Prop := X.1 3 c = bI (arB d dp u c).isSome ∧ ∀ q, arB d dp u c = some q → exQ (arG dp c) q (rdX X c)
def bxR (Y X : XS) (n : Nat) : Prop := (∀ j, j ≠ 3 → Y.1 j = X.1 j) ∧ (∀ c, c ≠ n → Y.1 3 c = X.1 3 c ∧ rdX Y c = rdX X c) ∧ (∀ j, j < 22 → Y.2.1 j = X.2.1 j) ∧ Y.2.2 = X.2.2
theorem bxR.sc {X Y : XS} {n : Nat} (h : bxR Y X n) : xSc Y X := ⟨fun j _ a _ => h.1 j a, fun j a => h.2.2.1 j (by omega), h.2.2.2⟩
theorem mWl_n {f : Nat → UInt64} {r r' : Nat} {v : UInt64} (h : r' ≠ r) : mWl f r v r' = f r' := by
  unfold mWl
  split
  · exact vup_n h
  · rfl
theorem mWh_n {f : Nat → UInt64} {r r' : Nat} {v : UInt64} (h : r' ≠ r) : mWh f r v r' = f r' := by
  unfold mWh
  split
  · exact vup_n h
  · rfl
theorem mWl_y {f : Nat → UInt64} {r g : Nat} {v : UInt64} {m n : Int} (hf : fx g m (f r)) (hv : fx g n v) : fx g (min n m) (mWl f r v r) := by
  have := fx_dlo hv hf
  unfold dlo at this
  unfold mWl
  split
  · rename_i h
    rw [if_pos h] at this
    rw [vup_y]
    exact this
  · rename_i h
    rw [if_neg h] at this
    exact this
theorem mWh_y {f : Nat → UInt64} {r g : Nat} {v : UInt64} {m n : Int} (hf : fx g m (f r)) (hv : fx g n v) : fx g (max n m) (mWh f r v r) := by
  have := fx_dhi hv hf
  unfold dhi at this
  unfold mWh
  split
  · rename_i h
    rw [if_pos h] at this
    rw [vup_y]
    exact this
  · rename_i h
    rw [if_neg h] at this
    exact this
abbrev c1e9 : UInt64 := 4741671816366391296
abbrev cm1e9 : UInt64 := 13965043853221167104
theorem fx_1e9 (g : Nat) : fx g (1000000000 * ((2 ^ g : Nat) : Int)) c1e9 ∧ fx g (-(1000000000 * ((2 ^ g : Nat) : Int))) cm1e9 := by
  have h1 := fx_up g (fx_i2d 1000000000)
  have h2 := fx_up g (fx_i2d (-1000000000))
  have e1 : FP.i2d 1000000000 = c1e9 := by decide +kernel
  have e2 : FP.i2d (-1000000000) = cm1e9 := by decide +kernel
  rw [e1, Nat.zero_add] at h1
  rw [e2, Nat.zero_add, show (-1000000000 : Int32).toInt = -1000000000 from by decide, Int.neg_mul] at h2
  exact ⟨h1, h2⟩
theorem wdX_n {X : XS} {r : Nat} {v : UInt64} {c : Nat} (h1 : c * 2 ≠ r) (h2 : c * 2 + 1 ≠ r) : rdX (wdX X r v) c = rdX X c := by
  show (mWl (X.2.1 22) r v (c * 2), mWl (X.2.1 22) r v (c * 2 + 1), mWh (X.2.1 23) r v (c * 2), mWh (X.2.1 23) r v (c * 2 + 1)) = _
  rw [mWl_n h1, mWl_n h2, mWh_n h1, mWh_n h2]
  rfl
/-- a node's rows widened by a point -/
def wd2 (X : XS) (n : Nat) (c e : UInt64) : XS := wdX (wdX X (n * 2) c) (n * 2 + 1) e
theorem wd2_rd {X : XS} {n g : Nat} {c e : UInt64} {q : B4} {C D : Int} (h : exQ g q (rdX X n)) (hc : fx g C c) (he : fx g D e) : exQ g (jnB q (C, D, C, D)) (rdX (wd2 X n c e) n) := by
  obtain ⟨h1, h2, h3, h4⟩ := h
  refine ⟨?_, ?_, ?_, ?_⟩
  · show fx g (min C q.1) (mWl (mWl (X.2.1 22) (n * 2) c) (n * 2 + 1) e (n * 2))
    rw [mWl_n (by omega)]
    exact mWl_y h1 hc
  · show fx g (min D q.2.1) (mWl (mWl (X.2.1 22) (n * 2) c) (n * 2 + 1) e (n * 2 + 1))
    refine mWl_y ?_ he
    rw [mWl_n (by omega)]
    exact h2
  · show fx g (max C q.2.2.1) (mWh (mWh (X.2.1 23) (n * 2) c) (n * 2 + 1) e (n * 2))
    rw [mWh_n (by omega)]
    exact mWh_y h3 hc
  · show fx g (max D q.2.2.2) (mWh (mWh (X.2.1 23) (n * 2) c) (n * 2 + 1) e (n * 2 + 1))
    refine mWh_y ?_ he
    rw [mWh_n (by omega)]
    exact h4
theorem wd2_o {X : XS} {n c : Nat} {v e : UInt64} (h : c ≠ n) : rdX (wd2 X n v e) c = rdX X c := by
  unfold wd2
  rw [wdX_n (by omega) (by omega), wdX_n (by omega) (by omega)]
theorem wd2_sc {X : XS} {n : Nat} {v e : UInt64} : (wd2 X n v e).1 = X.1 ∧ (∀ j, j < 22 → (wd2 X n v e).2.1 j = X.2.1 j) ∧ (wd2 X n v e).2.2 = X.2.2 := by
  refine ⟨rfl, fun j hj => ?_, rfl⟩
  show fset (fset (fset (fset X.2.1 22 _) 23 _) 22 _) 23 _ j = _
  rw [fset_ne (by omega), fset_ne (by omega), fset_ne (by omega), fset_ne (by omega)]
theorem Qb_le (f : Nat) : Qb f ≤ 204700 := by
  unfold Qb
  split <;> decide
theorem lyI_b {d : DS} {dp : Nat → Nat} {u : UInt64} (htr : tOk d dp) (hv : vOk d) (hu : tiO u) {k : Nat} (hk : k < 14) (ht : sTh d k = true) {p : Int × Int} (h1 : p.1.natAbs ≤ Qb (5 - dp k) * 2 ^ (6 + 2 * (5 - dp k))) (h2 : p.2.natAbs ≤ Qb (5 - dp k) * 2 ^ (6 + 2 * (5 - dp k))) : bB (1000000000 * 2 ^ arG dp k) (lyI d dp u k p) := by
  have key : ∀ (q : B4) (f : Nat), bB (Qb f * 2 ^ arG dp k) q → bB (1000000000 * 2 ^ arG dp k) q := by
    intro q f h
    have hle : Qb f * 2 ^ arG dp k ≤ 1000000000 * 2 ^ arG dp k := Nat.mul_le_mul_right _ (Nat.le_trans (Qb_le f) (by decide))
    exact ⟨Nat.le_trans h.1 hle, Nat.le_trans h.2.1 hle, Nat.le_trans h.2.2.1 hle, Nat.le_trans h.2.2.2 hle⟩
  unfold lyI
  by_cases h0 : k = 0
  · rw [if_pos h0]
    refine key _ (5 - dp k) ?_
    have e : arG dp k = 6 + 2 * (5 - dp k) := by unfold arG; rw [if_pos h0, h0, htr.2.2.2.1]
    rw [e]
    exact ⟨h1, h2, h1, h2⟩
  · rw [if_neg h0]
    have h5 := htr.2.2.2.2.2.2 k hk ht
    obtain ⟨g, hg1, hpa, hgt, -, hdp, -⟩ := htr.2.2.2.2.1 k hk ht h0
    have e : arG dp k = 6 + 2 * (5 - dp k + 1) := by unfold arG; rw [if_neg h0]
    refine key _ (5 - dp k + 1) ?_
    rw [e]
    obtain ⟨X, hX, fX⟩ := nxV_ok (i := 0) hv hu hk ht (by decide)
    obtain ⟨Y, hY, fY⟩ := nxV_ok (i := 1) hv hu hk ht (by decide)
    obtain ⟨e1, e2⟩ := Qb_n (show 5 - dp k ≤ 4 by omega)
    obtain ⟨s1, s2, -⟩ := sc5_fx (nsV_ok (u := u) hv hk ht)
    have hb0 : bB (Qb (5 - dp k) * 2 ^ (6 + 2 * (5 - dp k))) (dgB p) := ⟨h1, h2, h1, h2⟩
    have b2 := (hb0.sc s1 s2).ts (tu d k)
    have n1 : (X * ((2 ^ (2 + 2 * (5 - dp k)) : Nat) : Int)).natAbs ≤ 19200 * 2 ^ (2 + 2 * (5 - dp k)) := by
      rw [Int.natAbs_mul, Int.natAbs_natCast]
      exact Nat.mul_le_mul_right _ hX
    have n2 : (Y * ((2 ^ (2 + 2 * (5 - dp k)) : Nat) : Int)).natAbs ≤ 19200 * 2 ^ (2 + 2 * (5 - dp k)) := by
      rw [Int.natAbs_mul, Int.natAbs_natCast]
      exact Nat.mul_le_mul_right _ hY
    have := b2.sh n1 n2
    rw [e1] at this
    unfold lyB
    rw [fxv_eq fX, fxv_eq fY]
    exact this
theorem lyI_dg {d : DS} {dp : Nat → Nat} {u : UInt64} {k : Nat} (p : Int × Int) : lyI d dp u k p = ((lyI d dp u k p).1, (lyI d dp u k p).2.1, (lyI d dp u k p).1, (lyI d dp u k p).2.1) := by
  unfold lyI
  split
  · rfl
  · obtain ⟨h1, h2⟩ := lyB_dg (f := 5 - dp k) (X := fxv 6 (nxV d u k 0)) (Y := fxv 6 (nxV d u k 1)) (t := tu d k) (s := nsV d u k) p
    refine Prod.ext rfl (Prod.ext rfl (Prod.ext h1 h2))
theorem arB_of {d : DS} {dp : Nat → Nat} {u : UInt64} (htr : tOk d dp) (hv : vOk d) {k : Nat} (hk : k < 14) (ht : sTh d k = true) {q : B4} (hq : iB d dp u k = some q) (ho : oB q) : arB d dp u k = some (jnB (lyI d dp u k (q.1, q.2.1)) (lyI d dp u k (q.2.2.1, q.2.2.2))) := by
  unfold lyI
  by_cases h0 : k = 0
  · rw [if_pos h0, if_pos h0, ← ho.dg, ← hq, h0]
    exact arB_0 htr
  · rw [if_neg h0, if_neg h0, ← lyB_jn (nsV_ok hv hk ht), ← ho.dg, arB_s htr hk ht h0, hq]
    rfl
theorem arB_none {d : DS} {dp : Nat → Nat} {u : UInt64} (htr : tOk d dp) {k : Nat} (hk : k < 14) (ht : sTh d k = true) (hq : iB d dp u k = none) : arB d dp u k = none := by
  by_cases h0 : k = 0
  · rw [h0, arB_0 htr, ← h0]; exact hq
  · rw [arB_s htr hk ht h0, hq]; rfl
/-- a point's rows, from the far ends on -/
theorem jn_far {g : Nat} {a b : B4} (ha : a = (a.1, a.2.1, a.1, a.2.1)) (hb : b = (b.1, b.2.1, b.1, b.2.1)) (h : bB (1000000000 * 2 ^ g) a) : jnB (jnB (1000000000 * ((2 ^ g : Nat) : Int), 1000000000 * ((2 ^ g : Nat) : Int), -(1000000000 * ((2 ^ g : Nat) : Int)), -(1000000000 * ((2 ^ g : Nat) : Int))) (a.1, a.2.1, a.1, a.2.1)) (b.1, b.2.1, b.1, b.2.1) = jnB a b := by
  rw [← ha, ← hb]
  obtain ⟨h1, h2, h3, h4⟩ := h
  have e : ((1000000000 * 2 ^ g : Nat) : Int) = 1000000000 * ((2 ^ g : Nat) : Int) := by rw [Int.natCast_mul]; rfl
  generalize hE : 1000000000 * ((2 ^ g : Nat) : Int) = E at e ⊢
  generalize 1000000000 * 2 ^ g = N at h1 h2 h3 h4 e
  congr 1
  unfold jnB
  refine Prod.ext ?_ (Prod.ext ?_ (Prod.ext ?_ ?_)) <;> dsimp only <;> omega
def stB (d : DS) (T : Nat → Option B4) (acc : Option B4) (c : Nat) : Option B4 := if sNi d c 2 = 0 then jnO acc (T c) else acc
theorem kdB_st (d : DS) (T : Nat → Option B4) (L : List Nat) : kdB d T L = L.foldl (stB d T) none := rfl
theorem fold_s {L : List Nat} {f : Option B4 → Nat → Option B4} {k c : Nat} (hk : L[k]? = some c) (a : Option B4) : (L.take (k + 1)).foldl f a = f ((L.take k).foldl f a) c := by
  obtain ⟨h1, h2⟩ := List.getElem?_eq_some_iff.mp hk
  rw [List.take_succ_eq_append_getElem h1, h2, List.foldl_append]
  rfl
/-- the four locals and the flag tell a box -/
def acP (g : Nat) (o : Option B4) (v : Int32) (x : D4) : Prop := (o = none ∧ v = 0) ∨ ∃ q, o = some q ∧ exQ g q x ∧ v = 1
set_option maxHeartbeats 8000000 in
set_option maxRecDepth 100000 in
theorem m_Mo_box (l : Launch) (G : EG) (S0 : Nat) (Q : Nat → Nat) (hQ : qInj Q) (X : XS) (w0 : hp_M) (d : DS) (dp : Nat → Nat) (htr : tOk d dp) (hM : mV X d) (hv1 : vOk d) (hr0 : sNi d 0 3 = 0) (n : Nat) (hn : n < 14) (hnt : sTh d n = true) (u : UInt64) (hu : tiO u) (hch : ∀ c ∈ sCh d n, bxP d dp u X c) : Met l y_Mo_box w_Mo_box (rl 3 0 0) (eP G S0 (mW G Q X w0) [.ref (Q 25), .int (nI n), .double u]) (va_Qv (fun z => ∃ Y, z = mW G Q Y w0 ∧ bxR Y X n ∧ bxP d dp u Y n) (eW G S0) (hp_A S0)) 0 0 (hp_A S0) := by
  refine Met.ofW (cc := b_Mo_box) (maxL := 14) (ret := none) (by decide) rfl ?_
  intro p e s m args below meth c s₁ B hml hv
  obtain ⟨rfl, hE, hI, hz⟩ := hv
  have hx := B.exec
  have hb := B.bytes
  have hr := B.returns
  have hts := atoms_spec (ws := w_Mo_box) B.pre
  have hg : ∀ w ∈ gw, w.before _ s = true := fun w h => hts w (List.mem_cons_of_mem _ h)
  have hown : s.vm.findClass "SceneEaselModel" = some m.cls := findClass_of_methodNamed B.named
  have hlocks := B.notSynchronized
  have hK := hE.K
  have hS : va_S (hp_A S0) s.heap s.heap [] := va_S.rf
  have hl := lv_entry ([.ref (Q 25), .int (nI n), .double u]) (n := 14) (Nat.le_of_ble_eq_true rfl)
  rw [lg_entry_eq]
  generalize (lg_sl ([.ref (Q 25), .int (nI n), .double u]) ++ List.replicate (14 - (lg_sl ([.ref (Q 25), .int (nI n), .double u])).length) Slot.unset).toArray = ls at hl ⊢
  have hl : lv_has ls 14 [(0, .ref (Q 25)), (1, .int (nI n)), (2, .double u)] := hl
  obtain ⟨⟨kc, hkc, ekc⟩, -, -, -, -, -, hP0, hQ0, -⟩ := hv1 n hn hnt
  have hn5 := htr.2.2.2.2.2.2 n hn hnt
  have hlen := htr.len hn hnt
  have e7 : X.1 7 n = nI (sCh d n).length := hM.ct hn hnt
  obtain ⟨s0, es0⟩ : ∃ z9, z9 = 6 + 2 * (5 - dp n) := ⟨_, rfl⟩
  refine W.midw (G := G) (S0 := S0) (fun (q : (Nat → Int32) × D4) => match q with | (f, x) => (∀ c, c ≠ n → f c = X.1 3 c) ∧ acP s0 (iB d dp u n) (f n) x) (fun (q : (Nat → Int32) × D4) => match q with | (f, x) => mW G Q (xsI X 3 f) w0) (fun (q : (Nat → Int32) × D4) => match q with | (f, x) => [(4, .double x.1), (6, .double x.2.1), (8, .double x.2.2.1), (10, .double x.2.2.2), (0, .ref (Q 25)), (1, .int (nI n)), (2, .double u)]) (fun (q : (Nat → Int32) × D4) => match q with | (f, x) => 0) (fun (q : (Nat → Int32) × D4) => match q with | (f, x) => 0) 14 320 (fun (q : (Nat → Int32) × D4) => match q with | (f, x) => []) ?_ (fun E => ?_)
  · rintro ⟨f, x⟩ ls H locs hP hl hI hS
    try dsimp only at hP hl hI ⊢
    obtain ⟨hfo, hac⟩ := hP
    rcases hac with ⟨hno, hf0⟩ | ⟨q, hq, hex, hf1⟩
    · refine lv_aload_n hx hb d_Mo_box_320 rfl (lv_at hl 4 rfl) ?_
      refine hp_get (ci := 5) (v := .ref (Q 3)) (C := R_Mo) (T := F_Mo) (N := 28) hx hb hg i_Mo hown hK hI (mw_o hQ) rfl 3 (by decide) (hg _ k_776) (fun _ h9 => h9) rfl d_Mo_box_321 ?_
      refine lv_iload_n hx hb d_Mo_box_324 rfl (lv_at hl 5 rfl) ?_
      refine mv_zald hx hb hK hI 2 f (mw_3 hQ) rfl n (rfl) (by omega) (by decide) d_Mo_box_325 ?_
      refine mv_i (y := 0) (hf0) ?_
      refine lv_if_ne (tgt := 330) hx hb d_Mo_box_326 (by decide) (fun c9 => absurd c9 (by decide)) (fun c9 => ?_)
      have hnone := arB_none htr hn hnt hno
      exact W.vret hx hb hr (fun t9 ht9 hW9 => ⟨⟨(mW G Q (xsI X 3 f) w0), rfl, ⟨_, rfl, ⟨fun j hj => fset_ne hj, fun c hc => ⟨hfo c hc, rfl⟩, fun _ _ => rfl, rfl⟩, by rw [hnone]; exact hf0, fun q hq => by rw [hnone] at hq; cases hq⟩, eWo ht9 hI⟩, hS.F ht9⟩) hS.2.2 d_Mo_box_329
    · obtain ⟨hoB, hbB⟩ := iB_ok htr hv1 hu hn hnt hq
      refine lv_aload_n hx hb d_Mo_box_320 rfl (lv_at hl 4 rfl) ?_
      refine hp_get (ci := 5) (v := .ref (Q 3)) (C := R_Mo) (T := F_Mo) (N := 28) hx hb hg i_Mo hown hK hI (mw_o hQ) rfl 3 (by decide) (hg _ k_776) (fun _ h9 => h9) rfl d_Mo_box_321 ?_
      refine lv_iload_n hx hb d_Mo_box_324 rfl (lv_at hl 5 rfl) ?_
      refine mv_zald hx hb hK hI 2 f (mw_3 hQ) rfl n (rfl) (by omega) (by decide) d_Mo_box_325 ?_
      refine mv_i (y := 1) (hf1) ?_
      refine lv_if_ne (tgt := 330) hx hb d_Mo_box_326 (by decide) (fun c9 => ?_) (fun c9 => absurd c9 (by decide))
      refine lv_aload_n hx hb d_Mo_box_330 rfl (lv_at hl 4 rfl) ?_
      refine hp_get (ci := 5) (v := .ref (Q 22)) (C := R_Mo) (T := F_Mo) (N := 28) hx hb hg i_Mo hown hK hI (mw_o hQ) rfl 22 (by decide) (hg _ k_795) (fun _ h9 => h9) rfl d_Mo_box_331 ?_
      refine lv_iload_n hx hb d_Mo_box_334 rfl (lv_at hl 5 rfl) ?_
      refine lv_iconst (v := 2) hx hb d_Mo_box_335 (by decide) ?_
      refine mv_imul hx hb n 2 rfl rfl d_Mo_box_336 ?_
      refine lv_aload_n hx hb d_Mo_box_337 rfl (lv_at hl 4 rfl) ?_
      refine hp_get (ci := 5) (v := .ref (Q 22)) (C := R_Mo) (T := F_Mo) (N := 28) hx hb hg i_Mo hown hK hI (mw_o hQ) rfl 22 (by decide) (hg _ k_795) (fun _ h9 => h9) rfl d_Mo_box_338 ?_
      refine lv_iload_n hx hb d_Mo_box_341 rfl (lv_at hl 5 rfl) ?_
      refine lv_iconst (v := 2) hx hb d_Mo_box_342 (by decide) ?_
      refine mv_imul hx hb n 2 rfl rfl d_Mo_box_343 ?_
      refine lv_iconst (v := 1) hx hb d_Mo_box_344 (by decide) ?_
      refine mv_iadd hx hb (n * 2) 1 rfl rfl d_Mo_box_345 ?_
      refine lv_ldc2d (v := 4741671816366391296) hx hb hown (hg _ k_997) d_Mo_box_346 ?_
      refine lv_dup2_x2_2 hx hb d_Mo_box_349 rfl rfl rfl ?_
      refine mv_dast hx hb hK hI hS 1 (X.2.1 22) (mw_22 hQ) rfl (n * 2 + 1) (fun f9 => mW G Q (xsD (xsI X 3 f) 22 f9) w0) (fun _ => mws_22 hQ) (rfl) (by omega) (by decide) d_Mo_box_350 (fun H locs f_1 ef_1 hI hS hsz => ?_)
      try dsimp only at hI
      refine mv_dast hx hb hK hI hS 1 f_1 (mw_22 hQ) rfl (n * 2) (fun f9 => mW G Q (xsD (xsD (xsI X 3 f) 22 f_1) 22 f9) w0) (fun _ => mws_22 hQ) (rfl) (by omega) (by decide) d_Mo_box_351 (fun H locs f_2 ef_2 hI hS hsz => ?_)
      try dsimp only at hI
      refine lv_aload_n hx hb d_Mo_box_352 rfl (lv_at hl 4 rfl) ?_
      refine hp_get (ci := 5) (v := .ref (Q 23)) (C := R_Mo) (T := F_Mo) (N := 28) hx hb hg i_Mo hown hK hI (mw_o hQ) rfl 23 (by decide) (hg _ k_796) (fun _ h9 => h9) rfl d_Mo_box_353 ?_
      refine lv_iload_n hx hb d_Mo_box_356 rfl (lv_at hl 5 rfl) ?_
      refine lv_iconst (v := 2) hx hb d_Mo_box_357 (by decide) ?_
      refine mv_imul hx hb n 2 rfl rfl d_Mo_box_358 ?_
      refine lv_aload_n hx hb d_Mo_box_359 rfl (lv_at hl 4 rfl) ?_
      refine hp_get (ci := 5) (v := .ref (Q 23)) (C := R_Mo) (T := F_Mo) (N := 28) hx hb hg i_Mo hown hK hI (mw_o hQ) rfl 23 (by decide) (hg _ k_796) (fun _ h9 => h9) rfl d_Mo_box_360 ?_
      refine lv_iload_n hx hb d_Mo_box_363 rfl (lv_at hl 5 rfl) ?_
      refine lv_iconst (v := 2) hx hb d_Mo_box_364 (by decide) ?_
      refine mv_imul hx hb n 2 rfl rfl d_Mo_box_365 ?_
      refine lv_iconst (v := 1) hx hb d_Mo_box_366 (by decide) ?_
      refine mv_iadd hx hb (n * 2) 1 rfl rfl d_Mo_box_367 ?_
      refine lv_ldc2d (v := 13965043853221167104) hx hb hown (hg _ k_998) d_Mo_box_368 ?_
      refine lv_dup2_x2_2 hx hb d_Mo_box_371 rfl rfl rfl ?_
      refine mv_dast hx hb hK hI hS 1 (X.2.1 23) (mw_23 hQ) rfl (n * 2 + 1) (fun f9 => mW G Q (xsD (xsD (xsD (xsI X 3 f) 22 f_1) 22 f_2) 23 f9) w0) (fun _ => mws_23 hQ) (rfl) (by omega) (by decide) d_Mo_box_372 (fun H locs f_3 ef_3 hI hS hsz => ?_)
      try dsimp only at hI
      refine mv_dast hx hb hK hI hS 1 f_3 (mw_23 hQ) rfl (n * 2) (fun f9 => mW G Q (xsD (xsD (xsD (xsD (xsI X 3 f) 22 f_1) 22 f_2) 23 f_3) 23 f9) w0) (fun _ => mws_23 hQ) (rfl) (by omega) (by decide) d_Mo_box_373 (fun H locs f_4 ef_4 hI hS hsz => ?_)
      try dsimp only at hI
      refine lv_aload_n hx hb d_Mo_box_374 rfl (lv_at hl 4 rfl) ?_
      refine lv_iload_n hx hb d_Mo_box_375 rfl (lv_at hl 5 rfl) ?_
      refine lv_dload hx hb d_Mo_box_376 (lv_at hl 0 rfl) ?_
      refine lv_dload hx hb d_Mo_box_378 (lv_at hl 1 rfl) ?_
      refine lv_dload_n hx hb d_Mo_box_380 rfl (lv_at hl 6 rfl) ?_
      rw [es0] at hex
      obtain ⟨Z, eZ⟩ : ∃ z9, z9 = (xsD (xsD (xsD (xsD (xsI X 3 f) 22 f_1) 22 f_2) 23 f_3) 23 f_4) := ⟨_, rfl⟩
      rw [← eZ] at hI
      have hscZ : xSc Z X := by
        rw [eZ]
        exact ((((xSc.I (X := X) (by decide)).tr (xSc.D (X := xsI X 3 f) (by decide))).tr (xSc.D (by decide))).tr (xSc.D (by decide))).tr (xSc.D (by decide))
      refine ec_v (va_runV (As := [.int (nI n), .double x.1, .double x.2.1, .double u]) (rest := []) ⟨hx, hb, hml, hown, hts⟩ (m_Mo_layOut l G S0 Q hQ Z w0 d dp htr (hM.sc hscZ) hv1 hr0 n hn hnt x.1 x.2.1 u hu (q.1, q.2.1) hex.1 hex.2.1 hbB.1 hbB.2.1) (cwV 4 hts (gw_V k_999 k_1001 k_56 k_67 k_1002) rfl rfl rfl (by decide +kernel) ⟨Nat.le_of_ble_eq_true rfl, Nat.le_of_ble_eq_true rfl⟩) (eB.preV hE hI hS hz rfl (mw_o hQ)) rfl rfl hl.1 rfl (lv_room (Nat.le_of_ble_eq_true rfl)) d_Mo_box_381 ⟨Nat.le_of_ble_eq_true rfl, Nat.le_of_ble_eq_true rfl⟩) hS (fun w_1 H locs ew_1 hI hsz hS => ?_)
      obtain ⟨a1, a2, ea, ha1, ha2⟩ := ew_1
      subst ea
      refine lv_aload_n hx hb d_Mo_box_384 rfl (lv_at hl 4 rfl) ?_
      refine lv_iload_n hx hb d_Mo_box_385 rfl (lv_at hl 5 rfl) ?_
      refine lv_dload hx hb d_Mo_box_386 (lv_at hl 2 rfl) ?_
      refine lv_dload hx hb d_Mo_box_388 (lv_at hl 3 rfl) ?_
      refine lv_dload_n hx hb d_Mo_box_390 rfl (lv_at hl 6 rfl) ?_
      refine ec_v (va_runV (As := [.int (nI n), .double x.2.2.1, .double x.2.2.2, .double u]) (rest := []) ⟨hx, hb, hml, hown, hts⟩ (m_Mo_layOut l G S0 Q hQ (wd2 Z n a1 a2) w0 d dp htr ((hM.sc hscZ).sc ⟨fun j _ _ _ => rfl, fun j hj => wd2_sc.2.1 j (by omega), rfl⟩) hv1 hr0 n hn hnt x.2.2.1 x.2.2.2 u hu (q.2.2.1, q.2.2.2) hex.2.2.1 hex.2.2.2 hbB.2.2.1 hbB.2.2.2) (cwV 4 hts (gw_V k_999 k_1001 k_56 k_67 k_1002) rfl rfl rfl (by decide +kernel) ⟨Nat.le_of_ble_eq_true rfl, Nat.le_of_ble_eq_true rfl⟩) (eB.preV hE hI hS hz rfl (mw_o hQ)) rfl rfl hl.1 rfl (lv_room (Nat.le_of_ble_eq_true rfl)) d_Mo_box_391 ⟨Nat.le_of_ble_eq_true rfl, Nat.le_of_ble_eq_true rfl⟩) hS (fun w_2 H locs ew_2 hI hsz hS => ?_)
      obtain ⟨b1, b2, eb, hb1, hb2⟩ := ew_2
      subst eb
      have hz0 : exQ (arG dp n) (1000000000 * ((2 ^ arG dp n : Nat) : Int), 1000000000 * ((2 ^ arG dp n : Nat) : Int), -(1000000000 * ((2 ^ arG dp n : Nat) : Int)), -(1000000000 * ((2 ^ arG dp n : Nat) : Int))) (rdX Z n) := by
        obtain ⟨g1, g2⟩ := fx_1e9 (arG dp n)
        rw [eZ]
        refine ⟨?_, ?_, ?_, ?_⟩
        · show fx _ _ (f_2 (n * 2)); rw [ef_2, vup_y]; exact g1
        · show fx _ _ (f_2 (n * 2 + 1)); rw [ef_2, vup_n (by omega), ef_1, vup_y]; exact g1
        · show fx _ _ (f_4 (n * 2)); rw [ef_4, vup_y]; exact g2
        · show fx _ _ (f_4 (n * 2 + 1)); rw [ef_4, vup_n (by omega), ef_3, vup_y]; exact g2
      have hz2 := wd2_rd (wd2_rd hz0 ha1 ha2) hb1 hb2
      rw [jn_far (lyI_dg _) (lyI_dg _) (lyI_b htr hv1 hu hn hnt hbB.1 hbB.2.1)] at hz2
      have harB := arB_of htr hv1 hn hnt hq hoB
      have hrdo : ∀ c, c ≠ n → rdX (wd2 (wd2 Z n a1 a2) n b1 b2) c = rdX X c := by
        intro c hc
        rw [wd2_o hc, wd2_o hc, eZ]
        show (f_2 (c * 2), f_2 (c * 2 + 1), f_4 (c * 2), f_4 (c * 2 + 1)) = _
        rw [ef_2, ef_4, vup_n (by omega), vup_n (by omega), vup_n (by omega), vup_n (by omega), ef_1, ef_3, vup_n (by omega), vup_n (by omega), vup_n (by omega), vup_n (by omega)]
        rfl
      have hZ1 : ∀ j, j ≠ 3 → Z.1 j = X.1 j := fun j hj => by rw [eZ]; exact fset_ne hj
      have hZ3 : Z.1 3 = f := by rw [eZ]; rfl
      exact W.vret hx hb hr (fun t9 ht9 hW9 => ⟨⟨(mW G Q (wd2 (wd2 Z n a1 a2) n b1 b2) w0), rfl, ⟨_, rfl, ⟨hZ1, fun c hc => ⟨by show Z.1 3 c = _; rw [hZ3]; exact hfo c hc, hrdo c hc⟩, fun j hj => by rw [wd2_sc.2.1 j hj, wd2_sc.2.1 j hj, eZ]; show fset (fset (fset (fset X.2.1 22 _) 22 _) 23 _) 23 _ j = _; rw [fset_ne (by omega), fset_ne (by omega), fset_ne (by omega), fset_ne (by omega)], by show Z.2.2 = _; rw [eZ]; rfl⟩, by show Z.1 3 n = _; rw [hZ3, hf1, harB]; rfl, fun q' hq' => by rw [harB] at hq'; cases hq'; exact hz2⟩, eWo ht9 hI⟩, hS.F ht9⟩) hS.2.2 d_Mo_box_394
  · by_cases hg0 : sNi d n 0 = 0
    · have hiB : iB d dp u n = (sCh d n).foldl (stB d (arB d dp u)) none := by unfold iB; rw [if_pos hg0, kdB_st]
      refine lv_dconst0 hx hb d_Mo_box_0 ?_
      refine lv_dstore (lv' := [(4, .double FP.dconst0), (0, .ref (Q 25)), (1, .int (nI n)), (2, .double u)]) hx hb d_Mo_box_1 hl (by decide) rfl (fun ls hl => ?_)
      refine lv_dconst0 hx hb d_Mo_box_3 ?_
      refine lv_dstore (lv' := [(6, .double FP.dconst0), (4, .double FP.dconst0), (0, .ref (Q 25)), (1, .int (nI n)), (2, .double u)]) hx hb d_Mo_box_4 hl (by decide) rfl (fun ls hl => ?_)
      refine lv_aload_n hx hb d_Mo_box_6 rfl (lv_at hl 2 rfl) ?_
      refine hp_get (ci := 5) (v := .ref (Q 15)) (C := R_Mo) (T := F_Mo) (N := 28) hx hb hg i_Mo hown hK hI (mw_o hQ) rfl 15 (by decide) (hg _ k_788) (fun _ h9 => h9) rfl d_Mo_box_7 ?_
      refine lv_iload_n hx hb d_Mo_box_10 rfl (lv_at hl 3 rfl) ?_
      refine mv_dald hx hb hK hI 1 (X.2.1 15) (mw_15 hQ) rfl n (rfl) (by omega) (by decide) d_Mo_box_11 ?_
      refine lv_dstore (lv' := [(8, .double ((X.2.1 15) n)), (6, .double FP.dconst0), (4, .double FP.dconst0), (0, .ref (Q 25)), (1, .int (nI n)), (2, .double u)]) hx hb d_Mo_box_12 hl (by decide) rfl (fun ls hl => ?_)
      refine lv_aload_n hx hb d_Mo_box_14 rfl (lv_at hl 3 rfl) ?_
      refine hp_get (ci := 5) (v := .ref (Q 4)) (C := R_Mo) (T := F_Mo) (N := 28) hx hb hg i_Mo hown hK hI (mw_o hQ) rfl 4 (by decide) (hg _ k_777) (fun _ h9 => h9) rfl d_Mo_box_15 ?_
      refine lv_iload_n hx hb d_Mo_box_18 rfl (lv_at hl 4 rfl) ?_
      refine mv_iald hx hb hK hI 0 (X.1 4) (mw_4 hQ) rfl n (rfl) (by omega) (by decide) d_Mo_box_19 ?_
      refine mv_i (y := 0) ((hM.ki hn hnt).trans hg0) ?_
      refine lv_iconst (v := 2) hx hb d_Mo_box_20 (by decide) ?_
      refine lv_icmp_ne (tgt := 33) hx hb d_Mo_box_21 (by decide) (fun c9 => ?_) (fun c9 => absurd c9 (by decide))
      refine lv_aload_n hx hb d_Mo_box_33 rfl (lv_at hl 3 rfl) ?_
      refine hp_get (ci := 5) (v := .ref (Q 16)) (C := R_Mo) (T := F_Mo) (N := 28) hx hb hg i_Mo hown hK hI (mw_o hQ) rfl 16 (by decide) (hg _ k_789) (fun _ h9 => h9) rfl d_Mo_box_34 ?_
      refine lv_iload_n hx hb d_Mo_box_37 rfl (lv_at hl 4 rfl) ?_
      refine mv_dald hx hb hK hI 1 (X.2.1 16) (mw_16 hQ) rfl n (rfl) (by omega) (by decide) d_Mo_box_38 ?_
      refine lv_dstore (lv' := [(10, .double ((X.2.1 16) n)), (8, .double ((X.2.1 15) n)), (6, .double FP.dconst0), (4, .double FP.dconst0), (0, .ref (Q 25)), (1, .int (nI n)), (2, .double u)]) hx hb d_Mo_box_39 hl (by decide) rfl (fun ls hl => ?_)
      refine lv_aload_n hx hb d_Mo_box_41 rfl (lv_at hl 4 rfl) ?_
      refine hp_get (ci := 5) (v := .ref (Q 3)) (C := R_Mo) (T := F_Mo) (N := 28) hx hb hg i_Mo hown hK hI (mw_o hQ) rfl 3 (by decide) (hg _ k_776) (fun _ h9 => h9) rfl d_Mo_box_42 ?_
      refine lv_iload_n hx hb d_Mo_box_45 rfl (lv_at hl 5 rfl) ?_
      refine lv_aload_n hx hb d_Mo_box_46 rfl (lv_at hl 4 rfl) ?_
      refine hp_get (ci := 5) (v := .ref (Q 4)) (C := R_Mo) (T := F_Mo) (N := 28) hx hb hg i_Mo hown hK hI (mw_o hQ) rfl 4 (by decide) (hg _ k_777) (fun _ h9 => h9) rfl d_Mo_box_47 ?_
      refine lv_iload_n hx hb d_Mo_box_50 rfl (lv_at hl 5 rfl) ?_
      refine mv_iald hx hb hK hI 0 (X.1 4) (mw_4 hQ) rfl n (rfl) (by omega) (by decide) d_Mo_box_51 ?_
      refine mv_i (y := 0) ((hM.ki hn hnt).trans hg0) ?_
      refine lv_if_le (tgt := 59) hx hb d_Mo_box_52 (by decide) (fun c9 => ?_) (fun c9 => absurd (by decide) c9)
      refine lv_iconst (v := 0) hx hb d_Mo_box_59 (by decide) ?_
      refine mv_zast hx hb hK hI hS 2 (X.1 3) (mw_3 hQ) rfl n (Or.inl rfl) (fun f9 => mW G Q (xsI X 3 f9) w0) (fun _ => mws_3 hQ) (rfl) (by omega) (by decide) d_Mo_box_60 (fun H locs f_5 ef_5 hI hS hsz => ?_)
      try dsimp only at hI
      refine lv_aload_n hx hb d_Mo_box_61 rfl (lv_at hl 4 rfl) ?_
      refine hp_get (ci := 5) (v := .ref (Q 4)) (C := R_Mo) (T := F_Mo) (N := 28) hx hb hg i_Mo hown hK hI (mw_o hQ) rfl 4 (by decide) (hg _ k_777) (fun _ h9 => h9) rfl d_Mo_box_62 ?_
      refine lv_iload_n hx hb d_Mo_box_65 rfl (lv_at hl 5 rfl) ?_
      refine mv_iald hx hb hK hI 0 (X.1 4) (mw_4 hQ) rfl n (rfl) (by omega) (by decide) d_Mo_box_66 ?_
      refine mv_i (y := 0) ((hM.ki hn hnt).trans hg0) ?_
      refine lv_iconst (v := 2) hx hb d_Mo_box_67 (by decide) ?_
      refine lv_icmp_ne (tgt := 80) hx hb d_Mo_box_68 (by decide) (fun c9 => ?_) (fun c9 => absurd c9 (by decide))
      refine lv_aload_n hx hb d_Mo_box_80 rfl (lv_at hl 4 rfl) ?_
      refine hp_get (ci := 5) (v := .ref (Q 4)) (C := R_Mo) (T := F_Mo) (N := 28) hx hb hg i_Mo hown hK hI (mw_o hQ) rfl 4 (by decide) (hg _ k_777) (fun _ h9 => h9) rfl d_Mo_box_81 ?_
      refine lv_iload_n hx hb d_Mo_box_84 rfl (lv_at hl 5 rfl) ?_
      refine mv_iald hx hb hK hI 0 (X.1 4) (mw_4 hQ) rfl n (rfl) (by omega) (by decide) d_Mo_box_85 ?_
      refine mv_i (y := 0) ((hM.ki hn hnt).trans hg0) ?_
      refine lv_iconst (v := 2) hx hb d_Mo_box_86 (by decide) ?_
      refine lv_icmp_ne (tgt := 99) hx hb d_Mo_box_87 (by decide) (fun c9 => ?_) (fun c9 => absurd c9 (by decide))
      refine lv_iconst (v := 0) hx hb d_Mo_box_99 (by decide) ?_
      refine lv_istore (lv' := [(12, .int 0), (10, .double ((X.2.1 16) n)), (8, .double ((X.2.1 15) n)), (6, .double FP.dconst0), (4, .double FP.dconst0), (0, .ref (Q 25)), (1, .int (nI n)), (2, .double u)]) hx hb d_Mo_box_100 hl (by decide) rfl (fun ls hl => ?_)
      have ef1n : f_5 n = 0 := by rw [ef_5]; exact upd_y
      have ef1o : ∀ c, c ≠ n → f_5 c = X.1 3 c := fun c hc => by rw [ef_5]; exact upd_n hc
      refine W.lpw (fun j (q : (Nat → Int32) × D4 × Nat) => match q with | (f, x, k) => k ≤ (sCh d n).length ∧ j = (sCh d n).length - k ∧ (∀ c, c ≠ n → f c = X.1 3 c) ∧ acP s0 (((sCh d n).take k).foldl (stB d (arB d dp u)) none) (f n) x) (fun (q : (Nat → Int32) × D4 × Nat) => match q with | (f, x, k) => mW G Q (xsI X 3 f) w0) (fun (q : (Nat → Int32) × D4 × Nat) => match q with | (f, x, k) => [(12, .int (nI k)), (4, .double x.1), (6, .double x.2.1), (8, .double x.2.2.1), (10, .double x.2.2.2), (0, .ref (Q 25)), (1, .int (nI n)), (2, .double u)]) (fun (q : (Nat → Int32) × D4 × Nat) => match q with | (f, x, k) => 0) (fun (q : (Nat → Int32) × D4 × Nat) => match q with | (f, x, k) => 0) 14 102 (fun (q : (Nat → Int32) × D4 × Nat) => match q with | (f, x, k) => []) ((sCh d n).length) ((f_5, (FP.dconst0, FP.dconst0, _, _), 0)) (⟨Nat.zero_le _, rfl, ef1o, Or.inl ⟨rfl, ef1n⟩⟩) (lv_sub hl [0, 4, 3, 2, 1, 5, 6, 7] rfl) hI hS ?_
      rintro j ⟨f, x, k⟩ ls H locs hP hl hI hS O
      try dsimp only at hP hl hI ⊢
      obtain ⟨hk, ej, hfo, hac⟩ := hP
      refine lv_iload hx hb d_Mo_box_102 (lv_at hl 0 rfl) ?_
      refine lv_aload_n hx hb d_Mo_box_104 rfl (lv_at hl 5 rfl) ?_
      refine hp_get (ci := 5) (v := .ref (Q 7)) (C := R_Mo) (T := F_Mo) (N := 28) hx hb hg i_Mo hown hK hI (mw_o hQ) rfl 7 (by decide) (hg _ k_780) (fun _ h9 => h9) rfl d_Mo_box_105 ?_
      refine lv_iload_n hx hb d_Mo_box_108 rfl (lv_at hl 6 rfl) ?_
      refine mv_iald hx hb hK hI 0 (X.1 7) (mw_7 hQ) rfl n (rfl) (by omega) (by decide) d_Mo_box_109 ?_
      refine mv_i (y := nI (sCh d n).length) (e7) ?_
      refine mv_cge (tgt := 320) hx hb k (sCh d n).length rfl rfl (by omega) (by omega) d_Mo_box_110 (by decide) (fun c1 => ?_) (fun c1 => ?_)
      · rw [show k = (sCh d n).length by omega, List.take_length, ← hiB] at hac
        exact E ((f, x)) _ _ _ (⟨hfo, hac⟩) (lv_sub hl [1, 2, 3, 4, 5, 6, 7] rfl) hI hS
      · obtain ⟨c0, ec0⟩ : ∃ c0, (sCh d n)[k]? = some c0 := ⟨_, List.getElem?_eq_getElem c1⟩
        have hcm := List.mem_of_getElem? ec0
        obtain ⟨q1, q2, q3, q4, q5, q6⟩ := htr.child hn hnt hcm
        have hcn : c0 ≠ n := fun e => by rw [e] at q5; omega
        obtain ⟨w1, w2⟩ := hch c0 hcm
        have hgc : arG dp c0 = s0 := by unfold arG; rw [if_neg q4, es0]; omega
        rw [hgc] at w2
        have hfs := fold_s (f := stB d (arB d dp u)) ec0 none
        obtain ⟨acc, eacc⟩ : ∃ z9, z9 = ((sCh d n).take k).foldl (stB d (arB d dp u)) none := ⟨_, rfl⟩
        rw [← eacc] at hfs hac
        refine lv_aload_n hx hb d_Mo_box_113 rfl (lv_at hl 5 rfl) ?_
        refine hp_get (ci := 5) (v := .ref (Q 4)) (C := R_Mo) (T := F_Mo) (N := 28) hx hb hg i_Mo hown hK hI (mw_o hQ) rfl 4 (by decide) (hg _ k_777) (fun _ h9 => h9) rfl d_Mo_box_114 ?_
        refine lv_iload_n hx hb d_Mo_box_117 rfl (lv_at hl 6 rfl) ?_
        refine mv_iald hx hb hK hI 0 (X.1 4) (mw_4 hQ) rfl n (rfl) (by omega) (by decide) d_Mo_box_118 ?_
        refine mv_i (y := 0) ((hM.ki hn hnt).trans hg0) ?_
        refine lv_if_ne (tgt := 320) hx hb d_Mo_box_119 (by decide) (fun c9 => absurd c9 (fun h => h rfl)) (fun c9 => ?_)
        refine lv_aload_n hx hb d_Mo_box_122 rfl (lv_at hl 5 rfl) ?_
        refine hp_get (ci := 5) (v := .ref (Q 8)) (C := R_Mo) (T := F_Mo) (N := 28) hx hb hg i_Mo hown hK hI (mw_o hQ) rfl 8 (by decide) (hg _ k_781) (fun _ h9 => h9) rfl d_Mo_box_123 ?_
        refine lv_iload_n hx hb d_Mo_box_126 rfl (lv_at hl 6 rfl) ?_
        refine lv_bipush (v := 14) hx hb d_Mo_box_127 (by decide) ?_
        refine mv_imul hx hb n 14 rfl rfl d_Mo_box_129 ?_
        refine lv_iload hx hb d_Mo_box_130 (lv_at hl 0 rfl) ?_
        refine mv_iadd hx hb (n * 14) k rfl rfl d_Mo_box_132 ?_
        refine mv_iald hx hb hK hI 0 (X.1 8) (mw_8 hQ) rfl (n * 14 + k) (rfl) (by omega) (by decide) d_Mo_box_133 ?_
        refine mv_i (y := nI c0) (hM.ch' hn hnt ec0) ?_
        refine lv_istore (lv' := [(13, .int (nI c0)), (12, .int (nI k)), (4, .double x.1), (6, .double x.2.1), (8, .double x.2.2.1), (10, .double x.2.2.2), (0, .ref (Q 25)), (1, .int (nI n)), (2, .double u)]) hx hb d_Mo_box_134 hl (by decide) rfl (fun ls hl => ?_)
        refine lv_aload_n hx hb d_Mo_box_136 rfl (lv_at hl 6 rfl) ?_
        refine hp_get (ci := 5) (v := .ref (Q 1)) (C := R_Mo) (T := F_Mo) (N := 28) hx hb hg i_Mo hown hK hI (mw_o hQ) rfl 1 (by decide) (hg _ k_774) (fun _ h9 => h9) rfl d_Mo_box_137 ?_
        refine lv_iload hx hb d_Mo_box_140 (lv_at hl 0 rfl) ?_
        refine mv_zald hx hb hK hI 2 (X.1 1) (mw_1 hQ) rfl c0 (rfl) (by omega) (by decide) d_Mo_box_142 ?_
        refine mv_i (y := sNi d c0 2) (hM.hi q1 q2) ?_
        refine lv_if_ne (tgt := 314) hx hb d_Mo_box_143 (by decide) (fun c2 => ?_) (fun c2 => ?_)
        · have e1 : stB d (arB d dp u) acc c0 = acc := if_neg c2
          rw [e1] at hfs
          refine lv_iinc (v := nI (k + 1)) (lv' := [(12, .int (nI (k + 1))), (13, .int (nI c0)), (4, .double x.1), (6, .double x.2.1), (8, .double x.2.2.1), (10, .double x.2.2.2), (0, .ref (Q 25)), (1, .int (nI n)), (2, .double u)]) hx hb d_Mo_box_314 hl (k := 1) rfl (nI_inc k) (by decide) rfl (fun ls hl => ?_)
          refine lv_goto (tgt := 102) hx hb d_Mo_box_317 (by decide) ?_
          exact O ((sCh d n).length - (k + 1)) ((f, x, k + 1)) _ _ _ (by omega) (⟨c1, rfl, hfo, by rw [hfs]; exact hac⟩) (lv_sub hl [0, 2, 3, 4, 5, 6, 7, 8] rfl) hI hS
        refine lv_aload_n hx hb d_Mo_box_146 rfl (lv_at hl 6 rfl) ?_
        refine hp_get (ci := 5) (v := .ref (Q 3)) (C := R_Mo) (T := F_Mo) (N := 28) hx hb hg i_Mo hown hK hI (mw_o hQ) rfl 3 (by decide) (hg _ k_776) (fun _ h9 => h9) rfl d_Mo_box_147 ?_
        refine lv_iload hx hb d_Mo_box_150 (lv_at hl 0 rfl) ?_
        refine mv_zald hx hb hK hI 2 f (mw_3 hQ) rfl c0 (rfl) (by omega) (by decide) d_Mo_box_152 ?_
        refine mv_i (y := bI (arB d dp u c0).isSome) ((by rw [hfo c0 hcn]; exact w1)) ?_
        refine mv_zne (tgt := 159) hx hb (arB d dp u c0).isSome rfl d_Mo_box_153 (by decide) (fun c3 => ?_) (fun c3 => ?_)
        rotate_left
        · have e2 : arB d dp u c0 = none := by cases hq : arB d dp u c0 with | none => rfl | some t => rw [hq] at c3; cases c3
          have e1 : stB d (arB d dp u) acc c0 = acc := by unfold stB; rw [if_pos c2, e2]; rfl
          rw [e1] at hfs
          refine lv_goto (tgt := 314) hx hb d_Mo_box_156 (by decide) ?_
          refine lv_iinc (v := nI (k + 1)) (lv' := [(12, .int (nI (k + 1))), (13, .int (nI c0)), (4, .double x.1), (6, .double x.2.1), (8, .double x.2.2.1), (10, .double x.2.2.2), (0, .ref (Q 25)), (1, .int (nI n)), (2, .double u)]) hx hb d_Mo_box_314 hl (k := 1) rfl (nI_inc k) (by decide) rfl (fun ls hl => ?_)
          refine lv_goto (tgt := 102) hx hb d_Mo_box_317 (by decide) ?_
          exact O ((sCh d n).length - (k + 1)) ((f, x, k + 1)) _ _ _ (by omega) (⟨c1, rfl, hfo, by rw [hfs]; exact hac⟩) (lv_sub hl [0, 2, 3, 4, 5, 6, 7, 8] rfl) hI hS
        obtain ⟨qc, eqc⟩ := Option.isSome_iff_exists.mp c3
        have hexc := w2 qc eqc
        obtain ⟨y, ey⟩ : ∃ z9, z9 = rdX X c0 := ⟨_, rfl⟩
        rw [← ey] at hexc
        rcases hac with ⟨hno, hf0⟩ | ⟨q, hq, hex, hf1⟩
        · have e1 : stB d (arB d dp u) acc c0 = some qc := by unfold stB; rw [if_pos c2, hno, eqc]; rfl
          rw [e1] at hfs
          refine lv_aload_n hx hb d_Mo_box_159 rfl (lv_at hl 6 rfl) ?_
          refine hp_get (ci := 5) (v := .ref (Q 3)) (C := R_Mo) (T := F_Mo) (N := 28) hx hb hg i_Mo hown hK hI (mw_o hQ) rfl 3 (by decide) (hg _ k_776) (fun _ h9 => h9) rfl d_Mo_box_160 ?_
          refine lv_iload_n hx hb d_Mo_box_163 rfl (lv_at hl 7 rfl) ?_
          refine mv_zald hx hb hK hI 2 f (mw_3 hQ) rfl n (rfl) (by omega) (by decide) d_Mo_box_164 ?_
          refine mv_i (y := 0) (hf0) ?_
          refine lv_if_eq (tgt := 183) hx hb d_Mo_box_165 (by decide) (fun c9 => ?_) (fun c9 => absurd (rfl) c9)
          refine lv_aload_n hx hb d_Mo_box_183 rfl (lv_at hl 6 rfl) ?_
          refine hp_get (ci := 5) (v := .ref (Q 22)) (C := R_Mo) (T := F_Mo) (N := 28) hx hb hg i_Mo hown hK hI (mw_o hQ) rfl 22 (by decide) (hg _ k_795) (fun _ h9 => h9) rfl d_Mo_box_184 ?_
          refine lv_iload hx hb d_Mo_box_187 (lv_at hl 0 rfl) ?_
          refine lv_iconst (v := 2) hx hb d_Mo_box_189 (by decide) ?_
          refine mv_imul hx hb c0 2 rfl rfl d_Mo_box_190 ?_
          refine mv_dald hx hb hK hI 1 (X.2.1 22) (mw_22 hQ) rfl (c0 * 2) (rfl) (by omega) (by decide) d_Mo_box_191 ?_
          refine mv_d (y := y.1) ((by rw [ey]; rfl)) ?_
          refine lv_dstore (lv' := [(4, .double y.1), (13, .int (nI c0)), (12, .int (nI k)), (6, .double x.2.1), (8, .double x.2.2.1), (10, .double x.2.2.2), (0, .ref (Q 25)), (1, .int (nI n)), (2, .double u)]) hx hb d_Mo_box_192 hl (by decide) rfl (fun ls hl => ?_)
          refine lv_aload_n hx hb d_Mo_box_194 rfl (lv_at hl 6 rfl) ?_
          refine hp_get (ci := 5) (v := .ref (Q 3)) (C := R_Mo) (T := F_Mo) (N := 28) hx hb hg i_Mo hown hK hI (mw_o hQ) rfl 3 (by decide) (hg _ k_776) (fun _ h9 => h9) rfl d_Mo_box_195 ?_
          refine lv_iload_n hx hb d_Mo_box_198 rfl (lv_at hl 7 rfl) ?_
          refine mv_zald hx hb hK hI 2 f (mw_3 hQ) rfl n (rfl) (by omega) (by decide) d_Mo_box_199 ?_
          refine mv_i (y := 0) (hf0) ?_
          refine lv_if_eq (tgt := 220) hx hb d_Mo_box_200 (by decide) (fun c9 => ?_) (fun c9 => absurd (rfl) c9)
          refine lv_aload_n hx hb d_Mo_box_220 rfl (lv_at hl 6 rfl) ?_
          refine hp_get (ci := 5) (v := .ref (Q 22)) (C := R_Mo) (T := F_Mo) (N := 28) hx hb hg i_Mo hown hK hI (mw_o hQ) rfl 22 (by decide) (hg _ k_795) (fun _ h9 => h9) rfl d_Mo_box_221 ?_
          refine lv_iload hx hb d_Mo_box_224 (lv_at hl 1 rfl) ?_
          refine lv_iconst (v := 2) hx hb d_Mo_box_226 (by decide) ?_
          refine mv_imul hx hb c0 2 rfl rfl d_Mo_box_227 ?_
          refine lv_iconst (v := 1) hx hb d_Mo_box_228 (by decide) ?_
          refine mv_iadd hx hb (c0 * 2) 1 rfl rfl d_Mo_box_229 ?_
          refine mv_dald hx hb hK hI 1 (X.2.1 22) (mw_22 hQ) rfl (c0 * 2 + 1) (rfl) (by omega) (by decide) d_Mo_box_230 ?_
          refine mv_d (y := y.2.1) ((by rw [ey]; rfl)) ?_
          refine lv_dstore (lv' := [(6, .double y.2.1), (4, .double y.1), (13, .int (nI c0)), (12, .int (nI k)), (8, .double x.2.2.1), (10, .double x.2.2.2), (0, .ref (Q 25)), (1, .int (nI n)), (2, .double u)]) hx hb d_Mo_box_231 hl (by decide) rfl (fun ls hl => ?_)
          refine lv_aload_n hx hb d_Mo_box_233 rfl (lv_at hl 6 rfl) ?_
          refine hp_get (ci := 5) (v := .ref (Q 3)) (C := R_Mo) (T := F_Mo) (N := 28) hx hb hg i_Mo hown hK hI (mw_o hQ) rfl 3 (by decide) (hg _ k_776) (fun _ h9 => h9) rfl d_Mo_box_234 ?_
          refine lv_iload_n hx hb d_Mo_box_237 rfl (lv_at hl 7 rfl) ?_
          refine mv_zald hx hb hK hI 2 f (mw_3 hQ) rfl n (rfl) (by omega) (by decide) d_Mo_box_238 ?_
          refine mv_i (y := 0) (hf0) ?_
          refine lv_if_eq (tgt := 257) hx hb d_Mo_box_239 (by decide) (fun c9 => ?_) (fun c9 => absurd (rfl) c9)
          refine lv_aload_n hx hb d_Mo_box_257 rfl (lv_at hl 6 rfl) ?_
          refine hp_get (ci := 5) (v := .ref (Q 23)) (C := R_Mo) (T := F_Mo) (N := 28) hx hb hg i_Mo hown hK hI (mw_o hQ) rfl 23 (by decide) (hg _ k_796) (fun _ h9 => h9) rfl d_Mo_box_258 ?_
          refine lv_iload hx hb d_Mo_box_261 (lv_at hl 2 rfl) ?_
          refine lv_iconst (v := 2) hx hb d_Mo_box_263 (by decide) ?_
          refine mv_imul hx hb c0 2 rfl rfl d_Mo_box_264 ?_
          refine mv_dald hx hb hK hI 1 (X.2.1 23) (mw_23 hQ) rfl (c0 * 2) (rfl) (by omega) (by decide) d_Mo_box_265 ?_
          refine mv_d (y := y.2.2.1) ((by rw [ey]; rfl)) ?_
          refine lv_dstore (lv' := [(8, .double y.2.2.1), (6, .double y.2.1), (4, .double y.1), (13, .int (nI c0)), (12, .int (nI k)), (10, .double x.2.2.2), (0, .ref (Q 25)), (1, .int (nI n)), (2, .double u)]) hx hb d_Mo_box_266 hl (by decide) rfl (fun ls hl => ?_)
          refine lv_aload_n hx hb d_Mo_box_268 rfl (lv_at hl 6 rfl) ?_
          refine hp_get (ci := 5) (v := .ref (Q 3)) (C := R_Mo) (T := F_Mo) (N := 28) hx hb hg i_Mo hown hK hI (mw_o hQ) rfl 3 (by decide) (hg _ k_776) (fun _ h9 => h9) rfl d_Mo_box_269 ?_
          refine lv_iload_n hx hb d_Mo_box_272 rfl (lv_at hl 7 rfl) ?_
          refine mv_zald hx hb hK hI 2 f (mw_3 hQ) rfl n (rfl) (by omega) (by decide) d_Mo_box_273 ?_
          refine mv_i (y := 0) (hf0) ?_
          refine lv_if_eq (tgt := 294) hx hb d_Mo_box_274 (by decide) (fun c9 => ?_) (fun c9 => absurd (rfl) c9)
          refine lv_aload_n hx hb d_Mo_box_294 rfl (lv_at hl 6 rfl) ?_
          refine hp_get (ci := 5) (v := .ref (Q 23)) (C := R_Mo) (T := F_Mo) (N := 28) hx hb hg i_Mo hown hK hI (mw_o hQ) rfl 23 (by decide) (hg _ k_796) (fun _ h9 => h9) rfl d_Mo_box_295 ?_
          refine lv_iload hx hb d_Mo_box_298 (lv_at hl 3 rfl) ?_
          refine lv_iconst (v := 2) hx hb d_Mo_box_300 (by decide) ?_
          refine mv_imul hx hb c0 2 rfl rfl d_Mo_box_301 ?_
          refine lv_iconst (v := 1) hx hb d_Mo_box_302 (by decide) ?_
          refine mv_iadd hx hb (c0 * 2) 1 rfl rfl d_Mo_box_303 ?_
          refine mv_dald hx hb hK hI 1 (X.2.1 23) (mw_23 hQ) rfl (c0 * 2 + 1) (rfl) (by omega) (by decide) d_Mo_box_304 ?_
          refine mv_d (y := y.2.2.2) ((by rw [ey]; rfl)) ?_
          refine lv_dstore (lv' := [(10, .double y.2.2.2), (8, .double y.2.2.1), (6, .double y.2.1), (4, .double y.1), (13, .int (nI c0)), (12, .int (nI k)), (0, .ref (Q 25)), (1, .int (nI n)), (2, .double u)]) hx hb d_Mo_box_305 hl (by decide) rfl (fun ls hl => ?_)
          refine lv_aload_n hx hb d_Mo_box_307 rfl (lv_at hl 6 rfl) ?_
          refine hp_get (ci := 5) (v := .ref (Q 3)) (C := R_Mo) (T := F_Mo) (N := 28) hx hb hg i_Mo hown hK hI (mw_o hQ) rfl 3 (by decide) (hg _ k_776) (fun _ h9 => h9) rfl d_Mo_box_308 ?_
          refine lv_iload_n hx hb d_Mo_box_311 rfl (lv_at hl 7 rfl) ?_
          refine lv_iconst (v := 1) hx hb d_Mo_box_312 (by decide) ?_
          refine mv_zast hx hb hK hI hS 2 f (mw_3 hQ) rfl n (Or.inr rfl) (fun f9 => mW G Q (xsI (xsI X 3 f) 3 f9) w0) (fun _ => mws_3 hQ) (rfl) (by omega) (by decide) d_Mo_box_313 (fun H locs f_6 ef_6 hI hS hsz => ?_)
          try dsimp only at hI
          refine lv_iinc (v := nI (k + 1)) (lv' := [(12, .int (nI (k + 1))), (10, .double y.2.2.2), (8, .double y.2.2.1), (6, .double y.2.1), (4, .double y.1), (13, .int (nI c0)), (0, .ref (Q 25)), (1, .int (nI n)), (2, .double u)]) hx hb d_Mo_box_314 hl (k := 5) rfl (nI_inc k) (by decide) rfl (fun ls hl => ?_)
          refine lv_goto (tgt := 102) hx hb d_Mo_box_317 (by decide) ?_
          rw [xi_xi] at hI
          exact O ((sCh d n).length - (k + 1)) ((f_6, y, k + 1)) _ _ _ (by omega) (⟨c1, rfl, fun c hc => by rw [ef_6, upd_n hc]; exact hfo c hc, by rw [hfs]; exact Or.inr ⟨qc, rfl, hexc, by rw [ef_6]; exact upd_y⟩⟩) (lv_sub hl [0, 4, 3, 2, 1, 6, 7, 8] rfl) hI hS
        · have e1 : stB d (arB d dp u) acc c0 = some (jnB q qc) := by unfold stB; rw [if_pos c2, hq, eqc]; rfl
          rw [e1] at hfs
          have hexj := hex.jn hexc
          refine lv_aload_n hx hb d_Mo_box_159 rfl (lv_at hl 6 rfl) ?_
          refine hp_get (ci := 5) (v := .ref (Q 3)) (C := R_Mo) (T := F_Mo) (N := 28) hx hb hg i_Mo hown hK hI (mw_o hQ) rfl 3 (by decide) (hg _ k_776) (fun _ h9 => h9) rfl d_Mo_box_160 ?_
          refine lv_iload_n hx hb d_Mo_box_163 rfl (lv_at hl 7 rfl) ?_
          refine mv_zald hx hb hK hI 2 f (mw_3 hQ) rfl n (rfl) (by omega) (by decide) d_Mo_box_164 ?_
          refine mv_i (y := 1) (hf1) ?_
          refine lv_if_eq (tgt := 183) hx hb d_Mo_box_165 (by decide) (fun c9 => absurd c9 (by decide)) (fun c9 => ?_)
          refine lv_aload_n hx hb d_Mo_box_168 rfl (lv_at hl 6 rfl) ?_
          refine hp_get (ci := 5) (v := .ref (Q 22)) (C := R_Mo) (T := F_Mo) (N := 28) hx hb hg i_Mo hown hK hI (mw_o hQ) rfl 22 (by decide) (hg _ k_795) (fun _ h9 => h9) rfl d_Mo_box_169 ?_
          refine lv_iload hx hb d_Mo_box_172 (lv_at hl 0 rfl) ?_
          refine lv_iconst (v := 2) hx hb d_Mo_box_174 (by decide) ?_
          refine mv_imul hx hb c0 2 rfl rfl d_Mo_box_175 ?_
          refine mv_dald hx hb hK hI 1 (X.2.1 22) (mw_22 hQ) rfl (c0 * 2) (rfl) (by omega) (by decide) d_Mo_box_176 ?_
          refine mv_d (y := y.1) ((by rw [ey]; rfl)) ?_
          refine lv_dload hx hb d_Mo_box_177 (lv_at hl 2 rfl) ?_
          refine lv_dcmp hx hb d_Mo_box_179 ?_
          refine W.midw (G := G) (S0 := S0) (fun (u9 : Unit) => True) (fun (u9 : Unit) => (mW G Q (xsI X 3 f) w0)) (fun (u9 : Unit) => [(13, .int (nI c0)), (12, .int (nI k)), (4, .double (dlo y.1 x.1)), (6, .double x.2.1), (8, .double x.2.2.1), (10, .double x.2.2.2), (0, .ref (Q 25)), (1, .int (nI n)), (2, .double u)]) (fun (u9 : Unit) => 0) (fun (u9 : Unit) => 0) 14 194 (fun (u9 : Unit) => []) ?_ (fun J1 => ?_)
          · rintro u9 ls H locs hP hl hI hS
            try dsimp only at hP hl hI ⊢
            refine lv_aload_n hx hb d_Mo_box_194 rfl (lv_at hl 6 rfl) ?_
            refine hp_get (ci := 5) (v := .ref (Q 3)) (C := R_Mo) (T := F_Mo) (N := 28) hx hb hg i_Mo hown hK hI (mw_o hQ) rfl 3 (by decide) (hg _ k_776) (fun _ h9 => h9) rfl d_Mo_box_195 ?_
            refine lv_iload_n hx hb d_Mo_box_198 rfl (lv_at hl 7 rfl) ?_
            refine mv_zald hx hb hK hI 2 f (mw_3 hQ) rfl n (rfl) (by omega) (by decide) d_Mo_box_199 ?_
            refine mv_i (y := 1) (hf1) ?_
            refine lv_if_eq (tgt := 220) hx hb d_Mo_box_200 (by decide) (fun c9 => absurd c9 (by decide)) (fun c9 => ?_)
            refine lv_aload_n hx hb d_Mo_box_203 rfl (lv_at hl 6 rfl) ?_
            refine hp_get (ci := 5) (v := .ref (Q 22)) (C := R_Mo) (T := F_Mo) (N := 28) hx hb hg i_Mo hown hK hI (mw_o hQ) rfl 22 (by decide) (hg _ k_795) (fun _ h9 => h9) rfl d_Mo_box_204 ?_
            refine lv_iload hx hb d_Mo_box_207 (lv_at hl 0 rfl) ?_
            refine lv_iconst (v := 2) hx hb d_Mo_box_209 (by decide) ?_
            refine mv_imul hx hb c0 2 rfl rfl d_Mo_box_210 ?_
            refine lv_iconst (v := 1) hx hb d_Mo_box_211 (by decide) ?_
            refine mv_iadd hx hb (c0 * 2) 1 rfl rfl d_Mo_box_212 ?_
            refine mv_dald hx hb hK hI 1 (X.2.1 22) (mw_22 hQ) rfl (c0 * 2 + 1) (rfl) (by omega) (by decide) d_Mo_box_213 ?_
            refine mv_d (y := y.2.1) ((by rw [ey]; rfl)) ?_
            refine lv_dload hx hb d_Mo_box_214 (lv_at hl 3 rfl) ?_
            refine lv_dcmp hx hb d_Mo_box_216 ?_
            refine W.midw (G := G) (S0 := S0) (fun (u9 : Unit) => True) (fun (u9 : Unit) => (mW G Q (xsI X 3 f) w0)) (fun (u9 : Unit) => [(13, .int (nI c0)), (12, .int (nI k)), (4, .double (dlo y.1 x.1)), (6, .double (dlo y.2.1 x.2.1)), (8, .double x.2.2.1), (10, .double x.2.2.2), (0, .ref (Q 25)), (1, .int (nI n)), (2, .double u)]) (fun (u9 : Unit) => 0) (fun (u9 : Unit) => 0) 14 233 (fun (u9 : Unit) => []) ?_ (fun J2 => ?_)
            · rintro u9 ls H locs hP hl hI hS
              try dsimp only at hP hl hI ⊢
              refine lv_aload_n hx hb d_Mo_box_233 rfl (lv_at hl 6 rfl) ?_
              refine hp_get (ci := 5) (v := .ref (Q 3)) (C := R_Mo) (T := F_Mo) (N := 28) hx hb hg i_Mo hown hK hI (mw_o hQ) rfl 3 (by decide) (hg _ k_776) (fun _ h9 => h9) rfl d_Mo_box_234 ?_
              refine lv_iload_n hx hb d_Mo_box_237 rfl (lv_at hl 7 rfl) ?_
              refine mv_zald hx hb hK hI 2 f (mw_3 hQ) rfl n (rfl) (by omega) (by decide) d_Mo_box_238 ?_
              refine mv_i (y := 1) (hf1) ?_
              refine lv_if_eq (tgt := 257) hx hb d_Mo_box_239 (by decide) (fun c9 => absurd c9 (by decide)) (fun c9 => ?_)
              refine lv_aload_n hx hb d_Mo_box_242 rfl (lv_at hl 6 rfl) ?_
              refine hp_get (ci := 5) (v := .ref (Q 23)) (C := R_Mo) (T := F_Mo) (N := 28) hx hb hg i_Mo hown hK hI (mw_o hQ) rfl 23 (by decide) (hg _ k_796) (fun _ h9 => h9) rfl d_Mo_box_243 ?_
              refine lv_iload hx hb d_Mo_box_246 (lv_at hl 0 rfl) ?_
              refine lv_iconst (v := 2) hx hb d_Mo_box_248 (by decide) ?_
              refine mv_imul hx hb c0 2 rfl rfl d_Mo_box_249 ?_
              refine mv_dald hx hb hK hI 1 (X.2.1 23) (mw_23 hQ) rfl (c0 * 2) (rfl) (by omega) (by decide) d_Mo_box_250 ?_
              refine mv_d (y := y.2.2.1) ((by rw [ey]; rfl)) ?_
              refine lv_dload hx hb d_Mo_box_251 (lv_at hl 4 rfl) ?_
              refine lv_dcmp hx hb d_Mo_box_253 ?_
              refine W.midw (G := G) (S0 := S0) (fun (u9 : Unit) => True) (fun (u9 : Unit) => (mW G Q (xsI X 3 f) w0)) (fun (u9 : Unit) => [(13, .int (nI c0)), (12, .int (nI k)), (4, .double (dlo y.1 x.1)), (6, .double (dlo y.2.1 x.2.1)), (8, .double (dhi y.2.2.1 x.2.2.1)), (10, .double x.2.2.2), (0, .ref (Q 25)), (1, .int (nI n)), (2, .double u)]) (fun (u9 : Unit) => 0) (fun (u9 : Unit) => 0) 14 268 (fun (u9 : Unit) => []) ?_ (fun J3 => ?_)
              · rintro u9 ls H locs hP hl hI hS
                try dsimp only at hP hl hI ⊢
                refine lv_aload_n hx hb d_Mo_box_268 rfl (lv_at hl 6 rfl) ?_
                refine hp_get (ci := 5) (v := .ref (Q 3)) (C := R_Mo) (T := F_Mo) (N := 28) hx hb hg i_Mo hown hK hI (mw_o hQ) rfl 3 (by decide) (hg _ k_776) (fun _ h9 => h9) rfl d_Mo_box_269 ?_
                refine lv_iload_n hx hb d_Mo_box_272 rfl (lv_at hl 7 rfl) ?_
                refine mv_zald hx hb hK hI 2 f (mw_3 hQ) rfl n (rfl) (by omega) (by decide) d_Mo_box_273 ?_
                refine mv_i (y := 1) (hf1) ?_
                refine lv_if_eq (tgt := 294) hx hb d_Mo_box_274 (by decide) (fun c9 => absurd c9 (by decide)) (fun c9 => ?_)
                refine lv_aload_n hx hb d_Mo_box_277 rfl (lv_at hl 6 rfl) ?_
                refine hp_get (ci := 5) (v := .ref (Q 23)) (C := R_Mo) (T := F_Mo) (N := 28) hx hb hg i_Mo hown hK hI (mw_o hQ) rfl 23 (by decide) (hg _ k_796) (fun _ h9 => h9) rfl d_Mo_box_278 ?_
                refine lv_iload hx hb d_Mo_box_281 (lv_at hl 0 rfl) ?_
                refine lv_iconst (v := 2) hx hb d_Mo_box_283 (by decide) ?_
                refine mv_imul hx hb c0 2 rfl rfl d_Mo_box_284 ?_
                refine lv_iconst (v := 1) hx hb d_Mo_box_285 (by decide) ?_
                refine mv_iadd hx hb (c0 * 2) 1 rfl rfl d_Mo_box_286 ?_
                refine mv_dald hx hb hK hI 1 (X.2.1 23) (mw_23 hQ) rfl (c0 * 2 + 1) (rfl) (by omega) (by decide) d_Mo_box_287 ?_
                refine mv_d (y := y.2.2.2) ((by rw [ey]; rfl)) ?_
                refine lv_dload hx hb d_Mo_box_288 (lv_at hl 5 rfl) ?_
                refine lv_dcmp hx hb d_Mo_box_290 ?_
                refine W.midw (G := G) (S0 := S0) (fun (u9 : Unit) => True) (fun (u9 : Unit) => (mW G Q (xsI X 3 f) w0)) (fun (u9 : Unit) => [(13, .int (nI c0)), (12, .int (nI k)), (4, .double (dlo y.1 x.1)), (6, .double (dlo y.2.1 x.2.1)), (8, .double (dhi y.2.2.1 x.2.2.1)), (10, .double (dhi y.2.2.2 x.2.2.2)), (0, .ref (Q 25)), (1, .int (nI n)), (2, .double u)]) (fun (u9 : Unit) => 0) (fun (u9 : Unit) => 0) 14 307 (fun (u9 : Unit) => []) ?_ (fun J4 => ?_)
                · rintro u9 ls H locs hP hl hI hS
                  try dsimp only at hP hl hI ⊢
                  refine lv_aload_n hx hb d_Mo_box_307 rfl (lv_at hl 6 rfl) ?_
                  refine hp_get (ci := 5) (v := .ref (Q 3)) (C := R_Mo) (T := F_Mo) (N := 28) hx hb hg i_Mo hown hK hI (mw_o hQ) rfl 3 (by decide) (hg _ k_776) (fun _ h9 => h9) rfl d_Mo_box_308 ?_
                  refine lv_iload_n hx hb d_Mo_box_311 rfl (lv_at hl 7 rfl) ?_
                  refine lv_iconst (v := 1) hx hb d_Mo_box_312 (by decide) ?_
                  refine mv_zast hx hb hK hI hS 2 f (mw_3 hQ) rfl n (Or.inr rfl) (fun f9 => mW G Q (xsI (xsI X 3 f) 3 f9) w0) (fun _ => mws_3 hQ) (rfl) (by omega) (by decide) d_Mo_box_313 (fun H locs f_7 ef_7 hI hS hsz => ?_)
                  try dsimp only at hI
                  refine lv_iinc (v := nI (k + 1)) (lv' := [(12, .int (nI (k + 1))), (13, .int (nI c0)), (4, .double (dlo y.1 x.1)), (6, .double (dlo y.2.1 x.2.1)), (8, .double (dhi y.2.2.1 x.2.2.1)), (10, .double (dhi y.2.2.2 x.2.2.2)), (0, .ref (Q 25)), (1, .int (nI n)), (2, .double u)]) hx hb d_Mo_box_314 hl (k := 1) rfl (nI_inc k) (by decide) rfl (fun ls hl => ?_)
                  refine lv_goto (tgt := 102) hx hb d_Mo_box_317 (by decide) ?_
                  rw [xi_xi] at hI
                  exact O ((sCh d n).length - (k + 1)) ((f_7, jnD x y, k + 1)) _ _ _ (by omega) (⟨c1, rfl, fun c hc => by rw [ef_7, upd_n hc]; exact hfo c hc, by rw [hfs]; exact Or.inr ⟨jnB q qc, rfl, hexj, by rw [ef_7]; exact upd_y⟩⟩) (lv_sub hl [0, 2, 3, 4, 5, 6, 7, 8] rfl) hI hS
                · refine lv_if_le (tgt := 307) hx hb d_Mo_box_291 (by decide) (fun r1 => ?_) (fun r1 => ?_)
                  · rw [show x.2.2.2 = dhi y.2.2.2 x.2.2.2 from (if_neg (cv_l_le.mp r1)).symm] at hl
                    exact J4 (()) _ _ _ (trivial) (lv_sub hl [0, 1, 2, 3, 4, 5, 6, 7, 8] rfl) hI hS
                  · refine lv_aload_n hx hb d_Mo_box_294 rfl (lv_at hl 6 rfl) ?_
                    refine hp_get (ci := 5) (v := .ref (Q 23)) (C := R_Mo) (T := F_Mo) (N := 28) hx hb hg i_Mo hown hK hI (mw_o hQ) rfl 23 (by decide) (hg _ k_796) (fun _ h9 => h9) rfl d_Mo_box_295 ?_
                    refine lv_iload hx hb d_Mo_box_298 (lv_at hl 0 rfl) ?_
                    refine lv_iconst (v := 2) hx hb d_Mo_box_300 (by decide) ?_
                    refine mv_imul hx hb c0 2 rfl rfl d_Mo_box_301 ?_
                    refine lv_iconst (v := 1) hx hb d_Mo_box_302 (by decide) ?_
                    refine mv_iadd hx hb (c0 * 2) 1 rfl rfl d_Mo_box_303 ?_
                    refine mv_dald hx hb hK hI 1 (X.2.1 23) (mw_23 hQ) rfl (c0 * 2 + 1) (rfl) (by omega) (by decide) d_Mo_box_304 ?_
                    refine mv_d (y := y.2.2.2) ((by rw [ey]; rfl)) ?_
                    refine lv_dstore (lv' := [(10, .double y.2.2.2), (13, .int (nI c0)), (12, .int (nI k)), (4, .double (dlo y.1 x.1)), (6, .double (dlo y.2.1 x.2.1)), (8, .double (dhi y.2.2.1 x.2.2.1)), (0, .ref (Q 25)), (1, .int (nI n)), (2, .double u)]) hx hb d_Mo_box_305 hl (by decide) rfl (fun ls hl => ?_)
                    rw [show y.2.2.2 = dhi y.2.2.2 x.2.2.2 from (if_pos (cv_l_gt.mp (Int32.not_le.mp r1))).symm] at hl
                    exact J4 (()) _ _ _ (trivial) (lv_sub hl [1, 2, 3, 4, 5, 0, 6, 7, 8] rfl) hI hS
              · refine lv_if_le (tgt := 268) hx hb d_Mo_box_254 (by decide) (fun r1 => ?_) (fun r1 => ?_)
                · rw [show x.2.2.1 = dhi y.2.2.1 x.2.2.1 from (if_neg (cv_l_le.mp r1)).symm] at hl
                  exact J3 (()) _ _ _ (trivial) (lv_sub hl [0, 1, 2, 3, 4, 5, 6, 7, 8] rfl) hI hS
                · refine lv_aload_n hx hb d_Mo_box_257 rfl (lv_at hl 6 rfl) ?_
                  refine hp_get (ci := 5) (v := .ref (Q 23)) (C := R_Mo) (T := F_Mo) (N := 28) hx hb hg i_Mo hown hK hI (mw_o hQ) rfl 23 (by decide) (hg _ k_796) (fun _ h9 => h9) rfl d_Mo_box_258 ?_
                  refine lv_iload hx hb d_Mo_box_261 (lv_at hl 0 rfl) ?_
                  refine lv_iconst (v := 2) hx hb d_Mo_box_263 (by decide) ?_
                  refine mv_imul hx hb c0 2 rfl rfl d_Mo_box_264 ?_
                  refine mv_dald hx hb hK hI 1 (X.2.1 23) (mw_23 hQ) rfl (c0 * 2) (rfl) (by omega) (by decide) d_Mo_box_265 ?_
                  refine mv_d (y := y.2.2.1) ((by rw [ey]; rfl)) ?_
                  refine lv_dstore (lv' := [(8, .double y.2.2.1), (13, .int (nI c0)), (12, .int (nI k)), (4, .double (dlo y.1 x.1)), (6, .double (dlo y.2.1 x.2.1)), (10, .double x.2.2.2), (0, .ref (Q 25)), (1, .int (nI n)), (2, .double u)]) hx hb d_Mo_box_266 hl (by decide) rfl (fun ls hl => ?_)
                  rw [show y.2.2.1 = dhi y.2.2.1 x.2.2.1 from (if_pos (cv_l_gt.mp (Int32.not_le.mp r1))).symm] at hl
                  exact J3 (()) _ _ _ (trivial) (lv_sub hl [1, 2, 3, 4, 0, 5, 6, 7, 8] rfl) hI hS
            · refine lv_if_ge (tgt := 233) hx hb d_Mo_box_217 (by decide) (fun r1 => ?_) (fun r1 => ?_)
              · rw [show x.2.1 = dlo y.2.1 x.2.1 from (if_neg (cv_g_ge.mp r1)).symm] at hl
                exact J2 (()) _ _ _ (trivial) (lv_sub hl [0, 1, 2, 3, 4, 5, 6, 7, 8] rfl) hI hS
              · refine lv_aload_n hx hb d_Mo_box_220 rfl (lv_at hl 6 rfl) ?_
                refine hp_get (ci := 5) (v := .ref (Q 22)) (C := R_Mo) (T := F_Mo) (N := 28) hx hb hg i_Mo hown hK hI (mw_o hQ) rfl 22 (by decide) (hg _ k_795) (fun _ h9 => h9) rfl d_Mo_box_221 ?_
                refine lv_iload hx hb d_Mo_box_224 (lv_at hl 0 rfl) ?_
                refine lv_iconst (v := 2) hx hb d_Mo_box_226 (by decide) ?_
                refine mv_imul hx hb c0 2 rfl rfl d_Mo_box_227 ?_
                refine lv_iconst (v := 1) hx hb d_Mo_box_228 (by decide) ?_
                refine mv_iadd hx hb (c0 * 2) 1 rfl rfl d_Mo_box_229 ?_
                refine mv_dald hx hb hK hI 1 (X.2.1 22) (mw_22 hQ) rfl (c0 * 2 + 1) (rfl) (by omega) (by decide) d_Mo_box_230 ?_
                refine mv_d (y := y.2.1) ((by rw [ey]; rfl)) ?_
                refine lv_dstore (lv' := [(6, .double y.2.1), (13, .int (nI c0)), (12, .int (nI k)), (4, .double (dlo y.1 x.1)), (8, .double x.2.2.1), (10, .double x.2.2.2), (0, .ref (Q 25)), (1, .int (nI n)), (2, .double u)]) hx hb d_Mo_box_231 hl (by decide) rfl (fun ls hl => ?_)
                rw [show y.2.1 = dlo y.2.1 x.2.1 from (if_pos (cv_g_lt.mp (Int32.not_le.mp r1))).symm] at hl
                exact J2 (()) _ _ _ (trivial) (lv_sub hl [1, 2, 3, 0, 4, 5, 6, 7, 8] rfl) hI hS
          · refine lv_if_ge (tgt := 194) hx hb d_Mo_box_180 (by decide) (fun r1 => ?_) (fun r1 => ?_)
            · rw [show x.1 = dlo y.1 x.1 from (if_neg (cv_g_ge.mp r1)).symm] at hl
              exact J1 (()) _ _ _ (trivial) (lv_sub hl [0, 1, 2, 3, 4, 5, 6, 7, 8] rfl) hI hS
            · refine lv_aload_n hx hb d_Mo_box_183 rfl (lv_at hl 6 rfl) ?_
              refine hp_get (ci := 5) (v := .ref (Q 22)) (C := R_Mo) (T := F_Mo) (N := 28) hx hb hg i_Mo hown hK hI (mw_o hQ) rfl 22 (by decide) (hg _ k_795) (fun _ h9 => h9) rfl d_Mo_box_184 ?_
              refine lv_iload hx hb d_Mo_box_187 (lv_at hl 0 rfl) ?_
              refine lv_iconst (v := 2) hx hb d_Mo_box_189 (by decide) ?_
              refine mv_imul hx hb c0 2 rfl rfl d_Mo_box_190 ?_
              refine mv_dald hx hb hK hI 1 (X.2.1 22) (mw_22 hQ) rfl (c0 * 2) (rfl) (by omega) (by decide) d_Mo_box_191 ?_
              refine mv_d (y := y.1) ((by rw [ey]; rfl)) ?_
              refine lv_dstore (lv' := [(4, .double y.1), (13, .int (nI c0)), (12, .int (nI k)), (6, .double x.2.1), (8, .double x.2.2.1), (10, .double x.2.2.2), (0, .ref (Q 25)), (1, .int (nI n)), (2, .double u)]) hx hb d_Mo_box_192 hl (by decide) rfl (fun ls hl => ?_)
              rw [show y.1 = dlo y.1 x.1 from (if_pos (cv_g_lt.mp (Int32.not_le.mp r1))).symm] at hl
              exact J1 (()) _ _ _ (trivial) (lv_sub hl [1, 2, 0, 3, 4, 5, 6, 7, 8] rfl) hI hS
    · have hn0 : n ≠ 0 := fun e => hg0 (by rw [e]; exact htr.2.2.1)
      have hiB : iB d dp u n = some (spB d (5 - dp n) n) := by unfold iB; rw [if_neg hg0]
      obtain ⟨hsp, -⟩ := sp_ok (k := n) (f := 5 - dp n) (by omega) (hv1 n hn hnt)
      have hch0 : (sCh d n).length = 0 := by rw [(htr.2.2.2.2.2.1 n hn hnt).2.2 hg0]; rfl
      have hkc0 : kc ≠ 0 := fun e => hg0 (by rw [ekc, e]; rfl)
      rw [hch0] at e7
      rw [← es0] at hsp
      have b1 := (hM.ba hn hnt hn0).1
      have b2 := (hM.ba hn hnt hn0).2.1
      by_cases hk2 : kc = 2
      · subst hk2
        have espD : spD d n = (FP.dneg (sNd d n 0), FP.dneg (sNd d n 0), sNd d n 0, sNd d n 0) := by unfold spD; rw [if_pos (by rw [ekc]; rfl)]
        refine lv_dconst0 hx hb d_Mo_box_0 ?_
        refine lv_dstore (lv' := [(4, .double FP.dconst0), (0, .ref (Q 25)), (1, .int (nI n)), (2, .double u)]) hx hb d_Mo_box_1 hl (by decide) rfl (fun ls hl => ?_)
        refine lv_dconst0 hx hb d_Mo_box_3 ?_
        refine lv_dstore (lv' := [(6, .double FP.dconst0), (4, .double FP.dconst0), (0, .ref (Q 25)), (1, .int (nI n)), (2, .double u)]) hx hb d_Mo_box_4 hl (by decide) rfl (fun ls hl => ?_)
        refine lv_aload_n hx hb d_Mo_box_6 rfl (lv_at hl 2 rfl) ?_
        refine hp_get (ci := 5) (v := .ref (Q 15)) (C := R_Mo) (T := F_Mo) (N := 28) hx hb hg i_Mo hown hK hI (mw_o hQ) rfl 15 (by decide) (hg _ k_788) (fun _ h9 => h9) rfl d_Mo_box_7 ?_
        refine lv_iload_n hx hb d_Mo_box_10 rfl (lv_at hl 3 rfl) ?_
        refine mv_dald hx hb hK hI 1 (X.2.1 15) (mw_15 hQ) rfl n (rfl) (by omega) (by decide) d_Mo_box_11 ?_
        refine mv_d (y := sNd d n 0) (b1) ?_
        refine lv_dstore (lv' := [(8, .double (sNd d n 0)), (6, .double FP.dconst0), (4, .double FP.dconst0), (0, .ref (Q 25)), (1, .int (nI n)), (2, .double u)]) hx hb d_Mo_box_12 hl (by decide) rfl (fun ls hl => ?_)
        refine lv_aload_n hx hb d_Mo_box_14 rfl (lv_at hl 3 rfl) ?_
        refine hp_get (ci := 5) (v := .ref (Q 4)) (C := R_Mo) (T := F_Mo) (N := 28) hx hb hg i_Mo hown hK hI (mw_o hQ) rfl 4 (by decide) (hg _ k_777) (fun _ h9 => h9) rfl d_Mo_box_15 ?_
        refine lv_iload_n hx hb d_Mo_box_18 rfl (lv_at hl 4 rfl) ?_
        refine mv_iald hx hb hK hI 0 (X.1 4) (mw_4 hQ) rfl n (rfl) (by omega) (by decide) d_Mo_box_19 ?_
        refine mv_i (y := 2) ((hM.ki hn hnt).trans ekc) ?_
        refine lv_iconst (v := 2) hx hb d_Mo_box_20 (by decide) ?_
        refine lv_icmp_ne (tgt := 33) hx hb d_Mo_box_21 (by decide) (fun c9 => absurd c9 (fun h => h rfl)) (fun c9 => ?_)
        refine lv_aload_n hx hb d_Mo_box_24 rfl (lv_at hl 3 rfl) ?_
        refine hp_get (ci := 5) (v := .ref (Q 15)) (C := R_Mo) (T := F_Mo) (N := 28) hx hb hg i_Mo hown hK hI (mw_o hQ) rfl 15 (by decide) (hg _ k_788) (fun _ h9 => h9) rfl d_Mo_box_25 ?_
        refine lv_iload_n hx hb d_Mo_box_28 rfl (lv_at hl 4 rfl) ?_
        refine mv_dald hx hb hK hI 1 (X.2.1 15) (mw_15 hQ) rfl n (rfl) (by omega) (by decide) d_Mo_box_29 ?_
        refine mv_d (y := sNd d n 0) (b1) ?_
        refine lv_goto (tgt := 39) hx hb d_Mo_box_30 (by decide) ?_
        refine lv_dstore (lv' := [(10, .double (sNd d n 0)), (8, .double (sNd d n 0)), (6, .double FP.dconst0), (4, .double FP.dconst0), (0, .ref (Q 25)), (1, .int (nI n)), (2, .double u)]) hx hb d_Mo_box_39 hl (by decide) rfl (fun ls hl => ?_)
        refine lv_aload_n hx hb d_Mo_box_41 rfl (lv_at hl 4 rfl) ?_
        refine hp_get (ci := 5) (v := .ref (Q 3)) (C := R_Mo) (T := F_Mo) (N := 28) hx hb hg i_Mo hown hK hI (mw_o hQ) rfl 3 (by decide) (hg _ k_776) (fun _ h9 => h9) rfl d_Mo_box_42 ?_
        refine lv_iload_n hx hb d_Mo_box_45 rfl (lv_at hl 5 rfl) ?_
        refine lv_aload_n hx hb d_Mo_box_46 rfl (lv_at hl 4 rfl) ?_
        refine hp_get (ci := 5) (v := .ref (Q 4)) (C := R_Mo) (T := F_Mo) (N := 28) hx hb hg i_Mo hown hK hI (mw_o hQ) rfl 4 (by decide) (hg _ k_777) (fun _ h9 => h9) rfl d_Mo_box_47 ?_
        refine lv_iload_n hx hb d_Mo_box_50 rfl (lv_at hl 5 rfl) ?_
        refine mv_iald hx hb hK hI 0 (X.1 4) (mw_4 hQ) rfl n (rfl) (by omega) (by decide) d_Mo_box_51 ?_
        refine mv_i (y := 2) ((hM.ki hn hnt).trans ekc) ?_
        refine lv_if_le (tgt := 59) hx hb d_Mo_box_52 (by decide) (fun c9 => absurd c9 (by decide)) (fun c9 => ?_)
        refine lv_iconst (v := 1) hx hb d_Mo_box_55 (by decide) ?_
        refine lv_goto (tgt := 60) hx hb d_Mo_box_56 (by decide) ?_
        refine mv_zast hx hb hK hI hS 2 (X.1 3) (mw_3 hQ) rfl n (Or.inr rfl) (fun f9 => mW G Q (xsI X 3 f9) w0) (fun _ => mws_3 hQ) (rfl) (by omega) (by decide) d_Mo_box_60 (fun H locs f_8 ef_8 hI hS hsz => ?_)
        try dsimp only at hI
        refine lv_aload_n hx hb d_Mo_box_61 rfl (lv_at hl 4 rfl) ?_
        refine hp_get (ci := 5) (v := .ref (Q 4)) (C := R_Mo) (T := F_Mo) (N := 28) hx hb hg i_Mo hown hK hI (mw_o hQ) rfl 4 (by decide) (hg _ k_777) (fun _ h9 => h9) rfl d_Mo_box_62 ?_
        refine lv_iload_n hx hb d_Mo_box_65 rfl (lv_at hl 5 rfl) ?_
        refine mv_iald hx hb hK hI 0 (X.1 4) (mw_4 hQ) rfl n (rfl) (by omega) (by decide) d_Mo_box_66 ?_
        refine mv_i (y := 2) ((hM.ki hn hnt).trans ekc) ?_
        refine lv_iconst (v := 2) hx hb d_Mo_box_67 (by decide) ?_
        refine lv_icmp_ne (tgt := 80) hx hb d_Mo_box_68 (by decide) (fun c9 => absurd c9 (fun h => h rfl)) (fun c9 => ?_)
        refine lv_aload_n hx hb d_Mo_box_71 rfl (lv_at hl 4 rfl) ?_
        refine hp_get (ci := 5) (v := .ref (Q 15)) (C := R_Mo) (T := F_Mo) (N := 28) hx hb hg i_Mo hown hK hI (mw_o hQ) rfl 15 (by decide) (hg _ k_788) (fun _ h9 => h9) rfl d_Mo_box_72 ?_
        refine lv_iload_n hx hb d_Mo_box_75 rfl (lv_at hl 5 rfl) ?_
        refine mv_dald hx hb hK hI 1 (X.2.1 15) (mw_15 hQ) rfl n (rfl) (by omega) (by decide) d_Mo_box_76 ?_
        refine mv_d (y := sNd d n 0) (b1) ?_
        refine lv_dneg hx hb d_Mo_box_77 ?_
        refine lv_dstore (lv' := [(4, .double (FP.dneg (sNd d n 0))), (10, .double (sNd d n 0)), (8, .double (sNd d n 0)), (6, .double FP.dconst0), (0, .ref (Q 25)), (1, .int (nI n)), (2, .double u)]) hx hb d_Mo_box_78 hl (by decide) rfl (fun ls hl => ?_)
        refine lv_aload_n hx hb d_Mo_box_80 rfl (lv_at hl 4 rfl) ?_
        refine hp_get (ci := 5) (v := .ref (Q 4)) (C := R_Mo) (T := F_Mo) (N := 28) hx hb hg i_Mo hown hK hI (mw_o hQ) rfl 4 (by decide) (hg _ k_777) (fun _ h9 => h9) rfl d_Mo_box_81 ?_
        refine lv_iload_n hx hb d_Mo_box_84 rfl (lv_at hl 5 rfl) ?_
        refine mv_iald hx hb hK hI 0 (X.1 4) (mw_4 hQ) rfl n (rfl) (by omega) (by decide) d_Mo_box_85 ?_
        refine mv_i (y := 2) ((hM.ki hn hnt).trans ekc) ?_
        refine lv_iconst (v := 2) hx hb d_Mo_box_86 (by decide) ?_
        refine lv_icmp_ne (tgt := 99) hx hb d_Mo_box_87 (by decide) (fun c9 => absurd c9 (fun h => h rfl)) (fun c9 => ?_)
        refine lv_aload_n hx hb d_Mo_box_90 rfl (lv_at hl 4 rfl) ?_
        refine hp_get (ci := 5) (v := .ref (Q 15)) (C := R_Mo) (T := F_Mo) (N := 28) hx hb hg i_Mo hown hK hI (mw_o hQ) rfl 15 (by decide) (hg _ k_788) (fun _ h9 => h9) rfl d_Mo_box_91 ?_
        refine lv_iload_n hx hb d_Mo_box_94 rfl (lv_at hl 5 rfl) ?_
        refine mv_dald hx hb hK hI 1 (X.2.1 15) (mw_15 hQ) rfl n (rfl) (by omega) (by decide) d_Mo_box_95 ?_
        refine mv_d (y := sNd d n 0) (b1) ?_
        refine lv_dneg hx hb d_Mo_box_96 ?_
        refine lv_dstore (lv' := [(6, .double (FP.dneg (sNd d n 0))), (4, .double (FP.dneg (sNd d n 0))), (10, .double (sNd d n 0)), (8, .double (sNd d n 0)), (0, .ref (Q 25)), (1, .int (nI n)), (2, .double u)]) hx hb d_Mo_box_97 hl (by decide) rfl (fun ls hl => ?_)
        refine lv_iconst (v := 0) hx hb d_Mo_box_99 (by decide) ?_
        refine lv_istore (lv' := [(12, .int 0), (6, .double (FP.dneg (sNd d n 0))), (4, .double (FP.dneg (sNd d n 0))), (10, .double (sNd d n 0)), (8, .double (sNd d n 0)), (0, .ref (Q 25)), (1, .int (nI n)), (2, .double u)]) hx hb d_Mo_box_100 hl (by decide) rfl (fun ls hl => ?_)
        refine lv_iload hx hb d_Mo_box_102 (lv_at hl 0 rfl) ?_
        refine lv_aload_n hx hb d_Mo_box_104 rfl (lv_at hl 5 rfl) ?_
        refine hp_get (ci := 5) (v := .ref (Q 7)) (C := R_Mo) (T := F_Mo) (N := 28) hx hb hg i_Mo hown hK hI (mw_o hQ) rfl 7 (by decide) (hg _ k_780) (fun _ h9 => h9) rfl d_Mo_box_105 ?_
        refine lv_iload_n hx hb d_Mo_box_108 rfl (lv_at hl 6 rfl) ?_
        refine mv_iald hx hb hK hI 0 (X.1 7) (mw_7 hQ) rfl n (rfl) (by omega) (by decide) d_Mo_box_109 ?_
        refine mv_i (y := 0) (e7) ?_
        refine lv_icmp_ge (tgt := 320) hx hb d_Mo_box_110 (by decide) (fun c9 => ?_) (fun c9 => absurd (by decide) c9)
        exact E ((f_8, FP.dneg (sNd d n 0), FP.dneg (sNd d n 0), sNd d n 0, sNd d n 0)) _ _ _ (⟨fun c hc => by rw [ef_8]; exact upd_n hc, Or.inr ⟨_, hiB, by rw [← espD]; exact hsp, by rw [ef_8]; exact upd_y⟩⟩) (lv_sub hl [2, 1, 4, 3, 5, 6, 7] rfl) hI hS
      · have hk2' : ¬ sNi d n 0 = 2 := by rw [ekc]; exact fun e => hk2 ((nI_eq (a := kc) (b := 2) (by omega) (by decide)).mp e)
        have espD : spD d n = (FP.dconst0, FP.dconst0, sNd d n 0, sNd d n 1) := by unfold spD; rw [if_neg hk2']
        refine lv_dconst0 hx hb d_Mo_box_0 ?_
        refine lv_dstore (lv' := [(4, .double FP.dconst0), (0, .ref (Q 25)), (1, .int (nI n)), (2, .double u)]) hx hb d_Mo_box_1 hl (by decide) rfl (fun ls hl => ?_)
        refine lv_dconst0 hx hb d_Mo_box_3 ?_
        refine lv_dstore (lv' := [(6, .double FP.dconst0), (4, .double FP.dconst0), (0, .ref (Q 25)), (1, .int (nI n)), (2, .double u)]) hx hb d_Mo_box_4 hl (by decide) rfl (fun ls hl => ?_)
        refine lv_aload_n hx hb d_Mo_box_6 rfl (lv_at hl 2 rfl) ?_
        refine hp_get (ci := 5) (v := .ref (Q 15)) (C := R_Mo) (T := F_Mo) (N := 28) hx hb hg i_Mo hown hK hI (mw_o hQ) rfl 15 (by decide) (hg _ k_788) (fun _ h9 => h9) rfl d_Mo_box_7 ?_
        refine lv_iload_n hx hb d_Mo_box_10 rfl (lv_at hl 3 rfl) ?_
        refine mv_dald hx hb hK hI 1 (X.2.1 15) (mw_15 hQ) rfl n (rfl) (by omega) (by decide) d_Mo_box_11 ?_
        refine mv_d (y := sNd d n 0) (b1) ?_
        refine lv_dstore (lv' := [(8, .double (sNd d n 0)), (6, .double FP.dconst0), (4, .double FP.dconst0), (0, .ref (Q 25)), (1, .int (nI n)), (2, .double u)]) hx hb d_Mo_box_12 hl (by decide) rfl (fun ls hl => ?_)
        refine lv_aload_n hx hb d_Mo_box_14 rfl (lv_at hl 3 rfl) ?_
        refine hp_get (ci := 5) (v := .ref (Q 4)) (C := R_Mo) (T := F_Mo) (N := 28) hx hb hg i_Mo hown hK hI (mw_o hQ) rfl 4 (by decide) (hg _ k_777) (fun _ h9 => h9) rfl d_Mo_box_15 ?_
        refine lv_iload_n hx hb d_Mo_box_18 rfl (lv_at hl 4 rfl) ?_
        refine mv_iald hx hb hK hI 0 (X.1 4) (mw_4 hQ) rfl n (rfl) (by omega) (by decide) d_Mo_box_19 ?_
        refine mv_i (y := nI kc) ((hM.ki hn hnt).trans ekc) ?_
        refine lv_iconst (v := 2) hx hb d_Mo_box_20 (by decide) ?_
        refine mv_cne (tgt := 33) hx hb kc 2 rfl rfl (by omega) (by omega) d_Mo_box_21 (by decide) (fun z1 => ?_) (fun z1 => ?_)
        rotate_left
        · exact absurd z1 hk2
        refine lv_aload_n hx hb d_Mo_box_33 rfl (lv_at hl 3 rfl) ?_
        refine hp_get (ci := 5) (v := .ref (Q 16)) (C := R_Mo) (T := F_Mo) (N := 28) hx hb hg i_Mo hown hK hI (mw_o hQ) rfl 16 (by decide) (hg _ k_789) (fun _ h9 => h9) rfl d_Mo_box_34 ?_
        refine lv_iload_n hx hb d_Mo_box_37 rfl (lv_at hl 4 rfl) ?_
        refine mv_dald hx hb hK hI 1 (X.2.1 16) (mw_16 hQ) rfl n (rfl) (by omega) (by decide) d_Mo_box_38 ?_
        refine mv_d (y := sNd d n 1) (b2) ?_
        refine lv_dstore (lv' := [(10, .double (sNd d n 1)), (8, .double (sNd d n 0)), (6, .double FP.dconst0), (4, .double FP.dconst0), (0, .ref (Q 25)), (1, .int (nI n)), (2, .double u)]) hx hb d_Mo_box_39 hl (by decide) rfl (fun ls hl => ?_)
        refine lv_aload_n hx hb d_Mo_box_41 rfl (lv_at hl 4 rfl) ?_
        refine hp_get (ci := 5) (v := .ref (Q 3)) (C := R_Mo) (T := F_Mo) (N := 28) hx hb hg i_Mo hown hK hI (mw_o hQ) rfl 3 (by decide) (hg _ k_776) (fun _ h9 => h9) rfl d_Mo_box_42 ?_
        refine lv_iload_n hx hb d_Mo_box_45 rfl (lv_at hl 5 rfl) ?_
        refine lv_aload_n hx hb d_Mo_box_46 rfl (lv_at hl 4 rfl) ?_
        refine hp_get (ci := 5) (v := .ref (Q 4)) (C := R_Mo) (T := F_Mo) (N := 28) hx hb hg i_Mo hown hK hI (mw_o hQ) rfl 4 (by decide) (hg _ k_777) (fun _ h9 => h9) rfl d_Mo_box_47 ?_
        refine lv_iload_n hx hb d_Mo_box_50 rfl (lv_at hl 5 rfl) ?_
        refine mv_iald hx hb hK hI 0 (X.1 4) (mw_4 hQ) rfl n (rfl) (by omega) (by decide) d_Mo_box_51 ?_
        refine mv_i (y := nI kc) ((hM.ki hn hnt).trans ekc) ?_
        refine mv_ile (tgt := 59) hx hb kc rfl (by omega) d_Mo_box_52 (by decide) (fun z2 => ?_) (fun z2 => ?_)
        · exact absurd z2 hkc0
        refine lv_iconst (v := 1) hx hb d_Mo_box_55 (by decide) ?_
        refine lv_goto (tgt := 60) hx hb d_Mo_box_56 (by decide) ?_
        refine mv_zast hx hb hK hI hS 2 (X.1 3) (mw_3 hQ) rfl n (Or.inr rfl) (fun f9 => mW G Q (xsI X 3 f9) w0) (fun _ => mws_3 hQ) (rfl) (by omega) (by decide) d_Mo_box_60 (fun H locs f_9 ef_9 hI hS hsz => ?_)
        try dsimp only at hI
        refine lv_aload_n hx hb d_Mo_box_61 rfl (lv_at hl 4 rfl) ?_
        refine hp_get (ci := 5) (v := .ref (Q 4)) (C := R_Mo) (T := F_Mo) (N := 28) hx hb hg i_Mo hown hK hI (mw_o hQ) rfl 4 (by decide) (hg _ k_777) (fun _ h9 => h9) rfl d_Mo_box_62 ?_
        refine lv_iload_n hx hb d_Mo_box_65 rfl (lv_at hl 5 rfl) ?_
        refine mv_iald hx hb hK hI 0 (X.1 4) (mw_4 hQ) rfl n (rfl) (by omega) (by decide) d_Mo_box_66 ?_
        refine mv_i (y := nI kc) ((hM.ki hn hnt).trans ekc) ?_
        refine lv_iconst (v := 2) hx hb d_Mo_box_67 (by decide) ?_
        refine mv_cne (tgt := 80) hx hb kc 2 rfl rfl (by omega) (by omega) d_Mo_box_68 (by decide) (fun z3 => ?_) (fun z3 => ?_)
        rotate_left
        · exact absurd z3 hk2
        refine lv_aload_n hx hb d_Mo_box_80 rfl (lv_at hl 4 rfl) ?_
        refine hp_get (ci := 5) (v := .ref (Q 4)) (C := R_Mo) (T := F_Mo) (N := 28) hx hb hg i_Mo hown hK hI (mw_o hQ) rfl 4 (by decide) (hg _ k_777) (fun _ h9 => h9) rfl d_Mo_box_81 ?_
        refine lv_iload_n hx hb d_Mo_box_84 rfl (lv_at hl 5 rfl) ?_
        refine mv_iald hx hb hK hI 0 (X.1 4) (mw_4 hQ) rfl n (rfl) (by omega) (by decide) d_Mo_box_85 ?_
        refine mv_i (y := nI kc) ((hM.ki hn hnt).trans ekc) ?_
        refine lv_iconst (v := 2) hx hb d_Mo_box_86 (by decide) ?_
        refine mv_cne (tgt := 99) hx hb kc 2 rfl rfl (by omega) (by omega) d_Mo_box_87 (by decide) (fun z4 => ?_) (fun z4 => ?_)
        rotate_left
        · exact absurd z4 hk2
        refine lv_iconst (v := 0) hx hb d_Mo_box_99 (by decide) ?_
        refine lv_istore (lv' := [(12, .int 0), (10, .double (sNd d n 1)), (8, .double (sNd d n 0)), (6, .double FP.dconst0), (4, .double FP.dconst0), (0, .ref (Q 25)), (1, .int (nI n)), (2, .double u)]) hx hb d_Mo_box_100 hl (by decide) rfl (fun ls hl => ?_)
        refine lv_iload hx hb d_Mo_box_102 (lv_at hl 0 rfl) ?_
        refine lv_aload_n hx hb d_Mo_box_104 rfl (lv_at hl 5 rfl) ?_
        refine hp_get (ci := 5) (v := .ref (Q 7)) (C := R_Mo) (T := F_Mo) (N := 28) hx hb hg i_Mo hown hK hI (mw_o hQ) rfl 7 (by decide) (hg _ k_780) (fun _ h9 => h9) rfl d_Mo_box_105 ?_
        refine lv_iload_n hx hb d_Mo_box_108 rfl (lv_at hl 6 rfl) ?_
        refine mv_iald hx hb hK hI 0 (X.1 7) (mw_7 hQ) rfl n (rfl) (by omega) (by decide) d_Mo_box_109 ?_
        refine mv_i (y := 0) (e7) ?_
        refine lv_icmp_ge (tgt := 320) hx hb d_Mo_box_110 (by decide) (fun c9 => ?_) (fun c9 => absurd (by decide) c9)
        exact E ((f_9, FP.dconst0, FP.dconst0, sNd d n 0, sNd d n 1)) _ _ _ (⟨fun c hc => by rw [ef_9]; exact upd_n hc, Or.inr ⟨_, hiB, by rw [← espD]; exact hsp, by rw [ef_9]; exact upd_y⟩⟩) (lv_sub hl [4, 3, 2, 1, 5, 6, 7] rfl) hI hS

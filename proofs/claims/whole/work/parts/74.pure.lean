/-! what the calls keep -/
theorem tOk.mv {d d' : DS} {dp : Nat → Nat} (h : tOk d dp) (e1 : sTh d' = sTh d) (e2 : ∀ k, sNi d' k 0 = sNi d k 0) (e3 : sCh d' = sCh d) (e4 : sPa d' = sPa d) : tOk d' dp := by
  unfold tOk at h ⊢
  rw [e1, e3, e4]
  simp only [e2]
  exact h
theorem niC {d : DS} {k i : Nat} {v : Int32} {j r : Nat} (P : Int32 → Prop) (hold : P (sNi d j r)) (hnew : r = i → P v) : P (sNi (dNi d k i v) j r) := by
  show P (if j = k ∧ r = i then v else sNi d j r)
  split
  · rename_i h; exact hnew h.2
  · exact hold
theorem ndC {d : DS} {k i : Nat} {v : UInt64} {j r : Nat} (P : UInt64 → Prop) (hold : P (sNd d j r)) (hnew : r = i → P v) : P (sNd (dNd d k i v) j r) := by
  show P (if j = k ∧ r = i then v else sNd d j r)
  split
  · rename_i h; exact hnew h.2
  · exact hold
theorem vOk.ni {d : DS} (h : vOk d) (k i : Nat) (v : Int32) (c0 : i = 0 → ∃ c : Nat, c < 4 ∧ v = nI c) (c1 : i = 1 → c15' v) (c2 : i = 2 → v = 0 ∨ v = 1) (c3 : i = 3 → ∃ t : Nat, t < 4 ∧ v = nI t) (c4 : i = 4 → s5 v) (c5 : i = 5 → ∃ c : Nat, c < 3 ∧ v = nI c) : vOk (dNi d k i v) := by
  intro j hj ht
  obtain ⟨a0, a1, a2, a3, a4, a5, a6⟩ := h j hj ht
  exact ⟨niC (fun z => ∃ c : Nat, c < 4 ∧ z = nI c) a0 (fun e => c0 e.symm), niC c15' a1 (fun e => c1 e.symm), niC (fun z => z = 0 ∨ z = 1) a2 (fun e => c2 e.symm), niC (fun z => ∃ c : Nat, c < 4 ∧ z = nI c) a3 (fun e => c3 e.symm), niC s5 a4 (fun e => c4 e.symm), niC (fun z => ∃ c : Nat, c < 3 ∧ z = nI c) a5 (fun e => c5 e.symm), a6⟩
theorem vOk.nd {d : DS} (h : vOk d) (k i : Nat) (v : UInt64) (c0 : i = 0 ∨ i = 1 → lnO v) (c2 : i = 2 ∨ i = 3 → plO v) (c4 : i = 4 → spO v) : vOk (dNd d k i v) := by
  intro j hj ht
  obtain ⟨a0, a1, a2, a3, a4, a5, b0, b1, b2, b3, b4, a6⟩ := h j hj ht
  exact ⟨a0, a1, a2, a3, a4, a5, ndC lnO b0 (fun e => c0 (Or.inl e.symm)), ndC lnO b1 (fun e => c0 (Or.inr e.symm)), ndC plO b2 (fun e => c2 (Or.inl e.symm)), ndC plO b3 (fun e => c2 (Or.inr e.symm)), ndC spO b4 (fun e => c4 e.symm), a6⟩
theorem upd_i {f : Nat → Int32} {k j : Nat} {v w : Int32} (h : j = k → v = w) (hn : j ≠ k → f j = w) : upd f k v j = w := by
  by_cases e : j = k
  · rw [e, upd_y]; exact h e
  · rw [upd_n e]; exact hn e
theorem vup_i {f : Nat → UInt64} {k j : Nat} {v w : UInt64} (h : j = k → v = w) (hn : j ≠ k → f j = w) : vf_upd f k v j = w := by
  by_cases e : j = k
  · rw [e, vup_y]; exact h e
  · rw [vup_n e]; exact hn e
theorem mN.hide {X : XS} {d : DS} (h : mN X d) {k : Nat} {v : Int32} : mN (xsI (xsT X 0) 1 (upd (X.1 1) k v)) (dNi d k 2 v) := by
  refine ⟨h.1, fun j hj ht => ?_⟩
  have ht : sTh d j = true := ht
  obtain ⟨a1, a2, a3, a4, a5, a6, a7, a8, a9, a10, a11⟩ := h.2 j hj ht
  refine ⟨?_, a2.trans (dNi_n (by omega)).symm, a3.trans (dNi_n (by omega)).symm, a4.trans (dNi_n (by omega)).symm, a5, a6, a7, a8, a9, fun h0 => ?_, a11⟩
  · show upd (X.1 1) k v j = _
    exact upd_i (fun e => by rw [e]; exact (dNi_y d k 2 v).symm) (fun e => a1.trans (dNi_n (fun q => e q.1)).symm)
  · rw [dNi_n (by omega), dNi_n (by omega)]; exact a10 h0
theorem mN.lay {X : XS} {d : DS} (h : mN X d) {k : Nat} {t s : Int32} : mN (xsD (xsI (xsT X 0) 9 (upd (X.1 9) k t)) 17 (vf_upd (X.2.1 17) (k * 4 + 2) (FP.i2d s))) (dNi (dNi d k 3 t) k 4 s) := by
  refine ⟨h.1, fun j hj ht => ?_⟩
  have ht : sTh d j = true := ht
  obtain ⟨a1, a2, a3, a4, a5, a6, a7, a8, a9, a10, a11⟩ := h.2 j hj ht
  refine ⟨?_, ?_, ?_, ?_, a5, a6, a7, a8, a9, fun h0 => ?_, a11⟩
  · rw [dNi_n (by omega), dNi_n (by omega)]; exact a1
  · rw [dNi_n (by omega), dNi_n (by omega)]; exact a2
  · rw [dNi_n (by omega), dNi_n (by omega)]; exact a3
  · show upd (X.1 9) k t j = _
    rw [dNi_n (by omega)]
    exact upd_i (fun e => by rw [e]; exact (dNi_y d k 3 t).symm) (fun e => a4.trans (dNi_n (fun q => e q.1)).symm)
  · obtain ⟨b1, b2, b3, b4, b5, b6⟩ := a10 h0
    refine ⟨b1, b2, ?_, ?_, ?_, ?_⟩
    · exact (vup_n (by omega)).trans b3
    · exact (vup_n (by omega)).trans b4
    · show vf_upd (X.2.1 17) (k * 4 + 2) (FP.i2d s) (j * 4 + 2) = _
      refine vup_i (fun e => ?_) (fun e => ?_)
      · rw [show j = k by omega, dNi_y]
      · rw [dNi_n (by omega), dNi_n (by omega)]; exact b5
    · rw [dNi_n (by omega), dNi_n (by omega)]
      exact (vup_n (by omega)).trans b6
theorem mN.mode {X : XS} {d : DS} (h : mN X d) {k : Nat} {m : Int32} {s : UInt64} : mN (xsD (xsI (xsT X 0) 5 (upd (X.1 5) k m)) 14 (vf_upd (X.2.1 14) k s)) (dNd (dNi d k 5 m) k 4 s) := by
  refine ⟨h.1, fun j hj ht => ?_⟩
  have ht : sTh d j = true := ht
  obtain ⟨a1, a2, a3, a4, a5, a6, a7, a8, a9, a10, a11⟩ := h.2 j hj ht
  refine ⟨a1.trans (dNi_n (by omega)).symm, a2.trans (dNi_n (by omega)).symm, ?_, a4.trans (dNi_n (by omega)).symm, a5, a6, a7, a8, ?_, fun h0 => ?_, a11⟩
  · show upd (X.1 5) k m j = sNi (dNi d k 5 m) j 5
    exact upd_i (fun e => by rw [e]; exact (dNi_y d k 5 m).symm) (fun e => a3.trans (dNi_n (fun q => e q.1)).symm)
  · show vf_upd (X.2.1 14) k s j = _
    exact vup_i (fun e => by rw [e]; exact (dNd_y (dNi d k 5 m) k 4 s).symm) (fun e => a9.trans (dNd_n (d := dNi d k 5 m) (fun q => e q.1)).symm)
  · obtain ⟨b1, b2, b3, b4, b5, b6⟩ := a10 h0
    exact ⟨b1.trans (dNd_n (d := dNi d k 5 m) (by omega)).symm, b2.trans (dNd_n (d := dNi d k 5 m) (by omega)).symm, b3.trans (dNd_n (d := dNi d k 5 m) (by omega)).symm, b4.trans (dNd_n (d := dNi d k 5 m) (by omega)).symm, by rw [show sNi (dNd (dNi d k 5 m) k 4 s) j 4 = sNi (dNi d k 5 m) j 4 from rfl, dNi_n (by omega)]; exact b5, by rw [show sNi (dNd (dNi d k 5 m) k 4 s) j 1 = sNi (dNi d k 5 m) j 1 from rfl, dNi_n (by omega)]; exact b6⟩
theorem mN.place {X : XS} {d : DS} (h : mN X d) {k : Nat} {x y : UInt64} : mN (xsD (xsD (xsT X 0) 17 (vf_upd (X.2.1 17) (k * 4) x)) 17 (vf_upd (vf_upd (X.2.1 17) (k * 4) x) (k * 4 + 1) y)) (dNd (dNd d k 2 x) k 3 y) := by
  refine ⟨h.1, fun j hj ht => ?_⟩
  have ht : sTh d j = true := ht
  obtain ⟨a1, a2, a3, a4, a5, a6, a7, a8, a9, a10, a11⟩ := h.2 j hj ht
  refine ⟨a1, a2, a3, a4, a5, a6, a7, a8, ?_, fun h0 => ?_, a11⟩
  · rw [dNd_n (by omega), dNd_n (by omega)]; exact a9
  · obtain ⟨b1, b2, b3, b4, b5, b6⟩ := a10 h0
    refine ⟨?_, ?_, ?_, ?_, ?_, ?_⟩
    · rw [dNd_n (by omega), dNd_n (by omega)]; exact b1
    · rw [dNd_n (by omega), dNd_n (by omega)]; exact b2
    · show vf_upd (vf_upd (X.2.1 17) (k * 4) x) (k * 4 + 1) y (j * 4) = _
      rw [vup_n (by omega), dNd_n (by omega)]
      exact vup_i (fun e => by rw [show j = k by omega]; exact (dNd_y d k 2 x).symm) (fun e => b3.trans (dNd_n (by omega)).symm)
    · show vf_upd (vf_upd (X.2.1 17) (k * 4) x) (k * 4 + 1) y (j * 4 + 1) = _
      refine vup_i (fun e => by rw [show j = k by omega]; exact (dNd_y (dNd d k 2 x) k 3 y).symm) (fun e => ?_)
      rw [vup_n (by omega), dNd_n (by omega), dNd_n (by omega)]
      exact b4
    · exact (vup_n (by omega)).trans ((vup_n (by omega)).trans b5)
    · exact (vup_n (by omega)).trans ((vup_n (by omega)).trans b6)
theorem mN.lengths {X : XS} {d : DS} (h : mN X d) {k : Nat} {x y : UInt64} : mN (xsD (xsD (xsT X 0) 15 (vf_upd (X.2.1 15) k x)) 16 (vf_upd (X.2.1 16) k y)) (dNd (dNd d k 0 x) k 1 y) := by
  refine ⟨h.1, fun j hj ht => ?_⟩
  have ht : sTh d j = true := ht
  obtain ⟨a1, a2, a3, a4, a5, a6, a7, a8, a9, a10, a11⟩ := h.2 j hj ht
  refine ⟨a1, a2, a3, a4, a5, a6, a7, a8, ?_, fun h0 => ?_, a11⟩
  · rw [dNd_n (by omega), dNd_n (by omega)]; exact a9
  · obtain ⟨b1, b2, b3, b4, b5, b6⟩ := a10 h0
    refine ⟨?_, ?_, ?_, ?_, b5, b6⟩
    · show vf_upd (X.2.1 15) k x j = _
      rw [dNd_n (by omega)]
      exact vup_i (fun e => by rw [e]; exact (dNd_y d k 0 x).symm) (fun e => b1.trans (dNd_n (by omega)).symm)
    · show vf_upd (X.2.1 16) k y j = _
      refine vup_i (fun e => by rw [e]; exact (dNd_y (dNd d k 0 x) k 1 y).symm) (fun e => ?_)
      rw [dNd_n (by omega), dNd_n (by omega)]
      exact b2
    · rw [dNd_n (by omega), dNd_n (by omega)]; exact b3
    · rw [dNd_n (by omega), dNd_n (by omega)]; exact b4
theorem mN.unkey {X : XS} {d : DS} (h : mN X d) {k i : Nat} (hk : k < 14) (hi : i < 4) (ht : sTh d k = true) {v : Int32} : mN (xsI (xsT X v) 10 (upd (X.1 10) (k * 4 + i) 0)) (dTn d k i 0) := by
  refine mN.tr1 h hk hi ht rfl rfl rfl rfl rfl (fun c r q => ⟨dTn_n q, rfl, rfl⟩) (fun j hj => fset_ne hj) (fun _ _ _ => rfl) (fun x hx => upd_n hx) (fun _ _ => ⟨rfl, rfl⟩) ⟨?_, ?_⟩ (fun j hj => ?_)
  · show upd (X.1 10) (k * 4 + i) 0 (k * 4 + i) = _
    rw [upd_y, dTn_y]; rfl
  · rw [dTn_y]; decide
  · rw [dTn_y] at hj; exact absurd hj (Nat.not_lt_zero j)
theorem upd_same {f : Nat → Int32} {k : Nat} {v : Int32} (h : f k = v) : upd f k v = f := by
  funext j
  by_cases e : j = k
  · rw [e, upd_y, h]
  · exact upd_n e
/-- the numbers of a script -/
abbrev sD (s : Int32) : UInt64 := FP.dmul (FP.i2d s) c0125
theorem fx_0125 : fx 3 1 c0125 := by
  have := fx_div (u := 3) (N := 1) (by decide) (fx_i2d 1) (fx_i2d 8) (by decide) (by decide) (by decide)
  have e : FP.ddiv (FP.i2d 1) (FP.i2d 8) = c0125 := by decide +kernel
  rw [e] at this
  exact this
theorem i32_ab (s : Int32) : s.toInt.natAbs ≤ 2 ^ 31 := by
  have := s.toInt_lt
  have := s.le_toInt
  omega
theorem sD_fx (s : Int32) : fx 3 s.toInt (sD s) := by
  have h := fx_mul (j := 0) (k := 3) (by decide) (fx_i2d s) fx_0125 (by rw [Int.mul_one]; have := i32_ab s; omega)
  rw [Int.mul_one] at h
  exact h
theorem sD_3 (s : Int32) : fx3 (sD s) := ⟨_, sD_fx s⟩
theorem d2i_of {x : UInt64} {s : Int32} (h : fx 0 s.toInt x) : FP.d2i x = s := by
  have hcv : (FP.d2i x).toInt = max (-2 ^ 31) (min (2 ^ 31 - 1) (FP.Core.signed (FP.Core.sgn (FP.Core.val64 x)) (FP.Core.zmag FP.Core.b64 (FP.Core.val64 x) / FP.Core.one64))) := FP.Core.d2i_val h.1.ne_nan
  rw [fx_cut h] at hcv
  have e : s.toInt.tdiv ((2 ^ 0 : Nat) : Int) = s.toInt := Int.tdiv_one _
  rw [e] at hcv
  have h1 := s.toInt_lt
  have h2 := s.le_toInt
  exact Int32.toInt.inj (by rw [hcv]; omega)
theorem whole8 (s : Int32) : dWhole (sD s) 8 := by
  unfold dWhole
  have h := fx_mul (j := 3) (k := 0) (by decide) (sD_fx s) (fx_i2d 8) (by have := i32_ab s; rw [show (8 : Int32).toInt = 8 from by decide, Int.natAbs_mul, show Int.natAbs 8 = 8 from rfl]; omega)
  have h0 : fx 0 s.toInt (FP.dmul (sD s) (FP.i2d 8)) := fx_dn 3 (by rw [show ((2 ^ 3 : Nat) : Int) = (8 : Int32).toInt from by decide]; exact h)
  rw [d2i_of h0]
  exact (fx_eq h0 (fx_i2d s)).mpr rfl
theorem inL_i (s : Int32) : inL (sD s) ↔ dge (sD s) c0125 ∧ dle (sD s) c100 := ⟨fun h => h.1, fun h => ⟨h, whole8 s⟩⟩
theorem inP_i (s : Int32) : inP (sD s) ↔ dge (sD s) cm100 ∧ dle (sD s) c100 := ⟨fun h => h.1, fun h => ⟨h, whole8 s⟩⟩
theorem fx3_of (i : Int32) (x : UInt64) (e : FP.i2d i = x) : fx 3 (i.toInt * 8) x := by
  have := fx_up 3 (fx_i2d i)
  rw [e] at this
  exact this
theorem rg_100 {s : Int32} (h : dge (sD s) cm100 ∧ dle (sD s) c100) : s.toInt.natAbs ≤ 800 := by
  have h1 := (fx_ge (sD_fx s) (fx3_of (-100) cm100 (by decide +kernel))).mp h.1
  have h2 := (fx_le (sD_fx s) (fx3_of 100 c100 (by decide +kernel))).mp h.2
  have e1 : (-100 : Int32).toInt = -100 := by decide
  have e2 : (100 : Int32).toInt = 100 := by decide
  rw [e1] at h1
  rw [e2] at h2
  omega
theorem inP_pl {s : Int32} (h : inP (sD s)) : plO (sD s) := ⟨_, sD_fx s, rg_100 h.1⟩
theorem inL_ln {s : Int32} (h : inL (sD s)) : lnO (sD s) := by
  have h1 := (fx_ge (sD_fx s) fx_0125).mp h.1.1
  have h2 := (fx_le (sD_fx s) (fx3_of 100 c100 (by decide +kernel))).mp h.1.2
  have e2 : (100 : Int32).toInt = 100 := by decide
  rw [e2] at h2
  exact ⟨_, sD_fx s, h1, by omega⟩
theorem sp_of {s : Int32} (h : dge (sD s) FP.dconst1 ∧ dle (sD s) 4629700416936869888) : spO (sD s) := by
  have h1 := (fx_ge (sD_fx s) (fx3_of 1 FP.dconst1 (by decide +kernel))).mp h.1
  have h2 := (fx_le (sD_fx s) (fx3_of 32 4629700416936869888 (by decide +kernel))).mp h.2
  have e1 : (1 : Int32).toInt = 1 := by decide
  have e2 : (32 : Int32).toInt = 32 := by decide
  rw [e1] at h1
  rw [e2] at h2
  exact ⟨_, sD_fx s, by omega, by omega⟩

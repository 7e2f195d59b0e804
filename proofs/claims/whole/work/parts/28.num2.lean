/-! bounds of doubles; equal bits -/
theorem fx_le {k : Nat} {m n : Int} {x y : UInt64} (hx : fx k m x) (hy : fx k n y) : dle x y ↔ m ≤ n := by
  show (FP.dcmp x y = some .lt ∨ FP.dcmp x y = some .eq) ↔ _
  rw [fx_cmp hx hy, Option.some.injEq, Option.some.injEq, FP.Core.compare_lt_iff, FP.Core.compare_eq_iff]
  omega
theorem fx_ge {k : Nat} {m n : Int} {x y : UInt64} (hx : fx k m x) (hy : fx k n y) : dge x y ↔ n ≤ m := by
  show (FP.dcmp x y = some .gt ∨ FP.dcmp x y = some .eq) ↔ _
  rw [fx_cmp hx hy, Option.some.injEq, Option.some.injEq, FP.Core.compare_gt_iff, FP.Core.compare_eq_iff]
  omega
theorem fx_eq {k : Nat} {m n : Int} {x y : UInt64} (hx : fx k m x) (hy : fx k n y) : FP.dcmp x y = some .eq ↔ m = n := by
  rw [fx_cmp hx hy, Option.some.injEq, FP.Core.compare_eq_iff]
theorem fx_lt {k : Nat} {m n : Int} {x y : UInt64} (hx : fx k m x) (hy : fx k n y) : FP.dcmp x y = some .lt ↔ m < n := by
  rw [fx_cmp hx hy, Option.some.injEq, FP.Core.compare_lt_iff]
theorem fx_gt {k : Nat} {m n : Int} {x y : UInt64} (hx : fx k m x) (hy : fx k n y) : FP.dcmp x y = some .gt ↔ n < m := by
  rw [fx_cmp hx hy, Option.some.injEq, FP.Core.compare_gt_iff]
theorem fx_nz {k : Nat} {n : Int} {x : UInt64} (hx : fx k n x) (hn : n ≠ 0) : ¬ FP.Core.DZero x := by
  rintro ⟨s, q, h⟩
  have h2 := hx.2
  rw [h] at h2
  have e : FP.Core.zval FP.Core.b64 (.fin s 0 q) = 0 := by
    unfold FP.Core.zval FP.Core.zmag FP.Core.inUnits
    cases s <;> simp [FP.Core.sgn, FP.Core.signed]
  rw [e, Int.zero_mul] at h2
  rcases Int.mul_eq_zero.mp h2.symm with h3 | h3
  · exact hn h3
  · exact absurd h3 (Int.ne_of_gt fx_one)
theorem fx_inj {k : Nat} {n : Int} {x y : UInt64} (hx : fx k n x) (hy : fx k n y) (hn : n ≠ 0) : x = y :=
  FP.Core.eq_bits (fx_nz hy hn) ((fx_eq hx hy).mpr rfl)
theorem fx_bnd {k : Nat} {n : Int} {x : UInt64} {b : Nat} (hx : fx k n x) (h : n.natAbs ≤ b * 2 ^ k) : (FP.Core.zval FP.Core.b64 (FP.Core.val64 x)).natAbs ≤ b * FP.Core.one64 := by
  have h2 := congrArg Int.natAbs hx.2
  rw [Int.natAbs_mul, Int.natAbs_mul, Int.natAbs_natCast, Int.natAbs_natCast] at h2
  have p := Nat.two_pow_pos k
  refine Nat.le_of_mul_le_mul_right ?_ p
  rw [h2]
  have := Nat.mul_le_mul_right FP.Core.one64 h
  calc n.natAbs * FP.Core.one64 ≤ b * 2 ^ k * FP.Core.one64 := this
    _ = b * FP.Core.one64 * 2 ^ k := Nat.mul_right_comm _ _ _
/-- a rounded ratio that is bounded by a short whole number -/
theorem fx_rr {s : Bool} {A B : Nat} {e : Int} {x : UInt64} (hv : FP.Core.val64 x = FP.Core.roundRatio FP.Core.b64 s A B e) (hB : 0 < B) {b Q : Nat} (hb : b < 2 ^ 53) (q1 : FP.Core.b64.qmin = -(Q : Int)) (q2 : FP.Core.one64 = 2 ^ Q) {e0 : Int} (h0 : e0 ≤ -(Q : Int)) (h0e : e0 ≤ e) (h : A * 2 ^ (e - e0).toNat ≤ b * 2 ^ Q * 2 ^ (-(Q : Int) - e0).toNat * B) :
    FP.Core.DFin x ∧ (FP.Core.zval FP.Core.b64 (FP.Core.val64 x)).natAbs ≤ b * FP.Core.one64 := by
  obtain ⟨v, hV⟩ : ∃ v, fx 0 (b : Int) v := by
    refine ⟨FP.l2d (Int64.ofInt (b : Int)), ?_⟩
    have e1 : (Int64.ofInt (b : Int)).toInt = (b : Int) := Int64.toInt_ofInt_of_le (by omega) (by omega)
    have := fx_l2d (v := Int64.ofInt (b : Int)) (by rw [e1]; omega)
    rw [e1] at this
    exact this
  have hVm : FP.Core.zmag FP.Core.b64 (FP.Core.val64 v) = b * FP.Core.one64 := by
    have h2 := congrArg Int.natAbs hV.2
    rw [Int.natAbs_mul, Int.natAbs_mul, Int.natAbs_natCast, Int.natAbs_natCast, Int.natAbs_natCast, Nat.pow_zero, Nat.mul_one] at h2
    unfold FP.Core.zval at h2
    rw [FP.Core.natAbs_signed] at h2
    exact h2
  have hm : FP.Core.zmag FP.Core.b64 (FP.Core.roundRatio FP.Core.b64 s A B e) ≤ FP.Core.zmag FP.Core.b64 (FP.Core.val64 v) := by
    refine FP.Core.zmag_roundRatio_le FP.Core.good_b64 hB (FP.Core.val64_fits v) hV.1.ne_nan (by rw [q1]; exact h0) h0e ?_
    rw [hVm, q1, q2]
    exact h
  have hf : FP.Core.DFin x := by
    rcases FP.Core.roundRatio_cases FP.Core.b64 s A B e with ⟨c, q, h9⟩ | h9
    · exact ⟨s, c, q, hv.trans h9⟩
    · rw [h9] at hm
      have := FP.Core.DFin.zval_lt hV.1
      have h8 : FP.Core.zmag FP.Core.b64 (.inf s) = FP.Core.b64.tails * 2 ^ (FP.Core.b64.exps - 2) := rfl
      rw [h8] at hm
      omega
  refine ⟨hf, ?_⟩
  unfold FP.Core.zval
  rw [FP.Core.natAbs_signed, hv, ← hVm]
  exact hm
theorem fx_qm {x : UInt64} {s : Bool} {c Q : Nat} {q : Int} (q1 : FP.Core.b64.qmin = -(Q : Int)) (ex : FP.Core.val64 x = .fin s c q) : -(Q : Int) ≤ q := by
  have := FP.Core.val64_fits x
  rw [ex] at this
  rw [← q1]
  exact this.2.1
/-- a quotient is bounded -/
theorem fx_qle {j k b : Nat} {m n : Int} {x y : UInt64} (hx : fx k m x) (hy : fx j n y) (hn : n ≠ 0) (hb : b < 2 ^ 53) (h : m.natAbs * 2 ^ j ≤ b * n.natAbs * 2 ^ k) : FP.Core.DFin (FP.ddiv x y) ∧ (FP.Core.zval FP.Core.b64 (FP.Core.val64 (FP.ddiv x y))).natAbs ≤ b * FP.Core.one64 := by
  obtain ⟨s, t, c, d, q, r, hv, hd, ex, ey, hs, ht⟩ := fx_quo hx hy hn
  obtain ⟨Q, q1, q2, q3, q4, q5⟩ := fx_Q
  have h1 := fx_zm q1 q2 ex hx.2
  have h2 := fx_zm q1 q2 ey hy.2
  have hqx := fx_qm q1 ex
  have hqy := fx_qm q1 ey
  refine fx_rr hv hd hb q1 q2 (e0 := -(2 * (Q : Int)) - r) (by omega) (by omega) ?_
  have e1 : (q - r - (-(2 * (Q : Int)) - r)).toNat = (q + Q).toNat + Q := by omega
  have e2 : (-(Q : Int) - (-(2 * (Q : Int)) - r)).toNat = (r + Q).toNat := by omega
  rw [e1, e2, Nat.pow_add]
  have h3 : c * 2 ^ (q + Q).toNat ≤ b * (d * 2 ^ (r + Q).toNat) := by
    refine Nat.le_of_mul_le_mul_right ?_ (Nat.mul_pos (Nat.two_pow_pos k) (Nat.two_pow_pos j))
    calc c * 2 ^ (q + Q).toNat * (2 ^ k * 2 ^ j) = (c * 2 ^ (q + Q).toNat * 2 ^ k) * 2 ^ j := by ac_rfl
      _ = (m.natAbs * 2 ^ j) * 2 ^ Q := by rw [h1]; ac_rfl
      _ ≤ (b * n.natAbs * 2 ^ k) * 2 ^ Q := Nat.mul_le_mul_right _ h
      _ = b * (n.natAbs * 2 ^ Q) * 2 ^ k := by ac_rfl
      _ = b * (d * 2 ^ (r + Q).toNat * 2 ^ j) * 2 ^ k := by rw [h2]
      _ = b * (d * 2 ^ (r + Q).toNat) * (2 ^ k * 2 ^ j) := by ac_rfl
  calc c * (2 ^ (q + Q).toNat * 2 ^ Q) = c * 2 ^ (q + Q).toNat * 2 ^ Q := by ac_rfl
    _ ≤ b * (d * 2 ^ (r + Q).toNat) * 2 ^ Q := Nat.mul_le_mul_right _ h3
    _ = b * 2 ^ Q * 2 ^ (r + Q).toNat * d := by ac_rfl
/-- a product is bounded -/
theorem fx_mle {a b : Nat} {x y : UInt64} (hx : FP.Core.DFin x) (hy : FP.Core.DFin y) (ha : (FP.Core.zval FP.Core.b64 (FP.Core.val64 x)).natAbs ≤ a * FP.Core.one64) (hb : (FP.Core.zval FP.Core.b64 (FP.Core.val64 y)).natAbs ≤ b * FP.Core.one64) (h : a * b < 2 ^ 53) : FP.Core.DFin (FP.dmul x y) ∧ (FP.Core.zval FP.Core.b64 (FP.Core.val64 (FP.dmul x y))).natAbs ≤ a * b * FP.Core.one64 := by
  obtain ⟨s, c, q, ex⟩ := hx
  obtain ⟨t, d, r, ey⟩ := hy
  obtain ⟨Q, q1, q2, q3, q4, q5⟩ := fx_Q
  have hqx := fx_qm q1 ex
  have hqy := fx_qm q1 ey
  rw [ex] at ha
  rw [ey] at hb
  unfold FP.Core.zval at ha hb
  rw [FP.Core.natAbs_signed] at ha hb
  have ha : c * 2 ^ (q - FP.Core.b64.qmin).toNat ≤ a * FP.Core.one64 := ha
  have hb : d * 2 ^ (r - FP.Core.b64.qmin).toNat ≤ b * FP.Core.one64 := hb
  rw [q1, q2] at ha hb
  have hv : FP.Core.val64 (FP.dmul x y) = FP.Core.roundRatio FP.Core.b64 (s != t) (c * d) 1 (q + r) := by
    show FP.Core.val64 (FP.Core.dmul x y) = _
    rw [FP.Core.val64_dmul, ex, ey]
    rfl
  refine fx_rr hv (by decide) h q1 q2 (e0 := -(2 * (Q : Int))) (by omega) (by omega) ?_
  have e1 : (q + r - (-(2 * (Q : Int)))).toNat = (q - (-(Q : Int))).toNat + (r - (-(Q : Int))).toNat := by omega
  have e2 : (-(Q : Int) - (-(2 * (Q : Int)))).toNat = Q := by omega
  rw [e1, e2, Nat.pow_add, Nat.mul_one]
  calc c * d * (2 ^ (q - (-(Q : Int))).toNat * 2 ^ (r - (-(Q : Int))).toNat) = (c * 2 ^ (q - (-(Q : Int))).toNat) * (d * 2 ^ (r - (-(Q : Int))).toNat) := by ac_rfl
    _ ≤ (a * 2 ^ Q) * (b * 2 ^ Q) := Nat.mul_le_mul ha hb
    _ = a * b * 2 ^ Q * 2 ^ Q := by ac_rfl
/-- the floor of what is bounded -/
theorem fx_flb {z : UInt64} {b : Nat} (hz : FP.Core.DFin z) (h : (FP.Core.zval FP.Core.b64 (FP.Core.val64 z)).natAbs ≤ b * FP.Core.one64) (hb : b < 2 ^ 52) : ∃ N : Int, N.natAbs ≤ b ∧ fx 0 N (fx_fl z) := by
  have hP := fx_one
  have hPn := FP.Core.one64_pos
  refine ⟨_, ?_, fx_fl_spec hz (Nat.lt_of_le_of_lt h ((Nat.mul_lt_mul_right hPn).mpr hb))⟩
  generalize FP.Core.zval FP.Core.b64 (FP.Core.val64 z) = Z at h ⊢
  generalize FP.Core.one64 = P at *
  have h1 : Z ≤ (b : Int) * (P : Int) := by
    have : (Z.natAbs : Int) ≤ ((b * P : Nat) : Int) := by exact_mod_cast h
    rw [Int.natCast_mul] at this
    omega
  have h2 : -(b : Int) * (P : Int) ≤ Z := by
    have : (Z.natAbs : Int) ≤ ((b * P : Nat) : Int) := by exact_mod_cast h
    rw [Int.natCast_mul] at this
    rw [Int.neg_mul]
    omega
  have h3 : Z / (P : Int) ≤ b := by
    have := Int.ediv_le_ediv hP h1
    rwa [Int.mul_ediv_cancel _ (Int.ne_of_gt hP)] at this
  have h4 : -(b : Int) ≤ Z / (P : Int) := (Int.le_ediv_iff_mul_le hP).mpr h2
  omega
theorem fx_c64 : fx 0 64 fx_64 := by
  have h := fx_i2d 64
  have e : FP.i2d 64 = fx_64 := by decide +kernel
  rw [e] at h
  exact h
theorem fx_rdb {y : UInt64} {b : Nat} (hy : FP.Core.DFin y) (h : (FP.Core.zval FP.Core.b64 (FP.Core.val64 y)).natAbs ≤ b * FP.Core.one64) (hb : b * 64 < 2 ^ 52) : ∃ N : Int, N.natAbs ≤ b * 64 ∧ fx 6 N (fx_rd y) := by
  obtain ⟨h1, h2⟩ := fx_mle hy fx_c64.1 h (fx_bnd (b := 64) fx_c64 (by decide)) (by omega)
  obtain ⟨N, h3, h4⟩ := fx_flb h1 h2 hb
  refine ⟨N, h3, ?_⟩
  unfold fx_rd
  exact fx_div (by decide) h4 fx_c64 (by decide) (by rw [Nat.pow_zero]; rw [show (2 : Nat) ^ (0 + 6) = 64 from rfl]; omega) (by omega)
theorem fx_notnan {x : UInt64} (h : FP.Core.dIsNaN x = false) : vf_n64 x := fx_nnan ((FP.Core.notNaN_iff x).mp h)
theorem fx_flfin (z : UInt64) : FP.Core.dIsNaN (fx_fl z) = false := by
  unfold fx_fl
  split
  · exact FP.Core.dsub_out (FP.Core.DFin.notNaN (FP.Core.l2d_fin _)) fx_c1.1
  · exact FP.Core.DFin.notNaN (FP.Core.l2d_fin _)
/-- the floor as the model works it out -/
def fx_mfl (z : UInt64) : UInt64 := if FP.dcmp (FP.l2d (FP.d2l z)) z = some .gt then FP.l2d (FP.d2l z - 1) else FP.l2d (FP.d2l z)
theorem fx_mfl_eq {z : UInt64} {b : Nat} (hz : FP.Core.DFin z) (h : (FP.Core.zval FP.Core.b64 (FP.Core.val64 z)).natAbs ≤ b * FP.Core.one64) (hb : b < 2 ^ 52) : fx_mfl z = fx_fl z := by
  have hPn := FP.Core.one64_pos
  have habs : (FP.d2l z).toInt.natAbs ≤ b := by
    have hcv : (FP.d2l z).toInt = max (-2 ^ 63) (min (2 ^ 63 - 1) (FP.Core.signed (FP.Core.sgn (FP.Core.val64 z)) (FP.Core.zmag FP.Core.b64 (FP.Core.val64 z) / FP.Core.one64))) := FP.Core.d2l_val hz.ne_nan
    unfold FP.Core.zval at h
    rw [FP.Core.natAbs_signed] at h
    have hq : FP.Core.zmag FP.Core.b64 (FP.Core.val64 z) / FP.Core.one64 ≤ b := Nat.div_le_of_le_mul (by rw [Nat.mul_comm]; exact h)
    generalize FP.Core.zmag FP.Core.b64 (FP.Core.val64 z) / FP.Core.one64 = A at hq hcv
    rw [hcv]
    cases FP.Core.sgn (FP.Core.val64 z)
    · rw [show FP.Core.signed false A = (A : Int) from rfl]; omega
    · rw [show FP.Core.signed true A = -(A : Int) from rfl]; omega
  unfold fx_mfl fx_fl
  split
  · generalize FP.d2l z = w at habs
    have e1 : (w - 1).toInt = w.toInt - 1 := by
      rw [Int64.toInt_sub]
      have h1 : (1 : Int64).toInt = 1 := by decide
      rw [h1]
      exact Int.bmod_eq_of_le (by omega) (by omega)
    by_cases h1 : w = 1
    · subst h1
      decide +kernel
    · have h2 : w.toInt ≠ 1 := fun h2 => h1 (Int64.toInt.inj (by rw [h2]; rfl))
      have g1 := fx_l2d (v := w - 1) (by rw [e1]; omega)
      rw [e1] at g1
      exact fx_inj g1 (fx_sub (by decide) (fx_l2d (v := w) (by omega)) fx_c1 (by omega)) (by omega)
  · rfl
/-- a power of two multiplies as its opposite divides -/
theorem fx_shr {c : UInt64} (hc : FP.Core.DFin c) {k : Int32} (hk : k = -2 ∨ k = -1 ∨ k = 0 ∨ k = 1 ∨ k = 2) : FP.dmul c (pw2 (-k)) = FP.ddiv c (pw2 k) := by
  obtain ⟨s, cc, q, ex⟩ := hc
  have key : ∀ (x y : UInt64) (r : Int), FP.Core.val64 x = .fin false (2 ^ 52) (-r - 52) → FP.Core.val64 y = .fin false (2 ^ 52) (r - 52) → FP.Core.dmul c x = FP.Core.ddiv c y := by
    intro x y r hx hy
    have h1 : FP.Core.val64 (FP.Core.dmul c x) = FP.Core.roundRatio FP.Core.b64 (s != false) (cc * 2 ^ 52) 1 (q + (-r - 52)) := by
      rw [FP.Core.val64_dmul, ex, hx]
      rfl
    have h2 : FP.Core.val64 (FP.Core.ddiv c y) = FP.Core.roundRatio FP.Core.b64 (s != false) cc (2 ^ 52) (q - (r - 52)) := by
      rw [FP.Core.val64_ddiv, ex, hy]
      generalize hD : (2 ^ 52 : Nat) = D
      have hD0 : ¬ D = 0 := by rw [← hD]; decide
      show (if D = 0 then (if cc = 0 then FP.Core.Datum.nan else .inf (s != false)) else FP.Core.roundRatio FP.Core.b64 (s != false) cc D (q - (r - 52))) = _
      rw [if_neg hD0]
    refine FP.Core.val64_inj (by rw [h1]; exact FP.Core.roundRatio_ne_nan _ _ _ _ _) ?_
    rw [h1, h2]
    refine FP.Core.roundRatio_congr (by decide) (by decide) ?_
    have e1 : (q + (-r - 52) - (q - (r - 52))).toNat = 0 := by omega
    have e2 : (q - (r - 52) - (q + (-r - 52))).toNat = 104 := by omega
    rw [e1, e2, Nat.pow_zero, Nat.mul_one, Nat.mul_one, Nat.mul_assoc, ← Nat.pow_add]
  show FP.Core.dmul c _ = FP.Core.ddiv c _
  rcases hk with rfl | rfl | rfl | rfl | rfl
  · exact key _ _ (-2) (by decide +kernel) (by decide +kernel)
  · exact key _ _ (-1) (by decide +kernel) (by decide +kernel)
  · exact key _ _ 0 (by decide +kernel) (by decide +kernel)
  · exact key _ _ 1 (by decide +kernel) (by decide +kernel)
  · exact key _ _ 2 (by decide +kernel) (by decide +kernel)

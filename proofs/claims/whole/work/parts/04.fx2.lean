theorem fx_ediv {a q P : Int} (hP : 0 < P) (h1 : q * P ≤ a) (h2 : a < (q + 1) * P) : a / P = q := by
  have h3 : q ≤ a / P := (Int.le_ediv_iff_mul_le hP).mpr h1
  have h4 : a / P < q + 1 := (Int.ediv_lt_iff_lt_mul hP).mpr h2
  omega
/-- the whole number at or below a double, as the class works it out: cut, and less one where the cut is above -/
def fx_fl (z : UInt64) : UInt64 := if FP.dcmp (FP.l2d (FP.d2l z)) z = some .gt then FP.dsub (FP.l2d (FP.d2l z)) FP.dconst1 else FP.l2d (FP.d2l z)
theorem fx_c1 : fx 0 1 FP.dconst1 := by
  have h := fx_i2d 1
  have e : FP.i2d 1 = FP.dconst1 := by decide +kernel
  rw [e] at h
  exact h
theorem fx_fl_spec {z : UInt64} (h : FP.Core.DFin z) (hb : (FP.Core.zval FP.Core.b64 (FP.Core.val64 z)).natAbs < 2 ^ 52 * FP.Core.one64) : fx 0 (FP.Core.zval FP.Core.b64 (FP.Core.val64 z) / (FP.Core.one64 : Int)) (fx_fl z) := by
  have hP := fx_one
  have hPn := FP.Core.one64_pos
  have hz : FP.Core.zval FP.Core.b64 (FP.Core.val64 z) = FP.Core.signed (FP.Core.sgn (FP.Core.val64 z)) (FP.Core.zmag FP.Core.b64 (FP.Core.val64 z)) := rfl
  have hcv : (FP.d2l z).toInt = max (-2 ^ 63) (min (2 ^ 63 - 1) (FP.Core.signed (FP.Core.sgn (FP.Core.val64 z)) (FP.Core.zmag FP.Core.b64 (FP.Core.val64 z) / FP.Core.one64))) := FP.Core.d2l_val h.ne_nan
  have hcmp : ∀ t : UInt64, FP.Core.DFin t → FP.dcmp t z = some (compare (FP.Core.zval FP.Core.b64 (FP.Core.val64 t)) (FP.Core.zval FP.Core.b64 (FP.Core.val64 z))) := fun t ht => FP.Core.dcmp_zval ht.ne_nan h.ne_nan
  rw [hz] at hb hcmp ⊢
  rw [FP.Core.natAbs_signed] at hb
  generalize FP.Core.zmag FP.Core.b64 (FP.Core.val64 z) = M at hb hcmp hcv ⊢
  generalize FP.Core.sgn (FP.Core.val64 z) = sg at hcmp hcv ⊢
  have hq : M / FP.Core.one64 < 2 ^ 52 := (Nat.div_lt_iff_lt_mul hPn).mpr hb
  have hd1 := Nat.div_add_mod M FP.Core.one64
  have hd2 := Nat.mod_lt M hPn
  have hT : (FP.d2l z).toInt = FP.Core.signed sg (M / FP.Core.one64) := by
    rw [hcv]
    generalize M / FP.Core.one64 = A at hq
    cases sg
    · have e2 : FP.Core.signed false A = (A : Int) := rfl
      rw [e2]
      omega
    · have e2 : FP.Core.signed true A = -(A : Int) := rfl
      rw [e2]
      omega
  have habs : (FP.d2l z).toInt.natAbs < 2 ^ 53 := by
    rw [hT, FP.Core.natAbs_signed]
    omega
  have ht := fx_l2d habs
  have htv : FP.Core.zval FP.Core.b64 (FP.Core.val64 (FP.l2d (FP.d2l z))) = (FP.d2l z).toInt * (FP.Core.one64 : Int) := by
    have h9 := ht.2
    rw [Nat.pow_zero] at h9
    rw [← h9]
    exact (Int.mul_one _).symm
  have hc := hcmp _ ht.1
  rw [htv, hT] at hc
  rw [hT] at ht
  have e1 : ((M / FP.Core.one64 : Nat) : Int) * (FP.Core.one64 : Int) + ((M % FP.Core.one64 : Nat) : Int) = (M : Int) := by
    have h8 : (M / FP.Core.one64) * FP.Core.one64 + M % FP.Core.one64 = M := by rw [Nat.mul_comm]; exact hd1
    exact_mod_cast h8
  generalize FP.Core.one64 = P at *
  generalize M / P = A at *
  generalize M % P = B at *
  unfold fx_fl
  rw [hc]
  cases sg with
  | false =>
    have e2 : FP.Core.signed false A = (A : Int) := rfl
    have e3 : FP.Core.signed false M = (M : Int) := rfl
    rw [e2] at ht
    rw [e2, e3, if_neg (by rw [Option.some.injEq, FP.Core.compare_gt_iff]; omega)]
    rw [fx_ediv (q := (A : Int)) hP (by omega) (by rw [Int.add_mul]; omega)]
    exact ht
  | true =>
    have e2 : FP.Core.signed true A = -(A : Int) := rfl
    have e3 : FP.Core.signed true M = -(M : Int) := rfl
    rw [e2] at ht
    rw [e2, e3, Int.neg_mul]
    by_cases hB : B = 0
    · rw [if_neg (by rw [Option.some.injEq, FP.Core.compare_gt_iff]; omega)]
      rw [fx_ediv (q := -(A : Int)) hP (by rw [Int.neg_mul]; omega) (by rw [Int.add_mul, Int.neg_mul]; omega)]
      exact ht
    · rw [if_pos (by rw [Option.some.injEq, FP.Core.compare_gt_iff]; omega)]
      rw [fx_ediv (q := -(A : Int) - 1) hP (by rw [Int.sub_mul, Int.neg_mul]; omega) (by rw [Int.add_mul, Int.sub_mul, Int.neg_mul]; omega)]
      exact fx_sub (by omega) ht fx_c1 (by omega)
theorem fx_zm {k : Nat} {n : Int} {x : UInt64} {s : Bool} {c : Nat} {q : Int} {Q : Nat} (q1 : FP.Core.b64.qmin = -(Q : Int)) (q2 : FP.Core.one64 = 2 ^ Q) (ex : FP.Core.val64 x = .fin s c q) (vx : FP.Core.zval FP.Core.b64 (FP.Core.val64 x) * ((2 ^ k : Nat) : Int) = n * (FP.Core.one64 : Int)) : c * 2 ^ (q + Q).toNat * 2 ^ k = n.natAbs * 2 ^ Q := by
  rw [ex] at vx
  have h := congrArg Int.natAbs vx
  unfold FP.Core.zval at h
  rw [Int.natAbs_mul, Int.natAbs_mul, FP.Core.natAbs_signed, Int.natAbs_natCast, Int.natAbs_natCast] at h
  have e : FP.Core.zmag FP.Core.b64 (.fin s c q) = c * 2 ^ (q - FP.Core.b64.qmin).toNat := rfl
  rw [e, q1, q2, Int.sub_neg] at h
  exact h
theorem fx_quo {j k : Nat} {m n : Int} {x y : UInt64} (hx : fx k m x) (hy : fx j n y) (hn : n ≠ 0) : ∃ (s t : Bool) (c d : Nat) (q r : Int), FP.Core.val64 (FP.ddiv x y) = FP.Core.roundRatio FP.Core.b64 (s != t) c d (q - r) ∧ 0 < d ∧ FP.Core.val64 x = .fin s c q ∧ FP.Core.val64 y = .fin t d r ∧ FP.Core.signed s m.natAbs = m ∧ FP.Core.signed t n.natAbs = n := by
  obtain ⟨⟨s, c, q, ex⟩, vx⟩ := hx
  obtain ⟨⟨t, d, r, ey⟩, vy⟩ := hy
  obtain ⟨Q, q1, q2, q3, q4, q5⟩ := fx_Q
  have h2 := fx_zm q1 q2 ey vy
  have hd : d ≠ 0 := by
    intro h
    rw [h, Nat.zero_mul, Nat.zero_mul] at h2
    have h3 : n.natAbs = 0 := by
      rcases Nat.mul_eq_zero.mp h2.symm with h4 | h4
      · exact h4
      · exact absurd h4 (Nat.ne_of_gt (Nat.two_pow_pos Q))
    omega
  refine ⟨s, t, c, d, q, r, ?_, Nat.pos_of_ne_zero hd, ex, ey, ?_, ?_⟩
  · show FP.Core.val64 (FP.Core.ddiv x y) = _
    rw [FP.Core.val64_ddiv, ex, ey]
    show (if d = 0 then _ else _) = _
    rw [if_neg hd]
  · rw [ex] at vx
    exact fx_sgn (X := FP.Core.zmag FP.Core.b64 (.fin s c q)) (fx_pw k) fx_one vx
  · rw [ey] at vy
    exact fx_sgn (X := FP.Core.zmag FP.Core.b64 (.fin t d r)) (fx_pw j) fx_one vy
/-- a quotient that is a short multiple of a power of two is exact -/
theorem fx_div {j k u : Nat} {m n N : Int} {x y : UInt64} (hu : u ≤ 100) (hx : fx k m x) (hy : fx j n y) (hn : n ≠ 0) (h : m * ((2 ^ (j + u) : Nat) : Int) = N * n * ((2 ^ k : Nat) : Int)) (hb : N.natAbs < 2 ^ 53) : fx u N (FP.ddiv x y) := by
  obtain ⟨s, t, c, d, q, r, hv, hd, ex, ey, hs, ht⟩ := fx_quo hx hy hn
  obtain ⟨Q, q1, q2, q3, q4, q5⟩ := fx_Q
  have h1 := fx_zm q1 q2 ex hx.2
  have h2 := fx_zm q1 q2 ey hy.2
  have hqx : -(Q : Int) ≤ q := by
    have := FP.Core.val64_fits x
    rw [ex] at this
    rw [← q1]
    exact this.2.1
  have hqy : -(Q : Int) ≤ r := by
    have := FP.Core.val64_fits y
    rw [ey] at this
    rw [← q1]
    exact this.2.1
  have h3 : m.natAbs * 2 ^ (j + u) = N.natAbs * n.natAbs * 2 ^ k := by
    have := congrArg Int.natAbs h
    rwa [Int.natAbs_mul, Int.natAbs_mul, Int.natAbs_mul, Int.natAbs_natCast, Int.natAbs_natCast] at this
  -- c 2^a 2^u = N d 2^b, with a - b = q - r
  have h4 : c * 2 ^ (q + Q).toNat * 2 ^ u = N.natAbs * d * 2 ^ (r + Q).toNat := by
    have p := Nat.mul_pos (Nat.mul_pos (Nat.two_pow_pos k) (Nat.two_pow_pos j)) (Nat.two_pow_pos Q)
    refine Nat.eq_of_mul_eq_mul_right p ?_
    have e1 : c * 2 ^ (q + Q).toNat * 2 ^ u * (2 ^ k * 2 ^ j * 2 ^ Q) = (c * 2 ^ (q + Q).toNat * 2 ^ k) * (2 ^ (j + u) * 2 ^ Q) := by
      rw [Nat.pow_add]; ac_rfl
    have e2 : N.natAbs * d * 2 ^ (r + Q).toNat * (2 ^ k * 2 ^ j * 2 ^ Q) = (d * 2 ^ (r + Q).toNat * 2 ^ j) * (N.natAbs * 2 ^ k * 2 ^ Q) := by ac_rfl
    rw [e1, e2, h1, h2]
    have e3 : m.natAbs * 2 ^ Q * (2 ^ (j + u) * 2 ^ Q) = (m.natAbs * 2 ^ (j + u)) * (2 ^ Q * 2 ^ Q) := by ac_rfl
    have e4 : n.natAbs * 2 ^ Q * (N.natAbs * 2 ^ k * 2 ^ Q) = (N.natAbs * n.natAbs * 2 ^ k) * (2 ^ Q * 2 ^ Q) := by ac_rfl
    rw [e3, e4, h3]
  have h5 : c * 1 * 2 ^ (q - r - (-(u : Int))).toNat = N.natAbs * d * 2 ^ ((-(u : Int)) - (q - r)).toNat := by
    rw [Nat.mul_one]
    by_cases hc : 0 ≤ q - r + u
    · have e1 : (q + Q).toNat + u = (q - r - (-(u : Int))).toNat + (r + Q).toNat := by omega
      have e2 : ((-(u : Int)) - (q - r)).toNat = 0 := by omega
      rw [Nat.mul_assoc, ← Nat.pow_add, e1, Nat.pow_add, ← Nat.mul_assoc] at h4
      rw [e2, Nat.pow_zero, Nat.mul_one]
      exact Nat.eq_of_mul_eq_mul_right (Nat.two_pow_pos _) h4
    · have e1 : (r + Q).toNat = ((-(u : Int)) - (q - r)).toNat + ((q + Q).toNat + u) := by omega
      have e2 : (q - r - (-(u : Int))).toNat = 0 := by omega
      have l1 : c * 2 ^ (q + Q).toNat * 2 ^ u = c * 2 ^ ((q + Q).toNat + u) := by rw [Nat.mul_assoc, ← Nat.pow_add]
      have l2 : N.natAbs * d * 2 ^ (r + Q).toNat = N.natAbs * d * 2 ^ ((-(u : Int)) - (q - r)).toNat * 2 ^ ((q + Q).toNat + u) := by rw [Nat.mul_assoc (N.natAbs * d), ← Nat.pow_add, ← e1]
      rw [e2, Nat.pow_zero, Nat.mul_one]
      exact Nat.eq_of_mul_eq_mul_right (Nat.two_pow_pos _) (l1.symm.trans (h4.trans l2))
  have h6 : FP.Core.roundRatio FP.Core.b64 (s != t) c d (q - r) = FP.Core.round FP.Core.b64 (.fin (s != t) N.natAbs (-(u : Int))) :=
    FP.Core.roundRatio_congr hd (by decide) h5
  have hsg : FP.Core.signed (s != t) N.natAbs = N := by
    have e1 : FP.Core.signed (s != t) (N.natAbs * (n.natAbs * n.natAbs * 2 ^ k)) = N * ((n.natAbs * n.natAbs * 2 ^ k : Nat) : Int) := by
      have e2 : N.natAbs * (n.natAbs * n.natAbs * 2 ^ k) = (m.natAbs * 2 ^ (j + u)) * n.natAbs := by
        rw [h3]; ac_rfl
      rw [e2, FP.Core.signed_xor, FP.Core.signed_mul, hs, ht, h, Int.natCast_mul, Int.natCast_mul]
      have e3 : ((n.natAbs : Int) * (n.natAbs : Int)) = n * n := by
        rw [← Int.natCast_mul, Int.natAbs_mul_self]
      rw [e3]
      ac_rfl
    rw [FP.Core.signed_mul] at e1
    refine Int.eq_of_mul_eq_mul_right ?_ e1
    have p1 : 0 < n.natAbs := by omega
    have p2 := Nat.mul_pos (Nat.mul_pos p1 p1) (Nat.two_pow_pos k)
    omega
  obtain ⟨c', q', r1, r2⟩ := FP.Core.round_exact FP.Core.good_b64 (s != t) (c := N.natAbs) (q := -(u : Int)) hb (by rw [q1]; omega) (by omega)
  refine fx_of (sg := (s != t)) (c' := c') (q' := q') (by rw [hv, h6, r1]) ?_
  have e1 : (-(u : Int) - -(Q : Int)).toNat + u = Q := by omega
  rw [r2, q1]
  unfold FP.Core.inUnits
  rw [FP.Core.signed_mul, hsg, Int.mul_assoc, ← Int.natCast_mul, ← Nat.pow_add, e1, q2]

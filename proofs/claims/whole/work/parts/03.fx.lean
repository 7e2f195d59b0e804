/-! Doubles that are whole multiples of a small power of two: 'fx k n x' says that x is finite and that its value is n / 2^k. -/
def fx (k : Nat) (n : Int) (x : UInt64) : Prop := FP.Core.DFin x ∧ FP.Core.zval FP.Core.b64 (FP.Core.val64 x) * ((2 ^ k : Nat) : Int) = n * (FP.Core.one64 : Int)
theorem fx_Q : ∃ Q : Nat, FP.Core.b64.qmin = -(Q : Int) ∧ FP.Core.one64 = 2 ^ Q ∧ 1000 ≤ Q ∧ (-(100 : Int)) ≤ FP.Core.b64.qmax ∧ 0 ≤ FP.Core.b64.qmax := by
  refine ⟨1074, by decide +kernel, by unfold FP.Core.one64; rfl, by decide, by decide +kernel, by decide +kernel⟩
theorem fx_one : (0 : Int) < (FP.Core.one64 : Int) := by
  have := FP.Core.one64_pos
  omega
theorem fx_pw (k : Nat) : (0 : Int) < ((2 ^ k : Nat) : Int) := by
  have := Nat.two_pow_pos k
  omega
theorem fx_congr {c N k u : Nat} {e : Int} (he : -(u : Int) ≤ e) (hk : k ≤ u) (h : c * 2 ^ (e - (-(u : Int))).toNat * 2 ^ k = N * 2 ^ u) : c * 1 * 2 ^ (e - (-(k : Int))).toNat = N * 1 * 2 ^ ((-(k : Int)) - e).toNat := by
  rw [Nat.mul_one, Nat.mul_one]
  by_cases hc : 0 ≤ e + k
  · have e1 : (e - (-(u : Int))).toNat + k = (e - (-(k : Int))).toNat + u := by omega
    have e2 : ((-(k : Int)) - e).toNat = 0 := by omega
    rw [Nat.mul_assoc, ← Nat.pow_add, e1, Nat.pow_add, ← Nat.mul_assoc] at h
    have h3 := Nat.eq_of_mul_eq_mul_right (Nat.two_pow_pos u) h
    rw [e2, Nat.pow_zero, Nat.mul_one]
    exact h3
  · have e1 : u = ((-(k : Int)) - e).toNat + ((e - (-(u : Int))).toNat + k) := by omega
    have e2 : (e - (-(k : Int))).toNat = 0 := by omega
    rw [Nat.mul_assoc, ← Nat.pow_add] at h
    have h2 : N * 2 ^ u = N * 2 ^ (((-(k : Int)) - e).toNat) * 2 ^ ((e - (-(u : Int))).toNat + k) := by
      rw [Nat.mul_assoc, ← Nat.pow_add, ← e1]
    rw [h2] at h
    have h3 := Nat.eq_of_mul_eq_mul_right (Nat.two_pow_pos _) h
    rw [e2, Nat.pow_zero, Nat.mul_one]
    exact h3
theorem fx_sgn {sg : Bool} {X : Nat} {N a b : Int} (ha : 0 < a) (hb : 0 < b) (h : FP.Core.signed sg X * a = N * b) : FP.Core.signed sg N.natAbs = N := by
  cases sg with
  | false =>
    have h1 : (0 : Int) ≤ FP.Core.signed false X := by unfold FP.Core.signed; simp
    have h2 : 0 ≤ N * b := by rw [← h]; exact Int.mul_nonneg h1 (Int.le_of_lt ha)
    have h3 : 0 ≤ N := by
      rcases Int.lt_or_le N 0 with q | q
      · have := Int.mul_neg_of_neg_of_pos q hb
        omega
      · exact q
    unfold FP.Core.signed
    simp
    omega
  | true =>
    have h1 : FP.Core.signed true X ≤ 0 := by unfold FP.Core.signed; simp
    have h2 : N * b ≤ 0 := by rw [← h]; exact Int.mul_nonpos_of_nonpos_of_nonneg h1 (Int.le_of_lt ha)
    have h3 : N ≤ 0 := by
      rcases Int.lt_or_le 0 N with q | q
      · have := Int.mul_pos q hb
        omega
      · exact q
    unfold FP.Core.signed
    simp
    omega
/-- an exact value of at most 53 digits rounds to itself -/
theorem fx_rnd {sg : Bool} {c k u : Nat} {e N : Int} (hk : k ≤ 100) (hu : k ≤ u) (he : -(u : Int) ≤ e) (h : FP.Core.signed sg (FP.Core.inUnits c e (-(u : Int))) * ((2 ^ k : Nat) : Int) = N * ((2 ^ u : Nat) : Int)) (hN : N.natAbs < 2 ^ 53) :
    ∃ (c' : Nat) (q' : Int), FP.Core.round FP.Core.b64 (.fin sg c e) = .fin sg c' q' ∧ FP.Core.signed sg (FP.Core.inUnits c' q' FP.Core.b64.qmin) * ((2 ^ k : Nat) : Int) = N * (FP.Core.one64 : Int) := by
  obtain ⟨Q, q1, q2, q3, q4, q5⟩ := fx_Q
  have h1 : FP.Core.inUnits c e (-(u : Int)) * 2 ^ k = N.natAbs * 2 ^ u := by
    have := congrArg Int.natAbs h
    rwa [Int.natAbs_mul, Int.natAbs_mul, FP.Core.natAbs_signed, Int.natAbs_natCast, Int.natAbs_natCast] at this
  have hsg := fx_sgn (fx_pw k) (fx_pw u) h
  have h3 : FP.Core.round FP.Core.b64 (.fin sg c e) = FP.Core.round FP.Core.b64 (.fin sg N.natAbs (-(k : Int))) :=
    FP.Core.roundRatio_congr (by decide) (by decide) (fx_congr he hu h1)
  obtain ⟨c', q', r1, r2⟩ := FP.Core.round_exact FP.Core.good_b64 sg (c := N.natAbs) (q := -(k : Int)) hN (by rw [q1]; omega) (by omega)
  refine ⟨c', q', h3.trans r1, ?_⟩
  have e1 : (-(k : Int) - -(Q : Int)).toNat + k = Q := by omega
  rw [r2, q1]
  unfold FP.Core.inUnits
  rw [FP.Core.signed_mul, hsg, Int.mul_assoc, ← Int.natCast_mul, ← Nat.pow_add, e1, q2]
theorem fx_of {x : UInt64} {sg : Bool} {c' k : Nat} {q' N : Int} (hv : FP.Core.val64 x = .fin sg c' q') (h : FP.Core.signed sg (FP.Core.inUnits c' q' FP.Core.b64.qmin) * ((2 ^ k : Nat) : Int) = N * (FP.Core.one64 : Int)) : fx k N x := by
  refine ⟨⟨sg, c', q', hv⟩, ?_⟩
  rw [hv]
  exact h
theorem fx_add {k : Nat} {m n : Int} {x y : UInt64} (hk : k ≤ 100) (hx : fx k m x) (hy : fx k n y) (hb : (m + n).natAbs < 2 ^ 53) : fx k (m + n) (FP.dadd x y) := by
  obtain ⟨⟨s, c, q, ex⟩, vx⟩ := hx
  obtain ⟨⟨t, d, r, ey⟩, vy⟩ := hy
  have hfx := FP.Core.val64_fits x
  have hfy := FP.Core.val64_fits y
  rw [ex] at vx hfx
  rw [ey] at vy hfy
  obtain ⟨sg, n', e, e1, e2, e3⟩ := FP.Core.sum_units hfx hfy
  obtain ⟨Q, q1, q2, q3, q4, q5⟩ := fx_Q
  have hS : FP.Core.signed sg (FP.Core.inUnits n' e (-(Q : Int))) * ((2 ^ k : Nat) : Int) = (m + n) * ((2 ^ Q : Nat) : Int) := by
    rw [← q1, e3, Int.add_mul, vx, vy, ← Int.add_mul, q2]
  obtain ⟨c', q', r1, r2⟩ := fx_rnd hk (by omega) (by rw [← q1]; exact e2) hS hb
  refine fx_of (sg := sg) (c' := c') (q' := q') ?_ r2
  show FP.Core.val64 (FP.Core.dadd x y) = _
  rw [FP.Core.val64_dadd, ex, ey, e1, r1]
theorem fx_neg {k : Nat} {n : Int} {x : UInt64} (hx : fx k n x) : fx k (-n) (FP.dneg x) := by
  obtain ⟨⟨s, c, q, ex⟩, vx⟩ := hx
  refine ⟨⟨!s, c, q, ?_⟩, ?_⟩
  · rw [FP.val64_dneg, ex]
    rfl
  · rw [FP.val64_dneg, FP.Core.zval_negate, Int.neg_mul, vx, Int.neg_mul]
theorem fx_sub {k : Nat} {m n : Int} {x y : UInt64} (hk : k ≤ 100) (hx : fx k m x) (hy : fx k n y) (hb : (m - n).natAbs < 2 ^ 53) : fx k (m - n) (FP.dsub x y) := by
  have h := fx_add hk hx (fx_neg hy) (by rw [← Int.sub_eq_add_neg]; exact hb)
  rw [← Int.sub_eq_add_neg] at h
  have hv : FP.Core.val64 (FP.dadd x (FP.dneg y)) = FP.Core.val64 (FP.dsub x y) := by
    show FP.Core.val64 (FP.Core.dadd x (FP.dneg y)) = FP.Core.val64 (FP.Core.dsub x y)
    rw [FP.Core.val64_dadd, FP.Core.val64_dsub, FP.val64_dneg]
  obtain ⟨⟨sg, c', q', r1⟩, r2⟩ := h
  rw [hv] at r1 r2
  exact ⟨⟨sg, c', q', r1⟩, r2⟩
theorem fx_mul {j k : Nat} {m n : Int} {x y : UInt64} (hk : j + k ≤ 100) (hx : fx j m x) (hy : fx k n y) (hb : (m * n).natAbs < 2 ^ 53) : fx (j + k) (m * n) (FP.dmul x y) := by
  obtain ⟨⟨s, c, q, ex⟩, vx⟩ := hx
  obtain ⟨⟨t, d, r, ey⟩, vy⟩ := hy
  have hfx := FP.Core.val64_fits x
  have hfy := FP.Core.val64_fits y
  rw [ex] at vx hfx
  rw [ey] at vy hfy
  obtain ⟨e1, e2, e3⟩ := FP.Core.product_units hfx hfy
  obtain ⟨Q, q1, q2, q3, q4, q5⟩ := fx_Q
  have e0 : (2 : Int) * FP.Core.b64.qmin = -((Q + Q : Nat) : Int) := by rw [q1]; omega
  rw [e0] at e2 e3
  have hS : FP.Core.signed (s != t) (FP.Core.inUnits (c * d) (q + r) (-((Q + Q : Nat) : Int))) * ((2 ^ (j + k) : Nat) : Int) = (m * n) * ((2 ^ (Q + Q) : Nat) : Int) := by
    rw [e3, FP.Core.signed_xor, Nat.pow_add, Nat.pow_add, Int.natCast_mul, Int.natCast_mul]
    have hx' : FP.Core.signed s (FP.Core.zmag FP.Core.b64 (.fin s c q)) * ((2 ^ j : Nat) : Int) = m * ((2 ^ Q : Nat) : Int) := by rw [← q2]; exact vx
    have hy' : FP.Core.signed t (FP.Core.zmag FP.Core.b64 (.fin t d r)) * ((2 ^ k : Nat) : Int) = n * ((2 ^ Q : Nat) : Int) := by rw [← q2]; exact vy
    have e9 : ∀ A B C D : Int, A * B * (C * D) = (A * C) * (B * D) := fun A B C D => by ac_rfl
    rw [e9, hx', hy', e9]
  obtain ⟨c', q', r1, r2⟩ := fx_rnd hk (by omega) e2 hS hb
  refine fx_of (sg := (s != t)) (c' := c') (q' := q') ?_ r2
  show FP.Core.val64 (FP.Core.dmul x y) = _
  rw [FP.Core.val64_dmul, ex, ey, e1, r1]
theorem fx_up {k : Nat} {n : Int} {x : UInt64} (j : Nat) (hx : fx k n x) : fx (k + j) (n * ((2 ^ j : Nat) : Int)) x := by
  refine ⟨hx.1, ?_⟩
  rw [Nat.pow_add, Int.natCast_mul, ← Int.mul_assoc, hx.2, Int.mul_assoc, Int.mul_assoc, Int.mul_comm (FP.Core.one64 : Int)]
theorem fx_dn {k : Nat} {n : Int} {x : UInt64} (j : Nat) (hx : fx (k + j) (n * ((2 ^ j : Nat) : Int)) x) : fx k n x := by
  refine ⟨hx.1, ?_⟩
  have h := hx.2
  rw [Nat.pow_add, Int.natCast_mul, ← Int.mul_assoc, Int.mul_assoc n, Int.mul_comm ((2 ^ j : Nat) : Int) (FP.Core.one64 : Int), ← Int.mul_assoc] at h
  exact Int.eq_of_mul_eq_mul_right (Int.ne_of_gt (fx_pw j)) h
theorem fx_cmp {k : Nat} {m n : Int} {x y : UInt64} (hx : fx k m x) (hy : fx k n y) : FP.dcmp x y = some (compare m n) := by
  show FP.Core.dcmp x y = _
  rw [FP.Core.dcmp_zval hx.1.ne_nan hy.1.ne_nan]
  congr 1
  have h1 := hx.2
  have h2 := hy.2
  have p1 := fx_pw k
  have p2 := fx_one
  refine FP.Core.compare_congr ?_ ?_
  · rw [← Int.mul_lt_mul_right p1, h1, h2, Int.mul_lt_mul_right p2]
  · constructor
    · intro h
      rw [h, h2] at h1
      exact (Int.eq_of_mul_eq_mul_right (Int.ne_of_gt p2) h1).symm
    · intro h
      rw [h, ← h2] at h1
      exact Int.eq_of_mul_eq_mul_right (Int.ne_of_gt p1) h1
theorem fx_nn {x : UInt64} (h : FP.Core.DFin x) : vf_n64 x := by
  unfold vf_n64
  rw [UInt64.le_iff_toNat_le, FP.Core.mask_toNat]
  have h1 := (FP.Core.fin_bits x).mp h
  have h2 : (0x7ff0000000000000 : UInt64).toNat = 9218868437227405312 := by decide
  rw [h2]
  omega
theorem fx_nnan {x : UInt64} (h : FP.Core.val64 x ≠ .nan) : vf_n64 x := by
  unfold vf_n64
  rw [UInt64.le_iff_toNat_le, FP.Core.mask_toNat]
  have h1 := (FP.Core.ne_nan x).mp h
  have h2 : (0x7ff0000000000000 : UInt64).toNat = 9218868437227405312 := by decide
  rw [h2]
  omega
theorem fx.nn {k : Nat} {n : Int} {x : UInt64} (h : fx k n x) : vf_n64 x := fx_nn h.1
theorem fx_int {i : Int} {x : UInt64} (hv : FP.Core.val64 x = FP.Core.round FP.Core.b64 (FP.Core.ofInt i)) (hb : i.natAbs < 2 ^ 53) : fx 0 i x := by
  have hS : FP.Core.signed (decide (i < 0)) (FP.Core.inUnits i.natAbs 0 (-((0 : Nat) : Int))) * ((2 ^ 0 : Nat) : Int) = i * ((2 ^ 0 : Nat) : Int) := by
    unfold FP.Core.inUnits FP.Core.signed
    by_cases h : i < 0 <;> simp [h] <;> omega
  obtain ⟨c', q', r1, r2⟩ := fx_rnd (k := 0) (by omega) (by omega) (by omega) hS hb
  refine fx_of (sg := decide (i < 0)) (c' := c') (q' := q') ?_ r2
  rw [hv]
  exact r1
theorem fx_i2d (v : Int32) : fx 0 v.toInt (FP.i2d v) := by
  refine fx_int (FP.Core.val64_i2d v) ?_
  have h1 := v.toInt_lt
  have h2 := v.le_toInt
  omega
theorem fx_l2d {v : Int64} (hb : v.toInt.natAbs < 2 ^ 53) : fx 0 v.toInt (FP.l2d v) := fx_int (FP.Core.val64_l2d v) hb
/-- the cut of a value towards zero -/
theorem fx_cut {k : Nat} {n : Int} {x : UInt64} (h : fx k n x) : FP.Core.signed (FP.Core.sgn (FP.Core.val64 x)) (FP.Core.zmag FP.Core.b64 (FP.Core.val64 x) / FP.Core.one64) = n.tdiv ((2 ^ k : Nat) : Int) := by
  have hs := h.2
  have h1 : FP.Core.zmag FP.Core.b64 (FP.Core.val64 x) * 2 ^ k = n.natAbs * FP.Core.one64 := by
    have := congrArg Int.natAbs hs
    unfold FP.Core.zval at this
    rwa [Int.natAbs_mul, Int.natAbs_mul, FP.Core.natAbs_signed, Int.natAbs_natCast, Int.natAbs_natCast] at this
  have hd : FP.Core.zmag FP.Core.b64 (FP.Core.val64 x) / FP.Core.one64 = n.natAbs / 2 ^ k := by
    have a1 := Nat.mul_div_mul_right (FP.Core.zmag FP.Core.b64 (FP.Core.val64 x)) FP.Core.one64 (Nat.two_pow_pos k)
    have a2 := Nat.mul_div_mul_right n.natAbs (2 ^ k) FP.Core.one64_pos
    rw [← a1, h1, Nat.mul_comm FP.Core.one64 (2 ^ k), a2]
  have hsg : FP.Core.signed (FP.Core.sgn (FP.Core.val64 x)) n.natAbs = n := fx_sgn (fx_pw k) fx_one hs
  rw [hd]
  cases hg : FP.Core.sgn (FP.Core.val64 x) with
  | false =>
    rw [hg] at hsg
    have e1 : (n.natAbs : Int) = n := hsg
    show ((n.natAbs / 2 ^ k : Nat) : Int) = n.tdiv ((2 ^ k : Nat) : Int)
    conv => rhs; rw [← e1]
    rw [Int.natCast_ediv, Int.tdiv_eq_ediv_of_nonneg (by omega)]
  | true =>
    rw [hg] at hsg
    have e1 : -(n.natAbs : Int) = n := hsg
    show -((n.natAbs / 2 ^ k : Nat) : Int) = n.tdiv ((2 ^ k : Nat) : Int)
    conv => rhs; rw [← e1]
    rw [Int.neg_tdiv, Int.natCast_ediv, Int.tdiv_eq_ediv_of_nonneg (by omega)]
theorem fx_tdiv_abs (n : Int) (k : Nat) : (n.tdiv ((2 ^ k : Nat) : Int)).natAbs ≤ n.natAbs := by
  rw [Int.natAbs_tdiv, Int.natAbs_natCast]
  exact Nat.div_le_self _ _
theorem fx_d2l {k : Nat} {n : Int} {x : UInt64} (h : fx k n x) (hb : n.natAbs < 2 ^ 62) : (FP.d2l x).toInt = n.tdiv ((2 ^ k : Nat) : Int) := by
  show (FP.Core.d2l x).toInt = _
  rw [FP.Core.d2l_val h.1.ne_nan, fx_cut h]
  have := fx_tdiv_abs n k
  omega
theorem fx_d2i {k : Nat} {n : Int} {x : UInt64} (h : fx k n x) (hb : n.natAbs < 2 ^ 30) : (FP.d2i x).toInt = n.tdiv ((2 ^ k : Nat) : Int) := by
  show (FP.Core.d2i x).toInt = _
  rw [FP.Core.d2i_val h.1.ne_nan, fx_cut h]
  have := fx_tdiv_abs n k
  omega

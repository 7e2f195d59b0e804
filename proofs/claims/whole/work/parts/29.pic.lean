/-! the picture cell by cell; what the numbers keep to; settling -/
def cellOf (G : EG) (m : MS) (d : DS) (k r : Nat) : va_E :=
  if r = 0 then nC m d k else if r = 1 then oAl (mMc m k) (elA G m k) (sCh d k).length else if r = 2 then aT G 4 (trF m k) else
  if r = 3 then oEx (mXt m k).1 (mXt m k).2.1 (mXt m k).2.2.1 (mXt m k).2.2.2.1 (mXt m k).2.2.2.2 else if r = 4 then aO G (mCap m k) (elF m d k) else
  if r < 9 then oTr (mAd m k (r + 4)) (mAd m k (r + 8)) (sTn d k (r - 5)) else if r < 13 then aD G 4 (sTt d k (r - 9)) else aD G 4 (sTv d k (r - 13))
theorem nPic_iff {G : EG} {m : MS} {d : DS} {w : hp_M} {k : Nat} : nPic G m d w k ↔ (∀ r, vR m k r → w (mAd m k r) = some (cellOf G m d k r)) ∧ (∀ i, i < 4 → sTn d k i ≤ 4) ∧ (sCh d k).length ≤ mCap m k ∧ (mCap m k = 0 ∨ mCap m k = 10 ∨ mCap m k = 15) := by
  constructor
  · rintro ⟨h0, h1, h4, h2, h3, h5, hl, hc⟩
    refine ⟨?_, fun i hi => (h5 i hi).2.2.2, hl, hc⟩
    rintro r ⟨hr, hr4⟩
    unfold cellOf
    by_cases q0 : r = 0
    · subst q0; exact h0
    rw [if_neg q0]
    by_cases q1 : r = 1
    · subst q1; exact h1
    rw [if_neg q1]
    by_cases q2 : r = 2
    · subst q2; exact h2
    rw [if_neg q2]
    by_cases q3 : r = 3
    · subst q3; exact h3
    rw [if_neg q3]
    by_cases q4 : r = 4
    · subst q4; exact h4 (hr4 rfl)
    rw [if_neg q4]
    by_cases q9 : r < 9
    · rw [if_pos q9]
      have := (h5 (r - 5) (by omega)).1
      rw [show 5 + (r - 5) = r by omega, show 9 + (r - 5) = r + 4 by omega, show 13 + (r - 5) = r + 8 by omega] at this
      exact this
    rw [if_neg q9]
    by_cases q13 : r < 13
    · rw [if_pos q13]
      have := (h5 (r - 9) (by omega)).2.1
      rw [show 9 + (r - 9) = r by omega] at this
      exact this
    rw [if_neg q13]
    have := (h5 (r - 13) (by omega)).2.2.1
    rw [show 13 + (r - 13) = r by omega] at this
    exact this
  · rintro ⟨h, hn, hl, hc⟩
    refine ⟨h 0 ⟨by decide, fun e => absurd e (by decide)⟩, h 1 ⟨by decide, fun e => absurd e (by decide)⟩, fun h4 => h 4 ⟨by decide, fun _ => h4⟩, h 2 ⟨by decide, fun e => absurd e (by decide)⟩, h 3 ⟨by decide, fun e => absurd e (by decide)⟩, fun i hi => ⟨?_, ?_, ?_, hn i hi⟩, hl, hc⟩
    · have := h (5 + i) ⟨by omega, fun e => by omega⟩
      unfold cellOf at this
      rw [if_neg (by omega), if_neg (by omega), if_neg (by omega), if_neg (by omega), if_neg (by omega), if_pos (by omega), show 5 + i + 4 = 9 + i by omega, show 5 + i + 8 = 13 + i by omega, show 5 + i - 5 = i by omega] at this
      exact this
    · have := h (9 + i) ⟨by omega, fun e => by omega⟩
      unfold cellOf at this
      rw [if_neg (by omega), if_neg (by omega), if_neg (by omega), if_neg (by omega), if_neg (by omega), if_neg (by omega), if_pos (by omega), show 9 + i - 9 = i by omega] at this
      exact this
    · have := h (13 + i) ⟨by omega, fun e => by omega⟩
      unfold cellOf at this
      rw [if_neg (by omega), if_neg (by omega), if_neg (by omega), if_neg (by omega), if_neg (by omega), if_neg (by omega), if_neg (by omega), show 13 + i - 13 = i by omega] at this
      exact this
/-- what the class holds -/
def Own (m : MS) (d : DS) (a : Nat) : Prop := a = mEo m ∨ a = mNa m ∨ a = mCa m ∨ ∃ k r, k < 14 ∧ sTh d k = true ∧ vR m k r ∧ a = mAd m k r
theorem ePic.ob {G : EG} {m : MS} {d : DS} {w : hp_M} (h : ePic G m d w) {k r : Nat} (hk : k < 14) (ht : sTh d k = true) (hr : vR m k r) : w (mAd m k r) = some (cellOf G m d k r) := (nPic_iff.mp (h.2.2.2.1 k hk ht)).1 r hr
theorem cellOf_cases (G : EG) (m : MS) (d : DS) (k r : Nat) : (∃ c fs, c ≠ 3 ∧ cellOf G m d k r = .inr (c, fs)) ∨ (∃ c n f, n ≠ 14 ∧ cellOf G m d k r = .inl (c, n, .inr (.inr (.inr (.inr f))))) ∨ r = 4 ∨ (∃ c n f, cellOf G m d k r = .inl (c, n, .inr (.inr (.inr (.inl f))))) := by
  unfold cellOf
  by_cases q0 : r = 0
  · rw [if_pos q0]; exact Or.inl ⟨1, _, by decide, rfl⟩
  rw [if_neg q0]
  by_cases q1 : r = 1
  · rw [if_pos q1]; exact Or.inl ⟨4, _, by decide, rfl⟩
  rw [if_neg q1]
  by_cases q2 : r = 2
  · rw [if_pos q2]; exact Or.inr (Or.inl ⟨_, 4, _, by decide, rfl⟩)
  rw [if_neg q2]
  by_cases q3 : r = 3
  · rw [if_pos q3]; exact Or.inl ⟨0, _, by decide, rfl⟩
  rw [if_neg q3]
  by_cases q4 : r = 4
  · exact Or.inr (Or.inr (Or.inl q4))
  rw [if_neg q4]
  by_cases q9 : r < 9
  · rw [if_pos q9]; exact Or.inl ⟨2, _, by decide, rfl⟩
  rw [if_neg q9]
  by_cases q13 : r < 13
  · rw [if_pos q13]; exact Or.inr (Or.inr (Or.inr ⟨_, _, _, rfl⟩))
  rw [if_neg q13]
  exact Or.inr (Or.inr (Or.inr ⟨_, _, _, rfl⟩))
theorem ePic.ne3 {G : EG} {m : MS} {d : DS} {w : hp_M} (h : ePic G m d w) {k r : Nat} (hk : k < 14) (ht : sTh d k = true) (hr : vR m k r) : mEo m ≠ mAd m k r ∧ mNa m ≠ mAd m k r ∧ mCa m ≠ mAd m k r := by
  have h0 := h.ob hk ht hr
  have h1 := h.1
  have h2 := h.2.1
  have h3 := h.2.2.1
  obtain ⟨-, -, -, hcap⟩ := nPic_iff.mp (h.2.2.2.1 k hk ht)
  have hc4 : r = 4 → cellOf G m d k r = aO G (mCap m k) (elF m d k) := fun e => by subst e; rfl
  refine ⟨fun e => ?_, fun e => ?_, fun e => ?_⟩
  · rw [← e, h1] at h0
    have h0 := Option.some.inj h0
    rcases cellOf_cases G m d k r with ⟨c, fs, q, e1⟩ | ⟨c, n, f, q, e1⟩ | e1 | ⟨c, n, f, e1⟩
    · rw [e1] at h0; injection h0 with h9; injection h9 with h9 _; exact q h9.symm
    · rw [e1] at h0; cases h0
    · rw [hc4 e1] at h0; cases h0
    · rw [e1] at h0; cases h0
  · rw [← e, h2] at h0
    have h0 := Option.some.inj h0
    rcases cellOf_cases G m d k r with ⟨c, fs, q, e1⟩ | ⟨c, n, f, q, e1⟩ | e1 | ⟨c, n, f, e1⟩
    · rw [e1] at h0; cases h0
    · rw [e1] at h0; injection h0 with h9; injection h9 with _ h9; injection h9 with h9 _; exact q h9.symm
    · rw [hc4 e1] at h0; injection h0 with h9; injection h9 with _ h9; injection h9 with h9 _; omega
    · rw [e1] at h0; injection h0 with h9; injection h9 with _ h9; injection h9 with _ h9; cases h9
  · rw [← e, h3] at h0
    have h0 := Option.some.inj h0
    rcases cellOf_cases G m d k r with ⟨c, fs, q, e1⟩ | ⟨c, n, f, q, e1⟩ | e1 | ⟨c, n, f, e1⟩
    · rw [e1] at h0; cases h0
    · rw [e1] at h0; injection h0 with h9; injection h9 with _ h9; injection h9 with _ h9; cases h9
    · rw [hc4 e1] at h0; injection h0 with h9; injection h9 with _ h9; injection h9 with _ h9; cases h9
    · rw [e1] at h0; injection h0 with h9; injection h9 with _ h9; injection h9 with _ h9; cases h9
/-- one cell changes -/
theorem ePic.set1 {G : EG} {m m' : MS} {d d' : DS} {w : hp_M} (h : ePic G m d w) {k r0 : Nat} (hk : k < 14) (ht : sTh d k = true) (hr0 : vR m k r0) (e1 : m'.1 = m.1) (e2 : mAd m' = mAd m) (e3 : mCap m' = mCap m) (e4 : sTh d' = sTh d) (e5 : sPt d' = sPt d) (e6 : sCl d' = sCl d)
    (hc : ∀ j r, j < 14 → sTh d j = true → vR m j r → ¬ (j = k ∧ r = r0) → cellOf G m' d' j r = cellOf G m d j r)
    (hb : ∀ j, j < 14 → sTh d j = true → (∀ i, i < 4 → sTn d' j i ≤ 4) ∧ (sCh d' j).length ≤ mCap m j) : ePic G m' d' (hp_set w (mAd m k r0) (cellOf G m' d' k r0)) := by
  obtain ⟨n1, n2, n3⟩ := h.ne3 hk ht hr0
  have ev : ∀ j r, vR m' j r ↔ vR m j r := fun j r => by unfold vR; rw [e3]
  refine ⟨?_, ?_, ?_, fun j hj hjt => ?_, fun j r j' r' hj hj' hjt hjt' hv hv' e => ?_⟩
  · show hp_set w (mAd m k r0) _ m'.1.1 = _
    rw [e1, hp_set_ne n1, e2, e5]
    show w (mEo m) = some (.inr (3, [.ref (mAd m 0 0), .ref m'.1.2.1, .ref m'.1.2.2.1, .int (sPt d)]))
    rw [e1]
    exact h.1
  · show hp_set w (mAd m k r0) _ m'.1.2.1 = some (aN G 14 m'.1.2.2.2)
    rw [e1, hp_set_ne n2]
    exact h.2.1
  · show hp_set w (mAd m k r0) _ m'.1.2.2.1 = _
    rw [e1, hp_set_ne n3, e6]
    exact h.2.2.1
  · rw [e4] at hjt
    have ho := nPic_iff.mp (h.2.2.2.1 j hj hjt)
    refine nPic_iff.mpr ⟨fun r hr => ?_, (hb j hj hjt).1, by rw [e3]; exact (hb j hj hjt).2, by rw [e3]; exact ho.2.2.2⟩
    rw [ev] at hr
    rw [e2]
    by_cases hjk : j = k ∧ r = r0
    · obtain ⟨rfl, rfl⟩ := hjk
      exact hp_set_eq _ _ _
    · rw [hp_set_ne (fun e => hjk (h.2.2.2.2 j r k r0 hj hk hjt ht hr hr0 e)), hc j r hj hjt hr hjk]
      exact ho.1 r hr
  · rw [e4] at hjt hjt'
    rw [ev] at hv hv'
    rw [e2] at e
    exact h.2.2.2.2 j r j' r' hj hj' hjt hjt' hv hv' e
theorem Own.congr {m m' : MS} {d d' : DS} (e1 : m'.1 = m.1) (e2 : mAd m' = mAd m) (e3 : mCap m' = mCap m) (e4 : sTh d' = sTh d) (a : Nat) : Own m' d' a ↔ Own m d a := by
  unfold Own vR mEo mNa mCa
  rw [e1, e2, e3, e4]
/-! what the numbers keep to -/
def tkOk (ft fv : Nat → UInt64) (n : Nat) : Prop := ∃ T V : Nat → Int, (∀ j, j < n → fx 3 (T j) (ft j) ∧ 0 ≤ T j ∧ T j ≤ 8000 ∧ fx 3 (V j) (fv j) ∧ (V j).natAbs ≤ 800) ∧ (∀ j, j + 1 < n → T j < T (j + 1))
def tiO (u : UInt64) : Prop := ∃ U : Int, fx 3 U u ∧ 0 ≤ U ∧ U ≤ 8000
def plO (x : UInt64) : Prop := ∃ n : Int, fx 3 n x ∧ n.natAbs ≤ 800
def lnO (x : UInt64) : Prop := ∃ n : Int, fx 3 n x ∧ 1 ≤ n ∧ n ≤ 800
def spO (x : UInt64) : Prop := ∃ n : Int, fx 3 n x ∧ 8 ≤ n ∧ n ≤ 256
def s5 (s : Int32) : Prop := s = -2 ∨ s = -1 ∨ s = 0 ∨ s = 1 ∨ s = 2
def c15' (c : Int32) : Prop := ∃ n : Nat, 1 ≤ n ∧ n ≤ 15 ∧ c = nI n
def vOk1 (d : DS) (k : Nat) : Prop :=
  (∃ c : Nat, c < 4 ∧ sNi d k 0 = nI c) ∧ c15' (sNi d k 1) ∧ (sNi d k 2 = 0 ∨ sNi d k 2 = 1) ∧ (∃ t : Nat, t < 4 ∧ sNi d k 3 = nI t) ∧ s5 (sNi d k 4) ∧ (∃ c : Nat, c < 3 ∧ sNi d k 5 = nI c) ∧
  lnO (sNd d k 0) ∧ lnO (sNd d k 1) ∧ plO (sNd d k 2) ∧ plO (sNd d k 3) ∧ spO (sNd d k 4) ∧
  (∀ i, i < 4 → tkOk (sTt d k i) (sTv d k i) (sTn d k i)) ∧ (∀ j, j < sTn d k 2 → ∃ s, s5 s ∧ fx 0 s.toInt (sTv d k 2 j)) ∧ (∀ j, j < sTn d k 3 → ∃ c, c15' c ∧ fx 0 c.toInt (sTv d k 3 j))
def vOk (d : DS) : Prop := ∀ k, k < 14 → sTh d k = true → vOk1 d k
theorem kfF_spec {ft : Nat → UInt64} {T : Nat → Int} {u : UInt64} {U : Int} (hu : fx 3 U u) : ∀ n, (∀ j, j < n → fx 3 (T j) (ft j)) → (kfF ft u n = 0 ∨ T (kfF ft u n) ≤ U) ∧ ∀ j, kfF ft u n < j → j < n → U < T j
  | 0, _ => ⟨Or.inl rfl, fun j _ h => absurd h (Nat.not_lt_zero j)⟩
  | n + 1, h => by
    obtain ⟨h1, h2⟩ := kfF_spec hu n (fun j hj => h j (by omega))
    unfold kfF
    by_cases hc : n ≠ 0 ∧ dle (ft n) u
    · rw [if_pos hc]
      exact ⟨Or.inr ((fx_le (h n (by omega)) hu).mp hc.2), fun j q1 q2 => by omega⟩
    · rw [if_neg hc]
      refine ⟨h1, fun j q1 q2 => ?_⟩
      rcases Nat.lt_or_ge j n with q | q
      · exact h2 j q1 q
      · have ej : j = n := by omega
        subst ej
        have hj0 : j ≠ 0 := by omega
        have : ¬ T j ≤ U := fun hh => hc ⟨hj0, (fx_le (h j (by omega)) hu).mpr hh⟩
        omega
theorem gOk_of {ft fv : Nat → UInt64} {n : Nat} {u : UInt64} (h : tkOk ft fv n) (hu : tiO u) (i : Nat) (hi : i + 1 < n) : gOk ft fv u i := by
  obtain ⟨T, V, h1, h2⟩ := h
  obtain ⟨U, hU, hU0, hU1⟩ := hu
  obtain ⟨t0, -, -, v0, -⟩ := h1 i (by omega)
  obtain ⟨t1, -, -, v1, -⟩ := h1 (i + 1) hi
  have a1 := fx_sub (by decide) t1 t0 (by have := h1 i (by omega); have := h1 (i + 1) hi; omega)
  have a2 := fx_sub (by decide) v1 v0 (by have := h1 i (by omega); have := h1 (i + 1) hi; omega)
  have a3 : FP.Core.dIsNaN (FP.dsub u (ft i)) = false := FP.Core.dsub_out hU.1.notNaN t0.1
  have hlt := h2 i hi
  have hz := fx_nz a1 (show T (i + 1) - T i ≠ 0 by omega)
  have a4 : FP.Core.dIsNaN (gNum ft fv u i) = false := by
    unfold gNum
    have a5 := fx_sub (by decide) hU t0 (by have := h1 i (by omega); omega)
    exact FP.Core.dmul_out a2.1 a5.1
  have a6 : FP.Core.dIsNaN (gQuo ft fv u i) = false := FP.Core.ddiv_out a4 a1.1 hz
  have a7 : FP.Core.dIsNaN (FP.dmul (gQuo ft fv u i) fx_64) = false := FP.Core.dmul_out' a6 fx_c64.1 (fx_nz fx_c64 (by decide))
  have a8 : FP.Core.dIsNaN (fx_rd (gQuo ft fv u i)) = false := FP.Core.ddiv_out (fx_flfin _) fx_c64.1 (fx_nz fx_c64 (by decide))
  exact ⟨a1.nn, a2.nn, fx_notnan a3, fx_notnan a4, fun _ => ⟨fx_notnan a6, fx_notnan a7, fx_notnan a8, fx_notnan (FP.Core.dadd_out' v0.1 a8)⟩⟩
theorem kGlide_b {ft fv : Nat → UInt64} {n : Nat} {u dd : UInt64} (h : tkOk ft fv n) (hu : tiO u) (hd : plO dd) : ∃ N : Int, N.natAbs ≤ 19200 ∧ fx 6 N (kGlide ft fv n u dd) := by
  obtain ⟨T, V, h1, h2⟩ := h
  obtain ⟨U, hU, hU0, hU1⟩ := hu
  obtain ⟨D, hD, hD1⟩ := hd
  have hval : ∀ j, j < n → ∃ N : Int, N.natAbs ≤ 19200 ∧ fx 6 N (fv j) := fun j hj => by
    obtain ⟨-, -, -, q1, q2⟩ := h1 j hj
    exact ⟨V j * ((2 ^ 3 : Nat) : Int), by rw [show ((2 ^ 3 : Nat) : Int) = 8 from rfl]; omega, fx_up 3 q1⟩
  unfold kGlide
  by_cases h0 : n = 0
  · rw [if_pos h0]
    exact ⟨D * ((2 ^ 3 : Nat) : Int), by rw [show ((2 ^ 3 : Nat) : Int) = 8 from rfl]; omega, fx_up 3 hD⟩
  rw [if_neg h0]
  have hk := kfF_lt ft u n (by omega)
  obtain ⟨s1, s2⟩ := kfF_spec hU n (fun j hj => (h1 j hj).1)
  generalize kfF ft u n = k at hk s1 s2 ⊢
  by_cases hc : n ≤ k + 1 ∨ dle u (ft k)
  · rw [if_pos hc]
    exact hval k hk
  rw [if_neg hc]
  by_cases hc2 : dle (gSpan ft k) FP.dconst0
  · rw [if_pos hc2]
    exact hval k hk
  rw [if_neg hc2]
  have hk1 : k + 1 < n := by omega
  obtain ⟨t0, t00, t01, v0, v01⟩ := h1 k hk
  obtain ⟨t1, t10, t11, v1, v11⟩ := h1 (k + 1) hk1
  have hT0 : T k < U := by
    have : ¬ U ≤ T k := fun q => hc (Or.inr ((fx_le hU t0).mpr q))
    omega
  have hT1 := s2 (k + 1) (by omega) hk1
  have a1 := fx_sub (by decide) t1 t0 (by omega)
  have a2 := fx_sub (by decide) v1 v0 (by omega)
  have a3 := fx_sub (by decide) hU t0 (by omega)
  have hmul : ((V (k + 1) - V k) * (U - T k)).natAbs ≤ 1600 * (T (k + 1) - T k).natAbs := by
    rw [Int.natAbs_mul]
    exact Nat.mul_le_mul (by omega) (by omega)
  have a4 := fx_mul (by decide) a2 a3 (by omega)
  have a5 := fx_qle (b := 200) a4 a1 (by omega) (by decide) (by rw [show (2 : Nat) ^ 3 = 8 from rfl, show (2 : Nat) ^ (3 + 3) = 64 from rfl]; omega)
  obtain ⟨N, b1, b2⟩ := fx_rdb (b := 200) a5.1 a5.2 (by decide)
  have b3 := fx_up 3 v0
  refine ⟨V k * ((2 ^ 3 : Nat) : Int) + N, by rw [show ((2 ^ 3 : Nat) : Int) = 8 from rfl]; omega, fx_add (by decide) b3 b2 (by rw [show ((2 ^ 3 : Nat) : Int) = 8 from rfl]; omega)⟩
theorem fx_d2i0 {x : UInt64} {s : Int32} (h : fx 0 s.toInt x) (hb : s.toInt.natAbs < 2 ^ 30) : FP.d2i x = s := by
  have := fx_d2i h hb
  rw [Nat.pow_zero] at this
  refine Int32.toInt.inj (this.trans ?_)
  exact Int.tdiv_one _
/-- the values at a time -/
def vX (d : DS) (u : UInt64) (k i : Nat) : UInt64 := kGlide (sTt d k i) (sTv d k i) (sTn d k i) u (sNd d k (2 + i))
def vJ (d : DS) (u : UInt64) (k i : Nat) (x : UInt64) : UInt64 := kJump (sTt d k i) (sTv d k i) (sTn d k i) u x
def vS (d : DS) (u : UInt64) (k : Nat) : Int32 := FP.d2i (vJ d u k 2 (FP.i2d (sNi d k 4)))
def vC (d : DS) (u : UInt64) (k : Nat) : Int32 := FP.d2i (vJ d u k 3 (FP.i2d (sNi d k 1)))
theorem vX_b {d : DS} {u : UInt64} {k : Nat} (h : vOk1 d k) (hu : tiO u) (i : Nat) (hi : i < 2) : ∃ N : Int, N.natAbs ≤ 19200 ∧ fx 6 N (vX d u k i) := by
  obtain ⟨-, -, -, -, -, -, -, -, hx, hy, -, ht, -, -⟩ := h
  refine kGlide_b (ht i (by omega)) hu ?_
  rcases (show i = 0 ∨ i = 1 by omega) with rfl | rfl
  · exact hx
  · exact hy
theorem s5_b {s : Int32} (h : s5 s) : s.toInt.natAbs < 2 ^ 30 := by
  rcases h with rfl | rfl | rfl | rfl | rfl <;> decide
theorem c15_b {c : Int32} (h : c15' c) : c.toInt.natAbs < 2 ^ 30 := by
  obtain ⟨n, h1, h2, rfl⟩ := h
  have : (nI n).toInt = (n : Int) := nI_toInt (by omega)
  omega
/-- the stretch at a time as a double, and as a number -/
theorem vJ_s {d : DS} {u : UInt64} {k : Nat} (h : vOk1 d k) : ∃ s, s5 s ∧ fx 0 s.toInt (vJ d u k 2 (FP.i2d (sNi d k 4))) ∧ vS d u k = s := by
  obtain ⟨-, -, -, -, hs, -, -, -, -, -, -, -, h2, -⟩ := h
  have key : ∃ s, s5 s ∧ fx 0 s.toInt (vJ d u k 2 (FP.i2d (sNi d k 4))) := by
    unfold vJ kJump
    by_cases h0 : sTn d k 2 = 0
    · rw [if_pos h0]
      exact ⟨_, hs, fx_i2d _⟩
    · rw [if_neg h0]
      exact h2 _ (kfF_lt _ _ _ (by omega))
  obtain ⟨s, q1, q2⟩ := key
  exact ⟨s, q1, q2, fx_d2i0 q2 (s5_b q1)⟩
theorem vJ_c {d : DS} {u : UInt64} {k : Nat} (h : vOk1 d k) : ∃ c, c15' c ∧ fx 0 c.toInt (vJ d u k 3 (FP.i2d (sNi d k 1))) ∧ vC d u k = c := by
  obtain ⟨-, hs, -, -, -, -, -, -, -, -, -, -, -, h2⟩ := h
  have key : ∃ c, c15' c ∧ fx 0 c.toInt (vJ d u k 3 (FP.i2d (sNi d k 1))) := by
    unfold vJ kJump
    by_cases h0 : sTn d k 3 = 0
    · rw [if_pos h0]
      exact ⟨_, hs, fx_i2d _⟩
    · rw [if_neg h0]
      exact h2 _ (kfF_lt _ _ _ (by omega))
  obtain ⟨s, q1, q2⟩ := key
  exact ⟨s, q1, q2, fx_d2i0 q2 (c15_b q1)⟩
/-- settled: one node -/
def msN (m : MS) (d : DS) (u : UInt64) (k : Nat) : MS := (m.1, m.2.1, m.2.2.1, m.2.2.2.1, fun j i => if j = k then (if i = 0 then vX d u k 0 else vX d u k 1) else mNx m j i, fun j i => if j = k then (if i = 0 then vS d u k else vC d u k) else mNi m j i, m.2.2.2.2.2.2)
set_option maxHeartbeats 4000000 in
set_option maxRecDepth 100000 in
theorem m_No_settleAt (l : Launch) (G : EG) (S0 : Nat) (w : hp_M) (ms : MS) (d : DS) (hp' : ePic G ms d w) (hv0 : vOk d) (u : UInt64) (hu : tiO u) (k : Nat) (hk : k < 14) (hkt : sTh d k = true) : Met l y_No_settleAt w_No_settleAt (rl 3 0 0) (eP G S0 w [.ref (mAd ms k 0), .double u]) (va_Qv (fun z => z = hp_set w (mAd ms k 0) (nC (msN ms d u k) d k)) (eW G S0) (hp_A S0)) 0 0 (hp_A S0) := by
  refine Met.ofW (cc := b_No_settleAt) (maxL := 3) (ret := none) (by decide) rfl ?_
  intro p e s m args below meth c s₁ B hml hv
  obtain ⟨rfl, hE, hI, hz⟩ := hv
  have hx := B.exec
  have hb := B.bytes
  have hr := B.returns
  have hts := atoms_spec (ws := w_No_settleAt) B.pre
  have hg : ∀ w ∈ gw, w.before _ s = true := fun w h => hts w (List.mem_cons_of_mem _ h)
  have hown : s.vm.findClass "SceneEasel$Node" = some m.cls := findClass_of_methodNamed B.named
  have hlocks := B.notSynchronized
  have hK := hE.K
  have hS : va_S (hp_A S0) s.heap s.heap [] := va_S.rf
  have hl := lv_entry ([.ref (mAd ms k 0), .double u]) (n := 3) (Nat.le_of_ble_eq_true rfl)
  rw [lg_entry_eq]
  generalize (lg_sl ([.ref (mAd ms k 0), .double u]) ++ List.replicate (3 - (lg_sl ([.ref (mAd ms k 0), .double u])).length) Slot.unset).toArray = ls at hl ⊢
  have hl : lv_has ls 3 [(0, .ref (mAd ms k 0)), (1, .double u)] := hl
  obtain ⟨hn, -, -, hta, -, htk, -, -⟩ := hp'.2.2.2.1 k hk hkt
  have hvk := hv0 k hk hkt
  obtain ⟨a5, a9, a13, n0⟩ := htk 0 (by decide)
  obtain ⟨a6, a10, a14, n1⟩ := htk 1 (by decide)
  obtain ⟨a7, a11, a15, n2⟩ := htk 2 (by decide)
  obtain ⟨a8, a12, a16, n3⟩ := htk 3 (by decide)
  have tr0 : trF ms k (0 : Int32).toNatClampNeg = some (mAd ms k (5 + 0)) := rfl
  have tr1 : trF ms k (1 : Int32).toNatClampNeg = some (mAd ms k (5 + 1)) := rfl
  have tr2 : trF ms k (2 : Int32).toNatClampNeg = some (mAd ms k (5 + 2)) := rfl
  have tr3 : trF ms k (3 : Int32).toNatClampNeg = some (mAd ms k (5 + 3)) := rfl
  have ht := hvk.2.2.2.2.2.2.2.2.2.2.2.1
  refine lv_aload_n hx hb d_No_settleAt_0 rfl (lv_at hl 0 rfl) ?_
  refine lv_aload_n hx hb d_No_settleAt_1 rfl (lv_at hl 0 rfl) ?_
  refine hp_get (ci := 1) (v := .ref (mAd ms k 2)) (C := R_No) (T := F_No) (N := 20) hx hb hg i_No hown hK hI hn rfl 4 (by decide) (hg _ k_173) (fun _ h9 => h9) rfl d_No_settleAt_2 ?_
  refine lv_iconst (v := 0) hx hb d_No_settleAt_5 (by decide) ?_
  refine hp_aald hx hb hK hI 5 hta rfl (by unfold vp_in; decide) d_No_settleAt_6 ?_
  rw [tr0]
  refine lv_dload_n hx hb d_No_settleAt_7 rfl (lv_at hl 1 rfl) ?_
  refine lv_aload_n hx hb d_No_settleAt_8 rfl (lv_at hl 0 rfl) ?_
  refine hp_get (ci := 1) (v := .double (sNd d k 2)) (C := R_No) (T := F_No) (N := 20) hx hb hg i_No hown hK hI hn rfl 10 (by decide) (hg _ k_186) (fun _ h9 => h9) rfl d_No_settleAt_9 ?_
  refine ec_d (va_runVN (As := [.double u, .double (sNd d k 2)]) (rest := [.ref (mAd ms k 0)]) ⟨hx, hb, hml, hown, hts⟩ (m_Tr_gliding l G S0 w (mAd ms k (5 + 0)) (mAd ms k (9 + 0)) (mAd ms k (13 + 0)) (sTn d k 0) (sTt d k 0) (sTv d k 0) u (sNd d k 2) n0 a5 a9 a13 (gOk_of (ht 0 (by decide)) hu)) ⟨va_cnB 2 hts (gw_code k_640) rfl rfl rfl (hE.Nw q_637) (hg _ k_66) (by decide +kernel) ⟨Nat.le_of_ble_eq_true rfl, Nat.le_of_ble_eq_true rfl⟩, hg _ k_639, hg _ k_24⟩ (eB.preV hE hI hS hz rfl a5) rfl rfl hl.1 rfl (lv_room (Nat.le_of_ble_eq_true rfl)) d_No_settleAt_12 ⟨Nat.le_of_ble_eq_true rfl, Nat.le_of_ble_eq_true rfl⟩) hS (fun g0 w_1 H locs ew_1 hI hsz hS => ?_)
  obtain ⟨eg0, ew_1⟩ := ew_1
  have ew_1 := ew_1.symm
  subst ew_1
  refine hp_putC (ci := 1) (v := .double g0) (ty := .double) (C := R_No) (T := F_No) (N := 20) hx hb hg i_No t_No t_No_ok n_No hown hK hI hS hn rfl 16 (by decide) (hg _ k_197) (fun _ h9 => h9) rfl (by decide +kernel) rfl rfl (Nat.le_of_ble_eq_true rfl) d_No_settleAt_15 (fun H locs hI hS hsz => ?_)
  obtain ⟨w_2, ew_2⟩ : ∃ z9, z9 = hp_set w (mAd ms k 0) (.inr (1, [.int (nI k), .int (sNi d k 0), .int (sNi d k 1), .ref (mAd ms k 1), .ref (mAd ms k 2), .ref (mAd ms k 3), va_rf (pAd ms d k), .int (sNi d k 2), .double (sNd d k 0), .double (sNd d k 1), .double (sNd d k 2), .double (sNd d k 3), .int (sNi d k 3), .int (sNi d k 4), .int (sNi d k 5), .double (sNd d k 4), .double g0, .double (mNx ms k 1), .int (mNi ms k 0), .int (mNi ms k 1)])) := ⟨_, rfl⟩
  have hI : eI G S0 w_2 H := by rw [ew_2]; exact hI
  have a5 : w_2 (mAd ms k (5 + 0)) = some (.inr (2, [.ref (mAd ms k (9 + 0)), .ref (mAd ms k (13 + 0)), .int (nI (sTn d k 0))])) := by rw [ew_2, hp_set_ne (hp_ne_c (by decide) a5 hn)]; exact a5
  have a6 : w_2 (mAd ms k (5 + 1)) = some (.inr (2, [.ref (mAd ms k (9 + 1)), .ref (mAd ms k (13 + 1)), .int (nI (sTn d k 1))])) := by rw [ew_2, hp_set_ne (hp_ne_c (by decide) a6 hn)]; exact a6
  have a7 : w_2 (mAd ms k (5 + 2)) = some (.inr (2, [.ref (mAd ms k (9 + 2)), .ref (mAd ms k (13 + 2)), .int (nI (sTn d k 2))])) := by rw [ew_2, hp_set_ne (hp_ne_c (by decide) a7 hn)]; exact a7
  have a8 : w_2 (mAd ms k (5 + 3)) = some (.inr (2, [.ref (mAd ms k (9 + 3)), .ref (mAd ms k (13 + 3)), .int (nI (sTn d k 3))])) := by rw [ew_2, hp_set_ne (hp_ne_c (by decide) a8 hn)]; exact a8
  have hta : w_2 (mAd ms k 2) = some (.inl (G.2.2.1 5, 4, .inr (.inr (.inr (.inr (trF ms k)))))) := by rw [ew_2, hp_set_ne (hp_ne_ao hta hn)]; exact hta
  have a9 : w_2 (mAd ms k (9 + 0)) = some (.inl (G.2.2.1 1, 4, .inr (.inr (.inr (.inl (sTt d k 0)))))) := by rw [ew_2, hp_set_ne (hp_ne_ao a9 hn)]; exact a9
  have a13 : w_2 (mAd ms k (13 + 0)) = some (.inl (G.2.2.1 1, 4, .inr (.inr (.inr (.inl (sTv d k 0)))))) := by rw [ew_2, hp_set_ne (hp_ne_ao a13 hn)]; exact a13
  have a10 : w_2 (mAd ms k (9 + 1)) = some (.inl (G.2.2.1 1, 4, .inr (.inr (.inr (.inl (sTt d k 1)))))) := by rw [ew_2, hp_set_ne (hp_ne_ao a10 hn)]; exact a10
  have a14 : w_2 (mAd ms k (13 + 1)) = some (.inl (G.2.2.1 1, 4, .inr (.inr (.inr (.inl (sTv d k 1)))))) := by rw [ew_2, hp_set_ne (hp_ne_ao a14 hn)]; exact a14
  have a11 : w_2 (mAd ms k (9 + 2)) = some (.inl (G.2.2.1 1, 4, .inr (.inr (.inr (.inl (sTt d k 2)))))) := by rw [ew_2, hp_set_ne (hp_ne_ao a11 hn)]; exact a11
  have a15 : w_2 (mAd ms k (13 + 2)) = some (.inl (G.2.2.1 1, 4, .inr (.inr (.inr (.inl (sTv d k 2)))))) := by rw [ew_2, hp_set_ne (hp_ne_ao a15 hn)]; exact a15
  have a12 : w_2 (mAd ms k (9 + 3)) = some (.inl (G.2.2.1 1, 4, .inr (.inr (.inr (.inl (sTt d k 3)))))) := by rw [ew_2, hp_set_ne (hp_ne_ao a12 hn)]; exact a12
  have a16 : w_2 (mAd ms k (13 + 3)) = some (.inl (G.2.2.1 1, 4, .inr (.inr (.inr (.inl (sTv d k 3)))))) := by rw [ew_2, hp_set_ne (hp_ne_ao a16 hn)]; exact a16
  have hn : w_2 (mAd ms k 0) = some (.inr (1, [.int (nI k), .int (sNi d k 0), .int (sNi d k 1), .ref (mAd ms k 1), .ref (mAd ms k 2), .ref (mAd ms k 3), va_rf (pAd ms d k), .int (sNi d k 2), .double (sNd d k 0), .double (sNd d k 1), .double (sNd d k 2), .double (sNd d k 3), .int (sNi d k 3), .int (sNi d k 4), .int (sNi d k 5), .double (sNd d k 4), .double g0, .double (mNx ms k 1), .int (mNi ms k 0), .int (mNi ms k 1)])) := by rw [ew_2]; exact hp_set_eq _ _ _
  refine lv_aload_n hx hb d_No_settleAt_18 rfl (lv_at hl 0 rfl) ?_
  refine lv_aload_n hx hb d_No_settleAt_19 rfl (lv_at hl 0 rfl) ?_
  refine hp_get (ci := 1) (v := .ref (mAd ms k 2)) (C := R_No) (T := F_No) (N := 20) hx hb hg i_No hown hK hI hn rfl 4 (by decide) (hg _ k_173) (fun _ h9 => h9) rfl d_No_settleAt_20 ?_
  refine lv_iconst (v := 1) hx hb d_No_settleAt_23 (by decide) ?_
  refine hp_aald hx hb hK hI 5 hta rfl (by unfold vp_in; decide) d_No_settleAt_24 ?_
  rw [tr1]
  refine lv_dload_n hx hb d_No_settleAt_25 rfl (lv_at hl 1 rfl) ?_
  refine lv_aload_n hx hb d_No_settleAt_26 rfl (lv_at hl 0 rfl) ?_
  refine hp_get (ci := 1) (v := .double (sNd d k 3)) (C := R_No) (T := F_No) (N := 20) hx hb hg i_No hown hK hI hn rfl 11 (by decide) (hg _ k_188) (fun _ h9 => h9) rfl d_No_settleAt_27 ?_
  refine ec_d (va_runVN (As := [.double u, .double (sNd d k 3)]) (rest := [.ref (mAd ms k 0)]) ⟨hx, hb, hml, hown, hts⟩ (m_Tr_gliding l G S0 w_2 (mAd ms k (5 + 1)) (mAd ms k (9 + 1)) (mAd ms k (13 + 1)) (sTn d k 1) (sTt d k 1) (sTv d k 1) u (sNd d k 3) n1 a6 a10 a14 (gOk_of (ht 1 (by decide)) hu)) ⟨va_cnB 2 hts (gw_code k_640) rfl rfl rfl (hE.Nw q_637) (hg _ k_66) (by decide +kernel) ⟨Nat.le_of_ble_eq_true rfl, Nat.le_of_ble_eq_true rfl⟩, hg _ k_639, hg _ k_24⟩ (eB.preV hE hI hS hz rfl a6) rfl rfl hl.1 rfl (lv_room (Nat.le_of_ble_eq_true rfl)) d_No_settleAt_30 ⟨Nat.le_of_ble_eq_true rfl, Nat.le_of_ble_eq_true rfl⟩) hS (fun g1 w_3 H locs ew_3 hI hsz hS => ?_)
  obtain ⟨eg1, ew_3⟩ := ew_3
  have ew_3 := ew_3.symm
  subst ew_3
  refine hp_putC (ci := 1) (v := .double g1) (ty := .double) (C := R_No) (T := F_No) (N := 20) hx hb hg i_No t_No t_No_ok n_No hown hK hI hS hn rfl 17 (by decide) (hg _ k_198) (fun _ h9 => h9) rfl (by decide +kernel) rfl rfl (Nat.le_of_ble_eq_true rfl) d_No_settleAt_33 (fun H locs hI hS hsz => ?_)
  obtain ⟨w_4, ew_4⟩ : ∃ z9, z9 = hp_set w_2 (mAd ms k 0) (.inr (1, [.int (nI k), .int (sNi d k 0), .int (sNi d k 1), .ref (mAd ms k 1), .ref (mAd ms k 2), .ref (mAd ms k 3), va_rf (pAd ms d k), .int (sNi d k 2), .double (sNd d k 0), .double (sNd d k 1), .double (sNd d k 2), .double (sNd d k 3), .int (sNi d k 3), .int (sNi d k 4), .int (sNi d k 5), .double (sNd d k 4), .double g0, .double g1, .int (mNi ms k 0), .int (mNi ms k 1)])) := ⟨_, rfl⟩
  have hI : eI G S0 w_4 H := by rw [ew_4]; exact hI
  have a5 : w_4 (mAd ms k (5 + 0)) = some (.inr (2, [.ref (mAd ms k (9 + 0)), .ref (mAd ms k (13 + 0)), .int (nI (sTn d k 0))])) := by rw [ew_4, hp_set_ne (hp_ne_c (by decide) a5 hn)]; exact a5
  have a6 : w_4 (mAd ms k (5 + 1)) = some (.inr (2, [.ref (mAd ms k (9 + 1)), .ref (mAd ms k (13 + 1)), .int (nI (sTn d k 1))])) := by rw [ew_4, hp_set_ne (hp_ne_c (by decide) a6 hn)]; exact a6
  have a7 : w_4 (mAd ms k (5 + 2)) = some (.inr (2, [.ref (mAd ms k (9 + 2)), .ref (mAd ms k (13 + 2)), .int (nI (sTn d k 2))])) := by rw [ew_4, hp_set_ne (hp_ne_c (by decide) a7 hn)]; exact a7
  have a8 : w_4 (mAd ms k (5 + 3)) = some (.inr (2, [.ref (mAd ms k (9 + 3)), .ref (mAd ms k (13 + 3)), .int (nI (sTn d k 3))])) := by rw [ew_4, hp_set_ne (hp_ne_c (by decide) a8 hn)]; exact a8
  have hta : w_4 (mAd ms k 2) = some (.inl (G.2.2.1 5, 4, .inr (.inr (.inr (.inr (trF ms k)))))) := by rw [ew_4, hp_set_ne (hp_ne_ao hta hn)]; exact hta
  have a9 : w_4 (mAd ms k (9 + 0)) = some (.inl (G.2.2.1 1, 4, .inr (.inr (.inr (.inl (sTt d k 0)))))) := by rw [ew_4, hp_set_ne (hp_ne_ao a9 hn)]; exact a9
  have a13 : w_4 (mAd ms k (13 + 0)) = some (.inl (G.2.2.1 1, 4, .inr (.inr (.inr (.inl (sTv d k 0)))))) := by rw [ew_4, hp_set_ne (hp_ne_ao a13 hn)]; exact a13
  have a10 : w_4 (mAd ms k (9 + 1)) = some (.inl (G.2.2.1 1, 4, .inr (.inr (.inr (.inl (sTt d k 1)))))) := by rw [ew_4, hp_set_ne (hp_ne_ao a10 hn)]; exact a10
  have a14 : w_4 (mAd ms k (13 + 1)) = some (.inl (G.2.2.1 1, 4, .inr (.inr (.inr (.inl (sTv d k 1)))))) := by rw [ew_4, hp_set_ne (hp_ne_ao a14 hn)]; exact a14
  have a11 : w_4 (mAd ms k (9 + 2)) = some (.inl (G.2.2.1 1, 4, .inr (.inr (.inr (.inl (sTt d k 2)))))) := by rw [ew_4, hp_set_ne (hp_ne_ao a11 hn)]; exact a11
  have a15 : w_4 (mAd ms k (13 + 2)) = some (.inl (G.2.2.1 1, 4, .inr (.inr (.inr (.inl (sTv d k 2)))))) := by rw [ew_4, hp_set_ne (hp_ne_ao a15 hn)]; exact a15
  have a12 : w_4 (mAd ms k (9 + 3)) = some (.inl (G.2.2.1 1, 4, .inr (.inr (.inr (.inl (sTt d k 3)))))) := by rw [ew_4, hp_set_ne (hp_ne_ao a12 hn)]; exact a12
  have a16 : w_4 (mAd ms k (13 + 3)) = some (.inl (G.2.2.1 1, 4, .inr (.inr (.inr (.inl (sTv d k 3)))))) := by rw [ew_4, hp_set_ne (hp_ne_ao a16 hn)]; exact a16
  have hn : w_4 (mAd ms k 0) = some (.inr (1, [.int (nI k), .int (sNi d k 0), .int (sNi d k 1), .ref (mAd ms k 1), .ref (mAd ms k 2), .ref (mAd ms k 3), va_rf (pAd ms d k), .int (sNi d k 2), .double (sNd d k 0), .double (sNd d k 1), .double (sNd d k 2), .double (sNd d k 3), .int (sNi d k 3), .int (sNi d k 4), .int (sNi d k 5), .double (sNd d k 4), .double g0, .double g1, .int (mNi ms k 0), .int (mNi ms k 1)])) := by rw [ew_4]; exact hp_set_eq _ _ _
  refine lv_aload_n hx hb d_No_settleAt_36 rfl (lv_at hl 0 rfl) ?_
  refine lv_aload_n hx hb d_No_settleAt_37 rfl (lv_at hl 0 rfl) ?_
  refine hp_get (ci := 1) (v := .ref (mAd ms k 2)) (C := R_No) (T := F_No) (N := 20) hx hb hg i_No hown hK hI hn rfl 4 (by decide) (hg _ k_173) (fun _ h9 => h9) rfl d_No_settleAt_38 ?_
  refine lv_iconst (v := 2) hx hb d_No_settleAt_41 (by decide) ?_
  refine hp_aald hx hb hK hI 5 hta rfl (by unfold vp_in; decide) d_No_settleAt_42 ?_
  rw [tr2]
  refine lv_dload_n hx hb d_No_settleAt_43 rfl (lv_at hl 1 rfl) ?_
  refine lv_aload_n hx hb d_No_settleAt_44 rfl (lv_at hl 0 rfl) ?_
  refine hp_get (ci := 1) (v := .int (sNi d k 4)) (C := R_No) (T := F_No) (N := 20) hx hb hg i_No hown hK hI hn rfl 13 (by decide) (hg _ k_192) (fun _ h9 => h9) rfl d_No_settleAt_45 ?_
  refine lv_i2d hx hb d_No_settleAt_48 ?_
  refine ec_d (va_runVN (As := [.double u, .double (FP.i2d (sNi d k 4))]) (rest := [.ref (mAd ms k 0)]) ⟨hx, hb, hml, hown, hts⟩ (m_Tr_jumping l G S0 w_4 (mAd ms k (5 + 2)) (mAd ms k (9 + 2)) (mAd ms k (13 + 2)) (sTn d k 2) (sTt d k 2) (sTv d k 2) u (FP.i2d (sNi d k 4)) n2 a7 a11 a15) ⟨va_cnB 2 hts (gw_code k_655) rfl rfl rfl (hE.Nw q_652) (hg _ k_66) (by decide +kernel) ⟨Nat.le_of_ble_eq_true rfl, Nat.le_of_ble_eq_true rfl⟩, hg _ k_654, hg _ k_26⟩ (eB.preV hE hI hS hz rfl a7) rfl rfl hl.1 rfl (lv_room (Nat.le_of_ble_eq_true rfl)) d_No_settleAt_49 ⟨Nat.le_of_ble_eq_true rfl, Nat.le_of_ble_eq_true rfl⟩) hS (fun g2 w_5 H locs ew_5 hI hsz hS => ?_)
  obtain ⟨eg2, ew_5⟩ := ew_5
  have ew_5 := ew_5.symm
  subst ew_5
  refine lv_d2i hx hb d_No_settleAt_52 ?_
  refine hp_putC (ci := 1) (v := .int (FP.d2i g2)) (ty := .int) (C := R_No) (T := F_No) (N := 20) hx hb hg i_No t_No t_No_ok n_No hown hK hI hS hn rfl 18 (by decide) (hg _ k_199) (fun _ h9 => h9) rfl (by decide +kernel) rfl rfl (Nat.le_of_ble_eq_true rfl) d_No_settleAt_53 (fun H locs hI hS hsz => ?_)
  obtain ⟨w_6, ew_6⟩ : ∃ z9, z9 = hp_set w_4 (mAd ms k 0) (.inr (1, [.int (nI k), .int (sNi d k 0), .int (sNi d k 1), .ref (mAd ms k 1), .ref (mAd ms k 2), .ref (mAd ms k 3), va_rf (pAd ms d k), .int (sNi d k 2), .double (sNd d k 0), .double (sNd d k 1), .double (sNd d k 2), .double (sNd d k 3), .int (sNi d k 3), .int (sNi d k 4), .int (sNi d k 5), .double (sNd d k 4), .double g0, .double g1, .int (FP.d2i g2), .int (mNi ms k 1)])) := ⟨_, rfl⟩
  have hI : eI G S0 w_6 H := by rw [ew_6]; exact hI
  have a5 : w_6 (mAd ms k (5 + 0)) = some (.inr (2, [.ref (mAd ms k (9 + 0)), .ref (mAd ms k (13 + 0)), .int (nI (sTn d k 0))])) := by rw [ew_6, hp_set_ne (hp_ne_c (by decide) a5 hn)]; exact a5
  have a6 : w_6 (mAd ms k (5 + 1)) = some (.inr (2, [.ref (mAd ms k (9 + 1)), .ref (mAd ms k (13 + 1)), .int (nI (sTn d k 1))])) := by rw [ew_6, hp_set_ne (hp_ne_c (by decide) a6 hn)]; exact a6
  have a7 : w_6 (mAd ms k (5 + 2)) = some (.inr (2, [.ref (mAd ms k (9 + 2)), .ref (mAd ms k (13 + 2)), .int (nI (sTn d k 2))])) := by rw [ew_6, hp_set_ne (hp_ne_c (by decide) a7 hn)]; exact a7
  have a8 : w_6 (mAd ms k (5 + 3)) = some (.inr (2, [.ref (mAd ms k (9 + 3)), .ref (mAd ms k (13 + 3)), .int (nI (sTn d k 3))])) := by rw [ew_6, hp_set_ne (hp_ne_c (by decide) a8 hn)]; exact a8
  have hta : w_6 (mAd ms k 2) = some (.inl (G.2.2.1 5, 4, .inr (.inr (.inr (.inr (trF ms k)))))) := by rw [ew_6, hp_set_ne (hp_ne_ao hta hn)]; exact hta
  have a9 : w_6 (mAd ms k (9 + 0)) = some (.inl (G.2.2.1 1, 4, .inr (.inr (.inr (.inl (sTt d k 0)))))) := by rw [ew_6, hp_set_ne (hp_ne_ao a9 hn)]; exact a9
  have a13 : w_6 (mAd ms k (13 + 0)) = some (.inl (G.2.2.1 1, 4, .inr (.inr (.inr (.inl (sTv d k 0)))))) := by rw [ew_6, hp_set_ne (hp_ne_ao a13 hn)]; exact a13
  have a10 : w_6 (mAd ms k (9 + 1)) = some (.inl (G.2.2.1 1, 4, .inr (.inr (.inr (.inl (sTt d k 1)))))) := by rw [ew_6, hp_set_ne (hp_ne_ao a10 hn)]; exact a10
  have a14 : w_6 (mAd ms k (13 + 1)) = some (.inl (G.2.2.1 1, 4, .inr (.inr (.inr (.inl (sTv d k 1)))))) := by rw [ew_6, hp_set_ne (hp_ne_ao a14 hn)]; exact a14
  have a11 : w_6 (mAd ms k (9 + 2)) = some (.inl (G.2.2.1 1, 4, .inr (.inr (.inr (.inl (sTt d k 2)))))) := by rw [ew_6, hp_set_ne (hp_ne_ao a11 hn)]; exact a11
  have a15 : w_6 (mAd ms k (13 + 2)) = some (.inl (G.2.2.1 1, 4, .inr (.inr (.inr (.inl (sTv d k 2)))))) := by rw [ew_6, hp_set_ne (hp_ne_ao a15 hn)]; exact a15
  have a12 : w_6 (mAd ms k (9 + 3)) = some (.inl (G.2.2.1 1, 4, .inr (.inr (.inr (.inl (sTt d k 3)))))) := by rw [ew_6, hp_set_ne (hp_ne_ao a12 hn)]; exact a12
  have a16 : w_6 (mAd ms k (13 + 3)) = some (.inl (G.2.2.1 1, 4, .inr (.inr (.inr (.inl (sTv d k 3)))))) := by rw [ew_6, hp_set_ne (hp_ne_ao a16 hn)]; exact a16
  have hn : w_6 (mAd ms k 0) = some (.inr (1, [.int (nI k), .int (sNi d k 0), .int (sNi d k 1), .ref (mAd ms k 1), .ref (mAd ms k 2), .ref (mAd ms k 3), va_rf (pAd ms d k), .int (sNi d k 2), .double (sNd d k 0), .double (sNd d k 1), .double (sNd d k 2), .double (sNd d k 3), .int (sNi d k 3), .int (sNi d k 4), .int (sNi d k 5), .double (sNd d k 4), .double g0, .double g1, .int (FP.d2i g2), .int (mNi ms k 1)])) := by rw [ew_6]; exact hp_set_eq _ _ _
  refine lv_aload_n hx hb d_No_settleAt_56 rfl (lv_at hl 0 rfl) ?_
  refine lv_aload_n hx hb d_No_settleAt_57 rfl (lv_at hl 0 rfl) ?_
  refine hp_get (ci := 1) (v := .ref (mAd ms k 2)) (C := R_No) (T := F_No) (N := 20) hx hb hg i_No hown hK hI hn rfl 4 (by decide) (hg _ k_173) (fun _ h9 => h9) rfl d_No_settleAt_58 ?_
  refine lv_iconst (v := 3) hx hb d_No_settleAt_61 (by decide) ?_
  refine hp_aald hx hb hK hI 5 hta rfl (by unfold vp_in; decide) d_No_settleAt_62 ?_
  rw [tr3]
  refine lv_dload_n hx hb d_No_settleAt_63 rfl (lv_at hl 1 rfl) ?_
  refine lv_aload_n hx hb d_No_settleAt_64 rfl (lv_at hl 0 rfl) ?_
  refine hp_get (ci := 1) (v := .int (sNi d k 1)) (C := R_No) (T := F_No) (N := 20) hx hb hg i_No hown hK hI hn rfl 2 (by decide) (hg _ k_170) (fun _ h9 => h9) rfl d_No_settleAt_65 ?_
  refine lv_i2d hx hb d_No_settleAt_68 ?_
  refine ec_d (va_runVN (As := [.double u, .double (FP.i2d (sNi d k 1))]) (rest := [.ref (mAd ms k 0)]) ⟨hx, hb, hml, hown, hts⟩ (m_Tr_jumping l G S0 w_6 (mAd ms k (5 + 3)) (mAd ms k (9 + 3)) (mAd ms k (13 + 3)) (sTn d k 3) (sTt d k 3) (sTv d k 3) u (FP.i2d (sNi d k 1)) n3 a8 a12 a16) ⟨va_cnB 2 hts (gw_code k_655) rfl rfl rfl (hE.Nw q_652) (hg _ k_66) (by decide +kernel) ⟨Nat.le_of_ble_eq_true rfl, Nat.le_of_ble_eq_true rfl⟩, hg _ k_654, hg _ k_26⟩ (eB.preV hE hI hS hz rfl a8) rfl rfl hl.1 rfl (lv_room (Nat.le_of_ble_eq_true rfl)) d_No_settleAt_69 ⟨Nat.le_of_ble_eq_true rfl, Nat.le_of_ble_eq_true rfl⟩) hS (fun g3 w_7 H locs ew_7 hI hsz hS => ?_)
  obtain ⟨eg3, ew_7⟩ := ew_7
  have ew_7 := ew_7.symm
  subst ew_7
  refine lv_d2i hx hb d_No_settleAt_72 ?_
  refine hp_putC (ci := 1) (v := .int (FP.d2i g3)) (ty := .int) (C := R_No) (T := F_No) (N := 20) hx hb hg i_No t_No t_No_ok n_No hown hK hI hS hn rfl 19 (by decide) (hg _ k_200) (fun _ h9 => h9) rfl (by decide +kernel) rfl rfl (Nat.le_of_ble_eq_true rfl) d_No_settleAt_73 (fun H locs hI hS hsz => ?_)
  obtain ⟨w_8, ew_8⟩ : ∃ z9, z9 = hp_set w_6 (mAd ms k 0) (.inr (1, [.int (nI k), .int (sNi d k 0), .int (sNi d k 1), .ref (mAd ms k 1), .ref (mAd ms k 2), .ref (mAd ms k 3), va_rf (pAd ms d k), .int (sNi d k 2), .double (sNd d k 0), .double (sNd d k 1), .double (sNd d k 2), .double (sNd d k 3), .int (sNi d k 3), .int (sNi d k 4), .int (sNi d k 5), .double (sNd d k 4), .double g0, .double g1, .int (FP.d2i g2), .int (FP.d2i g3)])) := ⟨_, rfl⟩
  have hI : eI G S0 w_8 H := by rw [ew_8]; exact hI
  have a5 : w_8 (mAd ms k (5 + 0)) = some (.inr (2, [.ref (mAd ms k (9 + 0)), .ref (mAd ms k (13 + 0)), .int (nI (sTn d k 0))])) := by rw [ew_8, hp_set_ne (hp_ne_c (by decide) a5 hn)]; exact a5
  have a6 : w_8 (mAd ms k (5 + 1)) = some (.inr (2, [.ref (mAd ms k (9 + 1)), .ref (mAd ms k (13 + 1)), .int (nI (sTn d k 1))])) := by rw [ew_8, hp_set_ne (hp_ne_c (by decide) a6 hn)]; exact a6
  have a7 : w_8 (mAd ms k (5 + 2)) = some (.inr (2, [.ref (mAd ms k (9 + 2)), .ref (mAd ms k (13 + 2)), .int (nI (sTn d k 2))])) := by rw [ew_8, hp_set_ne (hp_ne_c (by decide) a7 hn)]; exact a7
  have a8 : w_8 (mAd ms k (5 + 3)) = some (.inr (2, [.ref (mAd ms k (9 + 3)), .ref (mAd ms k (13 + 3)), .int (nI (sTn d k 3))])) := by rw [ew_8, hp_set_ne (hp_ne_c (by decide) a8 hn)]; exact a8
  have hta : w_8 (mAd ms k 2) = some (.inl (G.2.2.1 5, 4, .inr (.inr (.inr (.inr (trF ms k)))))) := by rw [ew_8, hp_set_ne (hp_ne_ao hta hn)]; exact hta
  have a9 : w_8 (mAd ms k (9 + 0)) = some (.inl (G.2.2.1 1, 4, .inr (.inr (.inr (.inl (sTt d k 0)))))) := by rw [ew_8, hp_set_ne (hp_ne_ao a9 hn)]; exact a9
  have a13 : w_8 (mAd ms k (13 + 0)) = some (.inl (G.2.2.1 1, 4, .inr (.inr (.inr (.inl (sTv d k 0)))))) := by rw [ew_8, hp_set_ne (hp_ne_ao a13 hn)]; exact a13
  have a10 : w_8 (mAd ms k (9 + 1)) = some (.inl (G.2.2.1 1, 4, .inr (.inr (.inr (.inl (sTt d k 1)))))) := by rw [ew_8, hp_set_ne (hp_ne_ao a10 hn)]; exact a10
  have a14 : w_8 (mAd ms k (13 + 1)) = some (.inl (G.2.2.1 1, 4, .inr (.inr (.inr (.inl (sTv d k 1)))))) := by rw [ew_8, hp_set_ne (hp_ne_ao a14 hn)]; exact a14
  have a11 : w_8 (mAd ms k (9 + 2)) = some (.inl (G.2.2.1 1, 4, .inr (.inr (.inr (.inl (sTt d k 2)))))) := by rw [ew_8, hp_set_ne (hp_ne_ao a11 hn)]; exact a11
  have a15 : w_8 (mAd ms k (13 + 2)) = some (.inl (G.2.2.1 1, 4, .inr (.inr (.inr (.inl (sTv d k 2)))))) := by rw [ew_8, hp_set_ne (hp_ne_ao a15 hn)]; exact a15
  have a12 : w_8 (mAd ms k (9 + 3)) = some (.inl (G.2.2.1 1, 4, .inr (.inr (.inr (.inl (sTt d k 3)))))) := by rw [ew_8, hp_set_ne (hp_ne_ao a12 hn)]; exact a12
  have a16 : w_8 (mAd ms k (13 + 3)) = some (.inl (G.2.2.1 1, 4, .inr (.inr (.inr (.inl (sTv d k 3)))))) := by rw [ew_8, hp_set_ne (hp_ne_ao a16 hn)]; exact a16
  have hn : w_8 (mAd ms k 0) = some (.inr (1, [.int (nI k), .int (sNi d k 0), .int (sNi d k 1), .ref (mAd ms k 1), .ref (mAd ms k 2), .ref (mAd ms k 3), va_rf (pAd ms d k), .int (sNi d k 2), .double (sNd d k 0), .double (sNd d k 1), .double (sNd d k 2), .double (sNd d k 3), .int (sNi d k 3), .int (sNi d k 4), .int (sNi d k 5), .double (sNd d k 4), .double g0, .double g1, .int (FP.d2i g2), .int (FP.d2i g3)])) := by rw [ew_8]; exact hp_set_eq _ _ _
  have m0 : mNx (msN ms d u k) k 0 = vX d u k 0 := by simp [msN, mNx]
  have m1 : mNx (msN ms d u k) k 1 = vX d u k 1 := by simp [msN, mNx]
  have m2 : mNi (msN ms d u k) k 0 = vS d u k := by simp [msN, mNi]
  have m3 : mNi (msN ms d u k) k 1 = vC d u k := by simp [msN, mNi]
  exact W.vret hx hb hr (fun t ht hW => ⟨⟨w_8, rfl, by rw [ew_8, ew_6, ew_4, ew_2, hp_set_set, hp_set_set, hp_set_set]; unfold nC; rw [m0, m1, m2, m3, eg0, eg1, eg2, eg3]; rfl, eWo ht hI⟩, hS.F ht⟩) hS.2.2 d_No_settleAt_76

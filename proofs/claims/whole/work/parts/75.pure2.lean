/-! what the calls keep: key frames, nodes -/
theorem kAt_sp (ft : Nat → UInt64) (u : UInt64) : ∀ n, (∀ j, j < kAt ft u n → FP.dcmp (ft j) u = some .lt) ∧ (kAt ft u n < n → ¬ FP.dcmp (ft (kAt ft u n)) u = some .lt)
  | 0 => ⟨fun j h => absurd h (Nat.not_lt_zero j), fun h => absurd h (Nat.lt_irrefl 0)⟩
  | n + 1 => by
    obtain ⟨h1, h2⟩ := kAt_sp ft u n
    have hle := kAt_le ft u n
    unfold kAt
    by_cases hc : kAt ft u n = n ∧ FP.dcmp (ft n) u = some .lt
    · rw [if_pos hc]
      refine ⟨fun j hj => ?_, fun h => absurd h (Nat.lt_irrefl _)⟩
      rcases Nat.lt_or_ge j n with q | q
      · exact h1 j (by omega)
      · rw [show j = n by omega]; exact hc.2
    · rw [if_neg hc]
      refine ⟨h1, fun h => ?_⟩
      rcases Nat.lt_or_ge (kAt ft u n) n with q | q
      · exact h2 q
      · intro e
        have e' : kAt ft u n = n := by omega
        rw [e'] at e
        exact hc ⟨e', e⟩
theorem tk_same {ft fv : Nat → UInt64} {n : Nat} {u v : UInt64} {U V' : Int} (h : tkOk ft fv n) (hu : fx 3 U u) (hU : 0 ≤ U ∧ U ≤ 8000) (hv : fx 3 V' v) (hV : V'.natAbs ≤ 800) (hs : kSame ft n u) : tkOk (vf_upd ft (kAt ft u n) u) (vf_upd fv (kAt ft u n) v) n := by
  obtain ⟨T, V, h1, h2⟩ := h
  have hat := hs.1
  have heq := (fx_eq (h1 _ hat).1 hu).mp hs.2
  obtain ⟨a, ea⟩ : ∃ a, a = kAt ft u n := ⟨_, rfl⟩
  rw [← ea] at hat heq ⊢
  refine ⟨T, fset V a V', fun j hj => ?_, h2⟩
  obtain ⟨q1, q2, q3, q4, q5⟩ := h1 j hj
  by_cases e : j = a
  · subst e
    rw [vup_y, vup_y, fset_eq, heq]
    exact ⟨hu, hU.1, hU.2, hv, hV⟩
  · rw [vup_n e, vup_n e, fset_ne e]
    exact ⟨q1, q2, q3, q4, q5⟩
theorem tk_new {ft fv : Nat → UInt64} {n : Nat} {u v : UInt64} {U V' : Int} (h : tkOk ft fv n) (hu : fx 3 U u) (hU : 0 ≤ U ∧ U ≤ 8000) (hv : fx 3 V' v) (hV : V'.natAbs ≤ 800) (hs : ¬ kSame ft n u) : tkOk (vf_upd (kSh ft (kAt ft u n) n) (kAt ft u n) u) (vf_upd (kSh fv (kAt ft u n) n) (kAt ft u n) v) (n + 1) := by
  obtain ⟨T, V, h1, h2⟩ := h
  obtain ⟨s1, s2⟩ := kAt_sp ft u n
  have hle := kAt_le ft u n
  have hs : kAt ft u n < n → ¬ FP.dcmp (ft (kAt ft u n)) u = some .eq := fun q e => hs ⟨q, e⟩
  obtain ⟨a, ea⟩ : ∃ a, a = kAt ft u n := ⟨_, rfl⟩
  rw [← ea] at s1 s2 hle hs ⊢
  have t1 : ∀ j, j < a → T j < U := fun j hj => (fx_lt (h1 j (by omega)).1 hu).mp (s1 j hj)
  have t2 : a < n → U < T a := fun ha => by
    have q1 : ¬ T a < U := fun q => s2 ha ((fx_lt (h1 a ha).1 hu).mpr q)
    have q2 : ¬ T a = U := fun q => hs ha ((fx_eq (h1 a ha).1 hu).mpr q)
    omega
  refine ⟨fun j => if j = a then U else if a < j then T (j - 1) else T j, fun j => if j = a then V' else if a < j then V (j - 1) else V j, fun j hj => ?_, fun j hj => ?_⟩
  · dsimp only
    by_cases e : j = a
    · rw [if_pos e, if_pos e, e, vup_y, vup_y]
      exact ⟨hu, hU.1, hU.2, hv, hV⟩
    · rw [if_neg e, if_neg e, vup_n e, vup_n e]
      unfold kSh
      by_cases q : a < j
      · rw [if_pos q, if_pos q, if_pos (by omega), if_pos (by omega)]
        exact h1 (j - 1) (by omega)
      · rw [if_neg q, if_neg q, if_neg (by omega), if_neg (by omega)]
        exact h1 j (by omega)
  · dsimp only
    by_cases e : j = a
    · rw [if_pos e, if_neg (by omega), if_pos (by omega), e, show a + 1 - 1 = a by omega]
      exact t2 (by omega)
    · rw [if_neg e]
      by_cases q : a < j
      · rw [if_pos q, if_neg (by omega), if_pos (by omega)]
        have := h2 (j - 1) (by omega)
        rw [show j - 1 + 1 = j by omega] at this
        rw [show j + 1 - 1 = j by omega]
        exact this
      · rw [if_neg q]
        by_cases e2 : j + 1 = a
        · rw [if_pos e2]; exact t1 j (by omega)
        · rw [if_neg e2, if_neg (by omega)]
          exact h2 j (by omega)
theorem fv_same {fv : Nat → UInt64} {n a : Nat} {v : UInt64} {P : UInt64 → Prop} (h : ∀ j, j < n → P (fv j)) (hv : P v) : ∀ j, j < n → P (vf_upd fv a v j) := by
  intro j hj
  by_cases e : j = a
  · rw [e, vup_y]; exact hv
  · rw [vup_n e]; exact h j hj
theorem fv_new {fv : Nat → UInt64} {n a : Nat} {v : UInt64} {P : UInt64 → Prop} (ha : a ≤ n) (h : ∀ j, j < n → P (fv j)) (hv : P v) : ∀ j, j < n + 1 → P (vf_upd (kSh fv a n) a v j) := by
  intro j hj
  by_cases e : j = a
  · rw [e, vup_y]; exact hv
  · rw [vup_n e]
    unfold kSh
    by_cases q : a < j
    · rw [if_pos (by omega)]; exact h (j - 1) (by omega)
    · rw [if_neg (by omega)]; exact h j (by omega)
theorem dT3 {d : DS} {k i n j r : Nat} {F V : Nat → UInt64} : sTn (dTn (dTv (dTt d k i F) k i V) k i n) j r = (if j = k ∧ r = i then n else sTn d j r) ∧ sTt (dTn (dTv (dTt d k i F) k i V) k i n) j r = (if j = k ∧ r = i then F else sTt d j r) ∧ sTv (dTn (dTv (dTt d k i F) k i V) k i n) j r = (if j = k ∧ r = i then V else sTv d j r) := ⟨rfl, rfl, rfl⟩
theorem dT2 {d : DS} {k i j r : Nat} {F V : Nat → UInt64} : sTn (dTv (dTt d k i F) k i V) j r = sTn d j r ∧ sTt (dTv (dTt d k i F) k i V) j r = (if j = k ∧ r = i then F else sTt d j r) ∧ sTv (dTv (dTt d k i F) k i V) j r = (if j = k ∧ r = i then V else sTv d j r) := ⟨rfl, rfl, rfl⟩
theorem vOk.t3 {d : DS} (h : vOk d) {k i n : Nat} {F V : Nat → UInt64} (hk : k < 14) (ht : sTh d k = true) (hT : tkOk F V n) (h2 : i = 2 → ∀ j, j < n → ∃ s, s5 s ∧ fx 0 s.toInt (V j)) (h3 : i = 3 → ∀ j, j < n → ∃ c, c15' c ∧ fx 0 c.toInt (V j)) : vOk (dTn (dTv (dTt d k i F) k i V) k i n) := by
  intro j hj hjt
  obtain ⟨a0, a1, a2, a3, a4, a5, b0, b1, b2, b3, b4, c1, c2, c3⟩ := h j hj hjt
  refine ⟨a0, a1, a2, a3, a4, a5, b0, b1, b2, b3, b4, fun r hr => ?_, fun m hm => ?_, fun m hm => ?_⟩
  · rw [dT3.1, dT3.2.1, dT3.2.2]
    by_cases q : j = k ∧ r = i
    · rw [if_pos q, if_pos q, if_pos q]; exact hT
    · rw [if_neg q, if_neg q, if_neg q]; exact c1 r hr
  · rw [dT3.1] at hm
    rw [dT3.2.2]
    by_cases q : j = k ∧ 2 = i
    · rw [if_pos q] at hm ⊢; exact h2 q.2.symm m hm
    · rw [if_neg q] at hm ⊢; exact c2 m hm
  · rw [dT3.1] at hm
    rw [dT3.2.2]
    by_cases q : j = k ∧ 3 = i
    · rw [if_pos q] at hm ⊢; exact h3 q.2.symm m hm
    · rw [if_neg q] at hm ⊢; exact c3 m hm
theorem vOk.t2 {d : DS} (h : vOk d) {k i : Nat} {F V : Nat → UInt64} (hk : k < 14) (ht : sTh d k = true) (hT : tkOk F V (sTn d k i)) (h2 : i = 2 → ∀ j, j < sTn d k i → ∃ s, s5 s ∧ fx 0 s.toInt (V j)) (h3 : i = 3 → ∀ j, j < sTn d k i → ∃ c, c15' c ∧ fx 0 c.toInt (V j)) : vOk (dTv (dTt d k i F) k i V) := by
  intro j hj hjt
  obtain ⟨a0, a1, a2, a3, a4, a5, b0, b1, b2, b3, b4, c1, c2, c3⟩ := h j hj hjt
  refine ⟨a0, a1, a2, a3, a4, a5, b0, b1, b2, b3, b4, fun r hr => ?_, fun m hm => ?_, fun m hm => ?_⟩
  · rw [dT2.1, dT2.2.1, dT2.2.2]
    by_cases q : j = k ∧ r = i
    · rw [if_pos q, if_pos q, q.1, q.2]; exact hT
    · rw [if_neg q, if_neg q]; exact c1 r hr
  · rw [dT2.1] at hm
    rw [dT2.2.2]
    by_cases q : j = k ∧ 2 = i
    · rw [if_pos q]; exact h2 q.2.symm m (by rw [← q.2, ← q.1]; exact hm)
    · rw [if_neg q]; exact c2 m hm
  · rw [dT2.1] at hm
    rw [dT2.2.2]
    by_cases q : j = k ∧ 3 = i
    · rw [if_pos q]; exact h3 q.2.symm m (by rw [← q.2, ← q.1]; exact hm)
    · rw [if_neg q]; exact c3 m hm
theorem vOk.key {d : DS} (h : vOk d) {k i : Nat} (hk : k < 14) (ht : sTh d k = true) (hi : i < 4) {u v : UInt64} {U V' : Int} (hu : fx 3 U u) (hU : 0 ≤ U ∧ U ≤ 8000) (hv : fx 3 V' v) (hV : V'.natAbs ≤ 800) (h2 : i = 2 → ∃ s, s5 s ∧ fx 0 s.toInt v) (h3 : i = 3 → ∃ c, c15' c ∧ fx 0 c.toInt v) : vOk (dKey d k i u v) := by
  obtain ⟨-, -, -, -, -, -, -, -, -, -, -, c1, c2, c3⟩ := h k hk ht
  have hle := kAt_le (sTt d k i) u (sTn d k i)
  rcases Classical.em (kSame (sTt d k i) (sTn d k i) u) with hs | hs
  · rw [dKey_y hs]
    refine h.t2 hk ht (tk_same (c1 i hi) hu hU hv hV hs) (fun e => ?_) (fun e => ?_)
    · exact fv_same (P := fun z => ∃ s, s5 s ∧ fx 0 s.toInt z) (by rw [e]; exact c2) (h2 e)
    · exact fv_same (P := fun z => ∃ c, c15' c ∧ fx 0 c.toInt z) (by rw [e]; exact c3) (h3 e)
  · rw [dKey_n hs]
    refine h.t3 hk ht (tk_new (c1 i hi) hu hU hv hV hs) (fun e => ?_) (fun e => ?_)
    · exact fv_new (P := fun z => ∃ s, s5 s ∧ fx 0 s.toInt z) hle (by rw [e]; exact c2) (h2 e)
    · exact fv_new (P := fun z => ∃ c, c15' c ∧ fx 0 c.toInt z) hle (by rw [e]; exact c3) (h3 e)
theorem tk_0 (ft fv : Nat → UInt64) : tkOk ft fv 0 := ⟨fun _ => 0, fun _ => 0, fun j h => absurd h (Nat.not_lt_zero j), fun j h => absurd h (by omega)⟩
theorem vOk.unkey {d : DS} (h : vOk d) (k i : Nat) : vOk (dTn d k i 0) := by
  intro j hj hjt
  obtain ⟨a0, a1, a2, a3, a4, a5, b0, b1, b2, b3, b4, c1, c2, c3⟩ := h j hj hjt
  refine ⟨a0, a1, a2, a3, a4, a5, b0, b1, b2, b3, b4, fun r hr => ?_, fun m hm => ?_, fun m hm => ?_⟩
  · by_cases q : j = k ∧ r = i
    · obtain ⟨rfl, rfl⟩ := q
      rw [dTn_y]; exact tk_0 _ _
    · rw [dTn_n q]; exact c1 r hr
  · by_cases q : j = k ∧ 2 = i
    · obtain ⟨rfl, rfl⟩ := q
      rw [dTn_y] at hm; exact absurd hm (Nat.not_lt_zero m)
    · rw [dTn_n q] at hm; exact c2 m hm
  · by_cases q : j = k ∧ 3 = i
    · obtain ⟨rfl, rfl⟩ := q
      rw [dTn_y] at hm; exact absurd hm (Nat.not_lt_zero m)
    · rw [dTn_n q] at hm; exact c3 m hm
theorem ln_1 : lnO FP.dconst1 := ⟨8, by have := fx_up 3 fx_c1; exact this, by decide, by decide⟩
theorem sp_1 : spO FP.dconst1 := ⟨8, by have := fx_up 3 fx_c1; exact this, by decide, by decide⟩
theorem pl_0 : plO FP.dconst0 := ⟨0, fx_c0 3, by decide⟩
theorem vOk.node {d : DS} (h : vOk d) {n g : Nat} {kd co : Int32} (hkd : 0 ≤ kd ∧ kd ≤ 3) (hco : 1 ≤ co ∧ co ≤ 15) : vOk (dNode d n g kd co) := by
  intro j hj hjt
  by_cases e : j = n
  · subst e
    have a1 : sNi (dNode d j g kd co) j = fun r => if r = 0 then kd else if r = 1 then co else 0 := fset_eq _ _ _
    have a2 : sNd (dNode d j g kd co) j = fun r => if r = 2 ∨ r = 3 then FP.dconst0 else FP.dconst1 := fset_eq _ _ _
    have a3 : sTn (dNode d j g kd co) j = fun _ => 0 := fset_eq _ _ _
    unfold vOk1
    rw [a1, a2, a3]
    obtain ⟨c, c1, c2⟩ := i32_4 hkd
    obtain ⟨m, m1, m2⟩ := nI_of2 (M := 15) (n := 15) (by decide) (Int32.not_lt.mpr (Int32.le_trans (by decide) hco.1)) hco.2
    refine ⟨⟨c, c1, c2⟩, ⟨m, ?_, m1, m2⟩, Or.inl rfl, ⟨0, by decide, rfl⟩, Or.inr (Or.inr (Or.inl rfl)), ⟨0, by decide, rfl⟩, ln_1, ln_1, pl_0, pl_0, sp_1, fun i _ => tk_0 _ _, fun j h => absurd h (Nat.not_lt_zero j), fun j h => absurd h (Nat.not_lt_zero j)⟩
    have := hco.1
    rw [m2] at this
    exact (nI_leI (a := 1) (b := m) (by decide) (by omega)).mp this
  · rw [dNode_t, if_neg e] at hjt
    have := h j hj hjt
    unfold vOk1 at this ⊢
    rw [show sNi (dNode d n g kd co) j = sNi d j from fset_ne e, show sNd (dNode d n g kd co) j = sNd d j from fset_ne e, show sTn (dNode d n g kd co) j = sTn d j from fset_ne e, show sTt (dNode d n g kd co) j = sTt d j from fset_ne e, show sTv (dNode d n g kd co) j = sTv d j from fset_ne e]
    exact this
theorem vOk.into {d : DS} (h : vOk d) {k gp g : Nat} : vOk (dInto d k gp g) := h
theorem vOk.rem {d : DS} (h : vOk d) {k gp : Nat} : vOk (dRem d k gp) := fun j hj hjt => h j hj (dRem_t.mp hjt).1
theorem v0_ok : vOk d0 := by
  intro k hk ht
  exact ⟨⟨0, by decide, rfl⟩, ⟨1, by decide, by decide, rfl⟩, Or.inl rfl, ⟨0, by decide, rfl⟩, Or.inr (Or.inr (Or.inl rfl)), ⟨0, by decide, rfl⟩, ln_1, ln_1, pl_0, pl_0, sp_1, fun i _ => tk_0 _ _, fun j h => absurd h (Nat.not_lt_zero j), fun j h => absurd h (Nat.not_lt_zero j)⟩
theorem fl_3 {s : Int32} (hb : s.toInt.natAbs ≤ 1000) : fx 0 (s.toInt / 8) (fx_mfl (sD s)) := by
  have hs := sD_fx s
  have hbd := fx_bnd (b := 125) hs (by rw [show (2 : Nat) ^ 3 = 8 from rfl]; omega)
  rw [fx_mfl_eq hs.1 hbd (by decide)]
  have hsp := fx_fl_spec hs.1 (Nat.lt_of_le_of_lt hbd (Nat.mul_lt_mul_of_pos_right (by decide) FP.Core.one64_pos))
  have e := hs.2
  rw [show ((2 ^ 3 : Nat) : Int) = 8 from rfl] at e
  have hP := fx_one
  have : FP.Core.zval FP.Core.b64 (FP.Core.val64 (sD s)) / (FP.Core.one64 : Int) = s.toInt / 8 := by
    generalize FP.Core.zval FP.Core.b64 (FP.Core.val64 (sD s)) = z at e ⊢
    generalize (FP.Core.one64 : Int) = P at e hP ⊢
    refine fx_ediv hP ?_ ?_
    · have h1 : s.toInt / 8 * 8 ≤ s.toInt := by omega
      have h2 : s.toInt / 8 * 8 * P ≤ s.toInt * P := Int.mul_le_mul_of_nonneg_right h1 (Int.le_of_lt hP)
      rw [← e, Int.mul_right_comm] at h2
      omega
    · have h1 : s.toInt < (s.toInt / 8 + 1) * 8 := by omega
      have h2 : s.toInt * P < (s.toInt / 8 + 1) * 8 * P := Int.mul_lt_mul_of_pos_right h1 hP
      rw [← e, Int.mul_right_comm] at h2
      omega
  rw [this] at hsp
  exact hsp
theorem fl_eq {s : Int32} (hb : s.toInt.natAbs ≤ 1000) : FP.dcmp (sD s) (fx_mfl (sD s)) = some .eq ↔ s.toInt % 8 = 0 := by
  have h := fx_up 3 (fl_3 hb)
  rw [Nat.zero_add, show ((2 ^ 3 : Nat) : Int) = 8 from rfl] at h
  rw [fx_eq (sD_fx s) h]
  omega
theorem wh_eq {s : Int32} (hb : s.toInt.natAbs ≤ 1000) : dWhole (sD s) 1 ↔ s.toInt % 8 = 0 := by
  unfold dWhole
  have h := fx_mul (j := 3) (k := 0) (by decide) (sD_fx s) (fx_i2d 1) (by rw [show (1 : Int32).toInt = 1 from by decide, Int.mul_one]; omega)
  rw [show (1 : Int32).toInt = 1 from by decide, Int.mul_one] at h
  have h : fx 3 s.toInt (FP.dmul (sD s) (FP.i2d 1)) := h
  have hd := fx_d2i h (by omega)
  have hi := fx_up 3 (fx_i2d (FP.d2i (FP.dmul (sD s) (FP.i2d 1))))
  rw [hd, Nat.zero_add, show ((2 ^ 3 : Nat) : Int) = 8 from rfl] at hi
  rw [fx_eq h hi]
  constructor
  · intro e
    have : (8 : Int) ∣ s.toInt := ⟨s.toInt.tdiv 8, by rw [Int.mul_comm]; exact e⟩
    omega
  · intro e
    exact (Int.tdiv_mul_cancel (Int.dvd_of_emod_eq_zero e)).symm
theorem in_rg {s a b : Int32} {xa xb : UInt64} (ea : FP.i2d a = xa) (eb : FP.i2d b = xb) (h : dge (sD s) xa ∧ dle (sD s) xb) : a.toInt * 8 ≤ s.toInt ∧ s.toInt ≤ b.toInt * 8 := ⟨(fx_ge (sD_fx s) (fx3_of a xa ea)).mp h.1, (fx_le (sD_fx s) (fx3_of b xb eb)).mp h.2⟩
theorem inV_i (i : Nat) (hi : i < 4) (s : Int32) : inV i (sD s) ↔ mFit i (sD s) := by
  unfold inV mFit
  rcases (show i = 0 ∨ i = 1 ∨ i = 2 ∨ i = 3 by omega) with rfl | rfl | rfl | rfl
  · exact ⟨fun h => Or.inl ⟨by decide, dIn_iff.mpr ((inP_i s).mp (h.2.2 (by decide) (by decide)))⟩, fun h => ⟨fun e => absurd e (by decide), fun e => absurd e (by decide), fun _ _ => (inP_i s).mpr (h.elim (fun h => dIn_iff.mp h.2) (fun h => absurd h.1 (by decide)))⟩⟩
  · exact ⟨fun h => Or.inl ⟨by decide, dIn_iff.mpr ((inP_i s).mp (h.2.2 (by decide) (by decide)))⟩, fun h => ⟨fun e => absurd e (by decide), fun e => absurd e (by decide), fun _ _ => (inP_i s).mpr (h.elim (fun h => dIn_iff.mp h.2) (fun h => absurd h.1 (by decide)))⟩⟩
  · have key : dge (sD s) cm2 ∧ dle (sD s) c2 → s.toInt.natAbs ≤ 1000 := fun h => by
      have := in_rg (a := -2) (b := 2) (by decide +kernel) (by decide +kernel) h
      rw [show (-2 : Int32).toInt = -2 from by decide, show (2 : Int32).toInt = 2 from by decide] at this
      omega
    constructor
    · intro h
      obtain ⟨h1, h2⟩ := h.1 rfl
      exact Or.inr ⟨by decide, (fl_eq (key h1)).mpr ((wh_eq (key h1)).mp h2), fun _ => dIn_iff.mpr h1, fun e => absurd e (by decide)⟩
    · intro h
      rcases h with h | h
      · exact absurd h.1 (by decide)
      · have h1 := dIn_iff.mp (h.2.2.1 rfl)
        exact ⟨fun _ => ⟨h1, (wh_eq (key h1)).mpr ((fl_eq (key h1)).mp h.2.1)⟩, fun e => absurd e (by decide), fun e => absurd rfl e⟩
  · have key : dge (sD s) FP.dconst1 ∧ dle (sD s) c15 → s.toInt.natAbs ≤ 1000 := fun h => by
      have := in_rg (a := 1) (b := 15) (by decide +kernel) (by decide +kernel) h
      rw [show (1 : Int32).toInt = 1 from by decide, show (15 : Int32).toInt = 15 from by decide] at this
      omega
    constructor
    · intro h
      obtain ⟨h1, h2⟩ := h.2.1 rfl
      exact Or.inr ⟨by decide, (fl_eq (key h1)).mpr ((wh_eq (key h1)).mp h2), fun e => absurd e (by decide), fun _ => dIn_iff.mpr h1⟩
    · intro h
      rcases h with h | h
      · exact absurd h.1 (by decide)
      · have h1 := dIn_iff.mp (h.2.2.2 rfl)
        exact ⟨fun e => absurd e (by decide), fun _ => ⟨h1, (wh_eq (key h1)).mpr ((fl_eq (key h1)).mp h.2.1)⟩, fun _ e => absurd rfl e⟩
theorem okK_i {d : DS} {n pr : Int32} {a b : Int32} {k i : Nat} : okKey d n pr (sD a) (sD b) k i ↔ mOkK d n pr (sD a) (sD b) k i := by
  unfold okKey mOkK
  constructor
  · rintro ⟨h1, h2, h3, h4, h5, h6, h7, h8⟩
    exact ⟨h1, h2, h3, h4, h5, h6, dIn_iff.mpr h7, (inV_i i h5 b).mp h8⟩
  · rintro ⟨h1, h2, h3, h4, h5, h6, h7, h8⟩
    exact ⟨h1, h2, h3, h4, h5, h6, dIn_iff.mp h7, (inV_i i h5 b).mpr h8⟩
theorem vOk.keyS {d : DS} (h : vOk d) {n pr a b : Int32} {k i : Nat} (hok : okKey d n pr (sD a) (sD b) k i) : vOk (dKey d k i (sD a) (sD b)) := by
  obtain ⟨hk, -, ht, -, hi, -, hT, hV⟩ := hok
  have hU : 0 ≤ a.toInt ∧ a.toInt ≤ 8000 := ⟨(fx_ge (sD_fx a) (fx_c0 3)).mp hT.1, (fx_le (sD_fx a) fx_1000).mp hT.2⟩
  have hw : ∀ {lo hi : Int32} {xa xb : UInt64}, FP.i2d lo = xa → FP.i2d hi = xb → (dge (sD b) xa ∧ dle (sD b) xb) → lo.toInt * 8 ≤ b.toInt ∧ b.toInt ≤ hi.toInt * 8 := fun e1 e2 h => in_rg e1 e2 h
  have v2 : i = 2 → b.toInt % 8 = 0 ∧ -16 ≤ b.toInt ∧ b.toInt ≤ 16 := fun e => by
    obtain ⟨h1, h2⟩ := hV.1 e
    have := hw (lo := -2) (hi := 2) (by decide +kernel) (by decide +kernel) h1
    rw [show (-2 : Int32).toInt = -2 from by decide, show (2 : Int32).toInt = 2 from by decide] at this
    exact ⟨(wh_eq (by omega)).mp h2, by omega, by omega⟩
  have v3 : i = 3 → b.toInt % 8 = 0 ∧ 8 ≤ b.toInt ∧ b.toInt ≤ 120 := fun e => by
    obtain ⟨h1, h2⟩ := hV.2.1 e
    have := hw (lo := 1) (hi := 15) (by decide +kernel) (by decide +kernel) h1
    rw [show (1 : Int32).toInt = 1 from by decide, show (15 : Int32).toInt = 15 from by decide] at this
    exact ⟨(wh_eq (by omega)).mp h2, by omega, by omega⟩
  have hVb : b.toInt.natAbs ≤ 800 := by
    rcases (show i = 2 ∨ i = 3 ∨ (i ≠ 2 ∧ i ≠ 3) by omega) with e | e | e
    · have := v2 e; omega
    · have := v3 e; omega
    · exact rg_100 (hV.2.2 e.1 e.2).1
  have dn : ∀ m : Int, b.toInt = m * 8 → fx 0 m (sD b) := fun m e => fx_dn 3 (by rw [show ((2 ^ 3 : Nat) : Int) = 8 from rfl, ← e]; exact sD_fx b)
  refine h.key hk ht hi (sD_fx a) hU (sD_fx b) hVb (fun e => ?_) (fun e => ?_)
  · obtain ⟨e1, e2, e3⟩ := v2 e
    rcases (show b.toInt = -2 * 8 ∨ b.toInt = -1 * 8 ∨ b.toInt = 0 * 8 ∨ b.toInt = 1 * 8 ∨ b.toInt = 2 * 8 by omega) with q | q | q | q | q
    · exact ⟨-2, Or.inl rfl, dn _ q⟩
    · exact ⟨-1, Or.inr (Or.inl rfl), dn _ q⟩
    · exact ⟨0, Or.inr (Or.inr (Or.inl rfl)), dn _ q⟩
    · exact ⟨1, Or.inr (Or.inr (Or.inr (Or.inl rfl))), dn _ q⟩
    · exact ⟨2, Or.inr (Or.inr (Or.inr (Or.inr rfl))), dn _ q⟩
  · obtain ⟨e1, e2, e3⟩ := v3 e
    obtain ⟨m, hm⟩ : ∃ m : Nat, (m : Int) = b.toInt / 8 := ⟨(b.toInt / 8).toNat, by omega⟩
    refine ⟨nI m, ⟨m, by omega, by omega, rfl⟩, ?_⟩
    have e9 : (nI m).toInt = (m : Int) := nI_toInt (by omega)
    rw [e9]
    exact dn _ (by omega)

/-! points in nodes: bounds -/
def Br : Nat → Nat
  | 0 => 2600
  | 1 => 23600
  | 2 => 191600
  | 3 => 1535600
  | 4 => 12287600
  | _ => 98303600
def Pr : Nat → Nat
  | 0 => 1000
  | 1 => 11600
  | 2 => 95600
  | 3 => 767600
  | 4 => 6143600
  | _ => 49151600
/-- a point in a node at a depth: as it is used there; as it comes there -/
def pOk (g : Nat) (a : UInt64) : Prop := ∃ n : Int, fx (6 + 2 * g) n a ∧ n.natAbs ≤ Br g * 2 ^ (6 + 2 * g)
def pR (g : Nat) (a : UInt64) : Prop := ∃ n : Int, fx (6 + 2 * g) n a ∧ n.natAbs ≤ Pr g * 2 ^ (6 + 2 * g)
def dO (g : Nat) (a : UInt64) : Prop := ∃ n : Int, fx (6 + 2 * g) n a ∧ n.natAbs ≤ (Br g + 300) * 2 ^ (6 + 2 * g)
def nxO (x : UInt64) : Prop := ∃ N : Int, N.natAbs ≤ 19200 ∧ fx 6 N x
theorem pR.ok {g : Nat} (hg : g ≤ 5) {a : UInt64} (h : pR g a) : pOk g a := by
  obtain ⟨n, h1, h2⟩ := h
  refine ⟨n, h1, Nat.le_trans h2 (Nat.mul_le_mul_right _ ?_)⟩
  rcases (show g = 0 ∨ g = 1 ∨ g = 2 ∨ g = 3 ∨ g = 4 ∨ g = 5 by omega) with rfl | rfl | rfl | rfl | rfl | rfl <;> decide
theorem pOk.nn {g : Nat} {a : UInt64} (h : pOk g a) : vf_n64 a := by
  obtain ⟨n, h1, -⟩ := h
  exact h1.nn
theorem dO.nn {g : Nat} {a : UInt64} (h : dO g a) : vf_n64 a := by
  obtain ⟨n, h1, -⟩ := h
  exact h1.nn
theorem pR.fin {g : Nat} {a : UInt64} (h : pR g a) : FP.Core.DFin a := by
  obtain ⟨n, h1, -⟩ := h
  exact h1.1
theorem dO.fin {g : Nat} {a : UInt64} (h : dO g a) : FP.Core.DFin a := by
  obtain ⟨n, h1, -⟩ := h
  exact h1.1
theorem pOk.sub {g : Nat} (hg : g ≤ 5) {a x : UInt64} (ha : pOk g a) (hx : nxO x) : dO g (FP.dsub a x) := by
  obtain ⟨n, h1, h2⟩ := ha
  obtain ⟨N, h3, h4⟩ := hx
  have h5 := fx_up (2 * g) h4
  have hb : (n - N * ((2 ^ (2 * g) : Nat) : Int)).natAbs ≤ (Br g + 300) * 2 ^ (6 + 2 * g) ∧ (Br g + 300) * 2 ^ (6 + 2 * g) < 2 ^ 53 := by
    rcases (show g = 0 ∨ g = 1 ∨ g = 2 ∨ g = 3 ∨ g = 4 ∨ g = 5 by omega) with rfl | rfl | rfl | rfl | rfl | rfl <;> simp only [Br, Nat.reduceMul, Nat.reduceAdd, Nat.reducePow] at h2 ⊢ <;> omega
  exact ⟨_, fx_sub (by omega) h1 h5 (by omega), hb.1⟩
theorem dO.neg {g : Nat} {a : UInt64} (h : dO g a) : dO g (FP.dneg a) := by
  obtain ⟨n, h1, h2⟩ := h
  exact ⟨-n, fx_neg h1, by rw [Int.natAbs_neg]; exact h2⟩
theorem pw2_fx {s : Int32} (h : s5 s) : ∃ v : Int, 1 ≤ v ∧ v ≤ 16 ∧ fx 2 v (pw2 (-s)) := by
  have hd : ∀ (i : Int32) (x : UInt64), FP.dmul (FP.i2d i) 4598175219545276416 = x → fx 2 i.toInt x := by
    intro i x hx
    rw [← hx]
    have h4 : fx 2 1 4598175219545276416 := by
      have := fx_div (u := 2) (N := 1) (by decide) (fx_i2d 1) (fx_i2d 4) (by decide) (by decide) (by decide)
      have e : FP.ddiv (FP.i2d 1) (FP.i2d 4) = 4598175219545276416 := by decide +kernel
      rw [e] at this
      exact this
    have := fx_mul (by decide) (fx_i2d i) h4 (by have := i.toInt_lt; have := i.le_toInt; omega)
    rw [Int.mul_one] at this
    exact this
  rcases h with rfl | rfl | rfl | rfl | rfl
  · exact ⟨16, by decide, by decide, hd 16 _ (by decide +kernel)⟩
  · exact ⟨8, by decide, by decide, hd 8 _ (by decide +kernel)⟩
  · exact ⟨4, by decide, by decide, hd 4 _ (by decide +kernel)⟩
  · exact ⟨2, by decide, by decide, hd 2 _ (by decide +kernel)⟩
  · exact ⟨1, by decide, by decide, hd 1 _ (by decide +kernel)⟩
theorem dO.mul {g : Nat} (hg : g ≤ 4) {a : UInt64} (h : dO g a) {s : Int32} (hs : s5 s) : pR (g + 1) (FP.dmul a (pw2 (-s))) := by
  obtain ⟨n, h1, h2⟩ := h
  obtain ⟨v, v1, v2, h3⟩ := pw2_fx hs
  have hm : (n * v).natAbs ≤ n.natAbs * 16 := by
    rw [Int.natAbs_mul]
    exact Nat.mul_le_mul_left _ (by omega)
  have hb : (n * v).natAbs ≤ Pr (g + 1) * 2 ^ (6 + 2 * (g + 1)) ∧ Pr (g + 1) * 2 ^ (6 + 2 * (g + 1)) < 2 ^ 53 := by
    generalize (n * v).natAbs = z at hm ⊢
    rcases (show g = 0 ∨ g = 1 ∨ g = 2 ∨ g = 3 ∨ g = 4 by omega) with rfl | rfl | rfl | rfl | rfl <;> simp only [Br, Pr, Nat.reduceMul, Nat.reduceAdd, Nat.reducePow] at h2 ⊢ <;> omega
  have h4 := fx_mul (by omega) h1 h3 (by omega)
  rw [show 6 + 2 * g + 2 = 6 + 2 * (g + 1) by omega] at h4
  exact ⟨_, h4, hb.1⟩
/-- a point brought into a tile -/
def tilF (st a : UInt64) : UInt64 := FP.dsub a (FP.dmul st (fx_fl (FP.ddiv a st)))
theorem tilF_ok {g : Nat} (hg : g ≤ 5) {a st : UInt64} (ha : pR g a) (hs : spO st) : pOk g (tilF st a) ∧ vf_n64 (FP.ddiv a st) ∧ vf_n64 (FP.dmul st (fx_fl (FP.ddiv a st))) ∧ fx_mfl (FP.ddiv a st) = fx_fl (FP.ddiv a st) := by
  obtain ⟨n, h1, h2⟩ := ha
  obtain ⟨m, s1, s2, s3⟩ := hs
  have hE : ∃ E, E = 2 ^ (3 + 2 * g) ∧ 8 ≤ E ∧ E ≤ 8192 ∧ 2 ^ (6 + 2 * g) = 8 * E ∧ n.natAbs < 2 ^ 50 ∧ (2 * Pr g + 32) * (8 * E) ≤ Br g * (8 * E) ∧ Br g * (8 * E) < 2 ^ 53 := by
    refine ⟨_, rfl, ?_⟩
    rcases (show g = 0 ∨ g = 1 ∨ g = 2 ∨ g = 3 ∨ g = 4 ∨ g = 5 by omega) with rfl | rfl | rfl | rfl | rfl | rfl <;> simp only [Pr, Nat.reduceMul, Nat.reduceAdd, Nat.reducePow] at h2 <;> exact ⟨by decide, by decide, by decide, by omega, by decide, by decide⟩
  obtain ⟨E, e1, e2, e3, e4, e5, e6, e7⟩ := hE
  rw [e4] at h2
  obtain ⟨mm, hmm⟩ : ∃ mm, mm = m.natAbs := ⟨_, rfl⟩
  have hM8 : 64 ≤ mm * E := Nat.mul_le_mul (show 8 ≤ mm by omega) e2
  have hM9 : mm * E ≤ 256 * E := Nat.mul_le_mul_right _ (by omega)
  obtain ⟨b, hb⟩ : ∃ b, b = n.natAbs / (mm * E) + 1 := ⟨_, rfl⟩
  have hb0 : b < 2 ^ 52 := by
    have := Nat.div_le_self n.natAbs (mm * E)
    omega
  have hb1 : n.natAbs ≤ b * (mm * E) := by
    have := Nat.lt_mul_div_succ n.natAbs (show 0 < mm * E by omega)
    rw [hb, Nat.mul_comm]
    omega
  have hb2 : b * (mm * E) ≤ n.natAbs + mm * E := by
    have := Nat.div_mul_le_self n.natAbs (mm * E)
    rw [hb, Nat.add_mul, Nat.one_mul]
    omega
  have hq := fx_qle (b := b) h1 s1 (by omega) (by omega) (by
    rw [e4, ← hmm, show (2 : Nat) ^ 3 = 8 from rfl]
    calc n.natAbs * 8 ≤ b * (mm * E) * 8 := Nat.mul_le_mul_right _ hb1
      _ = b * mm * (8 * E) := by ac_rfl)
  obtain ⟨N, n1, n2⟩ := fx_flb hq.1 hq.2 hb0
  have hmN : (m * N).natAbs * E ≤ b * (mm * E) := by
    rw [Int.natAbs_mul, ← hmm]
    calc mm * N.natAbs * E ≤ mm * b * E := Nat.mul_le_mul_right _ (Nat.mul_le_mul_left _ n1)
      _ = b * (mm * E) := by ac_rfl
  have hmN2 : (m * N).natAbs ≤ (m * N).natAbs * E := Nat.le_mul_of_pos_right _ (by omega)
  have h2' : n.natAbs + mm * E < 2 ^ 53 := by omega
  have h3 := fx_mul (by decide) s1 n2 (by omega)
  have h4 := fx_up (3 + 2 * g) h3
  rw [← e1, show 3 + 0 + (3 + 2 * g) = 6 + 2 * g by omega] at h4
  have hab : (m * N * (E : Int)).natAbs ≤ n.natAbs + mm * E := by
    rw [Int.natAbs_mul, Int.natAbs_natCast]
    omega
  have hmE : mm * E ≤ 32 * (8 * E) := by omega
  have hfin : (n - m * N * (E : Int)).natAbs ≤ Br g * (8 * E) := by
    have a1 : (n - m * N * (E : Int)).natAbs ≤ n.natAbs + (m * N * (E : Int)).natAbs := by omega
    have a2 : 2 * (Pr g * (8 * E)) + 32 * (8 * E) = (2 * Pr g + 32) * (8 * E) := by rw [Nat.add_mul, Nat.mul_assoc]
    omega
  refine ⟨⟨_, fx_sub (by omega) h1 h4 (by omega), by rw [e4]; exact hfin⟩, fx_nn hq.1, h3.nn, fx_mfl_eq hq.1 hq.2 hb0⟩
def tilK (d : DS) (k : Nat) (a : UInt64) : UInt64 := if sNi d k 5 = 2 then tilF (sNd d k 4) a else a
theorem tilK_ok {d : DS} {k g : Nat} (hg : g ≤ 5) (hv : vOk1 d k) {a : UInt64} (ha : pR g a) : pOk g (tilK d k a) := by
  unfold tilK
  by_cases h : sNi d k 5 = 2
  · rw [if_pos h]; exact (tilF_ok hg ha hv.2.2.2.2.2.2.2.2.2.2.1).1
  · rw [if_neg h]; exact ha.ok hg
/-- a quarter's turns -/
def stp (q : UInt64 × UInt64) : UInt64 × UInt64 := (q.2, FP.dneg q.1)
def trn (q : UInt64 × UInt64) : Nat → UInt64 × UInt64
  | 0 => q
  | t + 1 => stp (trn q t)
theorem trn_ok {g : Nat} {q : UInt64 × UInt64} (h1 : dO g q.1) (h2 : dO g q.2) : ∀ t, dO g (trn q t).1 ∧ dO g (trn q t).2
  | 0 => ⟨h1, h2⟩
  | t + 1 => by
    obtain ⟨q1, q2⟩ := trn_ok h1 h2 t
    exact ⟨q2, q1.neg⟩
def tu (d : DS) (k : Nat) : Nat := (sNi d k 3).toNatClampNeg
/-- a point of the parent, in the node -/
def locP (d : DS) (nx : Nat → Nat → UInt64) (ns : Nat → Int32) (k : Nat) (a b : UInt64) : UInt64 × UInt64 :=
  (FP.dmul (trn (FP.dsub a (nx k 0), FP.dsub b (nx k 1)) (tu d k)).1 (pw2 (-(ns k))), FP.dmul (trn (FP.dsub a (nx k 0), FP.dsub b (nx k 1)) (tu d k)).2 (pw2 (-(ns k))))
theorem locP_ok {d : DS} {nx : Nat → Nat → UInt64} {ns : Nat → Int32} {k g : Nat} (hg : g ≤ 4) {a b : UInt64} (ha : pOk g a) (hb : pOk g b) (h0 : nxO (nx k 0)) (h1 : nxO (nx k 1)) (hs : s5 (ns k)) : pR (g + 1) (locP d nx ns k a b).1 ∧ pR (g + 1) (locP d nx ns k a b).2 := by
  obtain ⟨q1, q2⟩ := trn_ok (q := (FP.dsub a (nx k 0), FP.dsub b (nx k 1))) (ha.sub (by omega) h0) (hb.sub (by omega) h1) (tu d k)
  exact ⟨q1.mul hg hs, q2.mul hg hs⟩
/-- a shape has a point -/
def covB (kd : Int32) (p q a b : UInt64) : Bool :=
  if kd = 1 then decide (dle FP.dconst0 a ∧ dle a p ∧ dle FP.dconst0 b ∧ dle b q) else
  if kd = 2 then decide (dle (FP.dadd (FP.dmul a a) (FP.dmul b b)) (FP.dmul p p)) else
  decide (dle FP.dconst0 a ∧ dle FP.dconst0 b ∧ dle (FP.dadd (FP.dmul a q) (FP.dmul b p)) (FP.dmul p q))
def fstH (L : List Nat) (H : Nat → Option Nat) : Bool := match L[0]? with
  | none => false
  | some x => (H x).isSome
def tIn (d : DS) (T : Nat → UInt64 → UInt64 → Option Nat) (k : Nat) (a b : UInt64) : Option Nat :=
  if sNi d k 5 = 1 then (if fstH (sCh d k) (fun x => T x (tilK d k a) (tilK d k b)) then ((sCh d k).drop 1).reverse.findSome? (fun x => T x (tilK d k a) (tilK d k b)) else none)
  else ((sCh d k).drop 0).reverse.findSome? (fun x => T x (tilK d k a) (tilK d k b))
def tA (d : DS) (nx : Nat → Nat → UInt64) (ns : Nat → Int32) : Nat → Nat → UInt64 → UInt64 → Option Nat
  | 0, _, _, _ => none
  | f + 1, k, a, b => if sNi d k 2 = 0 then (if sNi d k 0 = 0 then tIn d (tA d nx ns f) k (locP d nx ns k a b).1 (locP d nx ns k a b).2 else if covB (sNi d k 0) (sNd d k 0) (sNd d k 1) (locP d nx ns k a b).1 (locP d nx ns k a b).2 then some k else none) else none
theorem fs_app (L : List Nat) (H : Nat → Option Nat) {lo n : Nat} (h : lo ≤ n) (hs : ((L.drop n).reverse.findSome? H) ≠ none) : (L.drop lo).reverse.findSome? H = (L.drop n).reverse.findSome? H := by
  have e : L.drop lo = (L.drop lo).take (n - lo) ++ L.drop n := by
    have := List.take_append_drop (n - lo) (L.drop lo)
    rw [List.drop_drop, show lo + (n - lo) = n by omega] at this
    exact this.symm
  rw [e, List.reverse_append, List.findSome?_append]
  cases hq : (L.drop n).reverse.findSome? H with
  | none => exact absurd hq hs
  | some x => rfl
theorem fs_step (L : List Nat) (H : Nat → Option Nat) {n : Nat} (h : n < L.length) (hs : ((L.drop (n + 1)).reverse.findSome? H) = none) : (L.drop n).reverse.findSome? H = H L[n] := by
  rw [List.drop_eq_getElem_cons h, List.reverse_cons, List.findSome?_append, hs]
  simp
theorem fs_end (L : List Nat) (H : Nat → Option Nat) : (L.drop L.length).reverse.findSome? H = none := by
  simp

/-! boxes: whole numbers at a scale -/
abbrev B4 : Type := Int × Int × Int × Int
abbrev D4 : Type := UInt64 × UInt64 × UInt64 × UInt64
/-- the whole number of a double at a scale -/
def fxv (k : Nat) (x : UInt64) : Int := (FP.Core.zval FP.Core.b64 (FP.Core.val64 x) * ((2 ^ k : Nat) : Int)) / (FP.Core.one64 : Int)
theorem fxv_eq {k : Nat} {n : Int} {x : UInt64} (h : fx k n x) : fxv k x = n := by
  unfold fxv
  rw [h.2]
  exact Int.mul_ediv_cancel _ (Int.ne_of_gt fx_one)
def exQ (g : Nat) (q : B4) (x : D4) : Prop := fx g q.1 x.1 ∧ fx g q.2.1 x.2.1 ∧ fx g q.2.2.1 x.2.2.1 ∧ fx g q.2.2.2 x.2.2.2
def bB (c : Nat) (q : B4) : Prop := q.1.natAbs ≤ c ∧ q.2.1.natAbs ≤ c ∧ q.2.2.1.natAbs ≤ c ∧ q.2.2.2.natAbs ≤ c
abbrev oXq (x : D4) : va_E := oEx 0 x.1 x.2.1 x.2.2.1 x.2.2.2
def sc5 (s : Int32) : Int := if s = -2 then 1 else if s = -1 then 2 else if s = 0 then 4 else if s = 1 then 8 else 16
theorem sc5_fx {s : Int32} (h : s5 s) : 1 ≤ sc5 s ∧ sc5 s ≤ 16 ∧ fx 2 (sc5 s) (pw2 s) := by
  have hd : ∀ (i : Int32) (x : UInt64), FP.dmul (FP.i2d i) 4598175219545276416 = x → fx 2 i.toInt x := by
    intro i x hx
    rw [← hx]
    have h4 : fx 2 1 4598175219545276416 := by
      have := fx_div (u := 2) (N := 1) (by decide) (fx_i2d 1) (fx_i2d 4) (by decide) (by decide) (by decide)
      have e : FP.ddiv (FP.i2d 1) (FP.i2d 4) = 4598175219545276416 := by decide +kernel
      rw [e] at this
      exact this
    have := fx_mul (by decide) (fx_i2d i) h4 (by have := i.toInt_lt; have := i.le_toInt; omega)
    rw [Int.mul_one] at this
    exact this
  rcases h with rfl | rfl | rfl | rfl | rfl
  · exact ⟨by decide, by decide, hd 1 _ (by decide +kernel)⟩
  · exact ⟨by decide, by decide, hd 2 _ (by decide +kernel)⟩
  · exact ⟨by decide, by decide, hd 4 _ (by decide +kernel)⟩
  · exact ⟨by decide, by decide, hd 8 _ (by decide +kernel)⟩
  · exact ⟨by decide, by decide, hd 16 _ (by decide +kernel)⟩
def scB (v : Int) (q : B4) : B4 := (q.1 * v, q.2.1 * v, q.2.2.1 * v, q.2.2.2 * v)
def scD (f : UInt64) (x : D4) : D4 := (FP.dmul x.1 f, FP.dmul x.2.1 f, FP.dmul x.2.2.1 f, FP.dmul x.2.2.2 f)
def tnB (q : B4) : B4 := (-q.2.2.2, q.1, -q.2.1, q.2.2.1)
def tnD (x : D4) : D4 := (FP.dneg x.2.2.2, x.1, FP.dneg x.2.1, x.2.2.1)
def tsB (q : B4) : Nat → B4
  | 0 => q
  | t + 1 => tnB (tsB q t)
def tsD (x : D4) : Nat → D4
  | 0 => x
  | t + 1 => tnD (tsD x t)
def shB (X Y : Int) (q : B4) : B4 := (q.1 + X, q.2.1 + Y, q.2.2.1 + X, q.2.2.2 + Y)
def shD (x y : UInt64) (z : D4) : D4 := (FP.dadd z.1 x, FP.dadd z.2.1 y, FP.dadd z.2.2.1 x, FP.dadd z.2.2.2 y)
theorem exQ.tn {g : Nat} {q : B4} {x : D4} (h : exQ g q x) : exQ g (tnB q) (tnD x) := ⟨fx_neg h.2.2.2, h.1, fx_neg h.2.1, h.2.2.1⟩
theorem exQ.ts {g : Nat} {q : B4} {x : D4} (h : exQ g q x) : ∀ t, exQ g (tsB q t) (tsD x t)
  | 0 => h
  | t + 1 => (exQ.ts h t).tn
theorem bB.tn {c : Nat} {q : B4} (h : bB c q) : bB c (tnB q) := by
  obtain ⟨h1, h2, h3, h4⟩ := h
  exact ⟨by rw [tnB]; simpa using h4, h1, by rw [tnB]; simpa using h2, h3⟩
theorem bB.ts {c : Nat} {q : B4} (h : bB c q) : ∀ t, bB c (tsB q t)
  | 0 => h
  | t + 1 => (bB.ts h t).tn
theorem bB.sc {c : Nat} {q : B4} (h : bB c q) {v : Int} (h1 : 1 ≤ v) (h2 : v ≤ 16) : bB (c * 16) (scB v q) := by
  have key : ∀ n : Int, n.natAbs ≤ c → (n * v).natAbs ≤ c * 16 := fun n hn => by
    rw [Int.natAbs_mul]
    exact Nat.mul_le_mul hn (by omega)
  exact ⟨key _ h.1, key _ h.2.1, key _ h.2.2.1, key _ h.2.2.2⟩
theorem exQ.sc {g c : Nat} {q : B4} {x : D4} (hg : g ≤ 90) (h : exQ g q x) (hb : bB c q) {s : Int32} (hs : s5 s) (hc : c * 16 < 2 ^ 53) : exQ (g + 2) (scB (sc5 s) q) (scD (pw2 s) x) := by
  obtain ⟨h1, h2, h3⟩ := sc5_fx hs
  have b2 := hb.sc h1 h2
  exact ⟨fx_mul (by omega) h.1 h3 (Nat.lt_of_le_of_lt b2.1 hc), fx_mul (by omega) h.2.1 h3 (Nat.lt_of_le_of_lt b2.2.1 hc), fx_mul (by omega) h.2.2.1 h3 (Nat.lt_of_le_of_lt b2.2.2.1 hc), fx_mul (by omega) h.2.2.2 h3 (Nat.lt_of_le_of_lt b2.2.2.2 hc)⟩
theorem bB.sh {c e : Nat} {q : B4} (h : bB c q) {X Y : Int} (hX : X.natAbs ≤ e) (hY : Y.natAbs ≤ e) : bB (c + e) (shB X Y q) := by
  obtain ⟨h1, h2, h3, h4⟩ := h
  refine ⟨?_, ?_, ?_, ?_⟩ <;> (unfold shB; dsimp only; omega)
theorem exQ.sh {g c e : Nat} {q : B4} {z : D4} (hg : g ≤ 90) (h : exQ g q z) (hb : bB c q) {X Y : Int} {x y : UInt64} (hX : X.natAbs ≤ e) (hY : Y.natAbs ≤ e) (hx : fx g X x) (hy : fx g Y y) (hc : c + e < 2 ^ 53) : exQ g (shB X Y q) (shD x y z) := by
  have b2 := hb.sh hX hY
  exact ⟨fx_add (by omega) h.1 hx (Nat.lt_of_le_of_lt b2.1 hc), fx_add (by omega) h.2.1 hy (Nat.lt_of_le_of_lt b2.2.1 hc), fx_add (by omega) h.2.2.1 hx (Nat.lt_of_le_of_lt b2.2.2.1 hc), fx_add (by omega) h.2.2.2 hy (Nat.lt_of_le_of_lt b2.2.2.2 hc)⟩
def jnB (a q : B4) : B4 := (min q.1 a.1, min q.2.1 a.2.1, max q.2.2.1 a.2.2.1, max q.2.2.2 a.2.2.2)
def jnD (a o : D4) : D4 := (dlo o.1 a.1, dlo o.2.1 a.2.1, dhi o.2.2.1 a.2.2.1, dhi o.2.2.2 a.2.2.2)
theorem fx_dlo {g : Nat} {m n : Int} {x y : UInt64} (hx : fx g m x) (hy : fx g n y) : fx g (min m n) (dlo x y) := by
  unfold dlo
  by_cases h : FP.dcmp x y = some .lt
  · rw [if_pos h]
    have := (fx_lt hx hy).mp h
    rw [Int.min_eq_left (by omega)]
    exact hx
  · rw [if_neg h]
    have : ¬ m < n := fun q => h ((fx_lt hx hy).mpr q)
    rw [Int.min_eq_right (by omega)]
    exact hy
theorem fx_dhi {g : Nat} {m n : Int} {x y : UInt64} (hx : fx g m x) (hy : fx g n y) : fx g (max m n) (dhi x y) := by
  unfold dhi
  by_cases h : FP.dcmp x y = some .gt
  · rw [if_pos h]
    have := (fx_gt hx hy).mp h
    rw [Int.max_eq_left (by omega)]
    exact hx
  · rw [if_neg h]
    have : ¬ n < m := fun q => h ((fx_gt hx hy).mpr q)
    rw [Int.max_eq_right (by omega)]
    exact hy
theorem exQ.jn {g : Nat} {a q : B4} {x y : D4} (h : exQ g a x) (h2 : exQ g q y) : exQ g (jnB a q) (jnD x y) := ⟨fx_dlo h2.1 h.1, fx_dlo h2.2.1 h.2.1, fx_dhi h2.2.2.1 h.2.2.1, fx_dhi h2.2.2.2 h.2.2.2⟩
theorem bB.jn {c : Nat} {a q : B4} (h : bB c a) (h2 : bB c q) : bB c (jnB a q) := by
  obtain ⟨h1, h3, h4, h5⟩ := h
  obtain ⟨g1, g3, g4, g5⟩ := h2
  refine ⟨?_, ?_, ?_, ?_⟩ <;> (unfold jnB; dsimp only; omega)
def jnO (a o : Option B4) : Option B4 := match o with
  | none => a
  | some q => match a with
    | none => some q
    | some p => some (jnB p q)
/-- what is laid out -/
def lyB (f : Nat) (X Y : Int) (t : Nat) (s : Int32) (q : B4) : B4 := shB (X * ((2 ^ (2 + 2 * f) : Nat) : Int)) (Y * ((2 ^ (2 + 2 * f) : Nat) : Int)) (tsB (scB (sc5 s) q) t)
def lyD (x y : UInt64) (t : Nat) (s : Int32) (z : D4) : D4 := shD x y (tsD (scD (pw2 s) z) t)
def Qb : Nat → Nat
  | 0 => 100
  | 1 => 700
  | 2 => 3100
  | 3 => 12700
  | 4 => 51100
  | _ => 204700
theorem Qb_n {f : Nat} (hf : f ≤ 4) : Qb f * 2 ^ (6 + 2 * f) * 16 + 19200 * 2 ^ (2 + 2 * f) = Qb (f + 1) * 2 ^ (6 + 2 * (f + 1)) ∧ Qb (f + 1) * 2 ^ (6 + 2 * (f + 1)) < 2 ^ 53 := by
  rcases (show f = 0 ∨ f = 1 ∨ f = 2 ∨ f = 3 ∨ f = 4 by omega) with rfl | rfl | rfl | rfl | rfl <;> decide
theorem ly_ok {f : Nat} (hf : f ≤ 4) {q : B4} {z : D4} (h : exQ (6 + 2 * f) q z) (hb : bB (Qb f * 2 ^ (6 + 2 * f)) q) {x y : UInt64} (hx : nxO x) (hy : nxO y) {t : Nat} {s : Int32} (hs : s5 s) :
    exQ (6 + 2 * (f + 1)) (lyB f (fxv 6 x) (fxv 6 y) t s q) (lyD x y t s z) ∧ bB (Qb (f + 1) * 2 ^ (6 + 2 * (f + 1))) (lyB f (fxv 6 x) (fxv 6 y) t s q) ∧ exQ (6 + 2 * (f + 1)) (tsB (scB (sc5 s) q) t) (tsD (scD (pw2 s) z) t) := by
  obtain ⟨X, hX, fX⟩ := hx
  obtain ⟨Y, hY, fY⟩ := hy
  rw [fxv_eq fX, fxv_eq fY]
  obtain ⟨e1, e2⟩ := Qb_n hf
  obtain ⟨s1, s2, -⟩ := sc5_fx hs
  have h1 := h.sc (by omega) hb hs (by omega)
  rw [show 6 + 2 * f + 2 = 6 + 2 * (f + 1) by omega] at h1
  have h2 := h1.ts t
  have b2 := (hb.sc s1 s2).ts t
  have u1 := fx_up (2 + 2 * f) fX
  have u2 := fx_up (2 + 2 * f) fY
  rw [show 6 + (2 + 2 * f) = 6 + 2 * (f + 1) by omega] at u1 u2
  have n1 : (X * ((2 ^ (2 + 2 * f) : Nat) : Int)).natAbs ≤ 19200 * 2 ^ (2 + 2 * f) := by
    rw [Int.natAbs_mul, Int.natAbs_natCast]
    exact Nat.mul_le_mul_right _ hX
  have n2 : (Y * ((2 ^ (2 + 2 * f) : Nat) : Int)).natAbs ≤ 19200 * 2 ^ (2 + 2 * f) := by
    rw [Int.natAbs_mul, Int.natAbs_natCast]
    exact Nat.mul_le_mul_right _ hY
  refine ⟨h2.sh (by omega) b2 n1 n2 u1 u2 (by omega), ?_, h2⟩
  have := b2.sh n1 n2
  rw [e1] at this
  exact this
/-- a shape's own box -/
def spB (d : DS) (f k : Nat) : B4 := if sNi d k 0 = 2 then (-(fxv 3 (sNd d k 0) * ((2 ^ (3 + 2 * f) : Nat) : Int)), -(fxv 3 (sNd d k 0) * ((2 ^ (3 + 2 * f) : Nat) : Int)), fxv 3 (sNd d k 0) * ((2 ^ (3 + 2 * f) : Nat) : Int), fxv 3 (sNd d k 0) * ((2 ^ (3 + 2 * f) : Nat) : Int)) else (0, 0, fxv 3 (sNd d k 0) * ((2 ^ (3 + 2 * f) : Nat) : Int), fxv 3 (sNd d k 1) * ((2 ^ (3 + 2 * f) : Nat) : Int))
def spD (d : DS) (k : Nat) : D4 := if sNi d k 0 = 2 then (FP.dneg (sNd d k 0), FP.dneg (sNd d k 0), sNd d k 0, sNd d k 0) else (FP.dconst0, FP.dconst0, sNd d k 0, sNd d k 1)
theorem fx_c0 (g : Nat) : fx g 0 FP.dconst0 := by
  have h := fx_i2d 0
  have e : FP.i2d 0 = FP.dconst0 := by decide +kernel
  rw [e] at h
  have h2 := fx_up g h
  rw [Nat.zero_add] at h2
  have e2 : (0 : Int32).toInt * ((2 ^ g : Nat) : Int) = 0 := by
    rw [show (0 : Int32).toInt = 0 from by decide]
    exact Int.zero_mul _
  rw [e2] at h2
  exact h2
theorem Qb_ge {f : Nat} (hf : f ≤ 5) : 100 ≤ Qb f := by
  rcases (show f = 0 ∨ f = 1 ∨ f = 2 ∨ f = 3 ∨ f = 4 ∨ f = 5 by omega) with rfl | rfl | rfl | rfl | rfl | rfl <;> decide
theorem sp_ok {d : DS} {k f : Nat} (hf : f ≤ 5) (hv : vOk1 d k) : exQ (6 + 2 * f) (spB d f k) (spD d k) ∧ bB (Qb f * 2 ^ (6 + 2 * f)) (spB d f k) := by
  obtain ⟨-, -, -, -, -, -, ⟨P, p1, p2, p3⟩, ⟨Q, q1, q2, q3⟩, -⟩ := hv
  have up := fx_up (3 + 2 * f) p1
  have uq := fx_up (3 + 2 * f) q1
  rw [show 3 + (3 + 2 * f) = 6 + 2 * f by omega] at up uq
  have hE : (2 : Nat) ^ (6 + 2 * f) = 8 * 2 ^ (3 + 2 * f) := by
    rw [show 6 + 2 * f = 3 + (3 + 2 * f) by omega, Nat.pow_add]
  have hbd : ∀ n : Int, 1 ≤ n → n ≤ 800 → (n * ((2 ^ (3 + 2 * f) : Nat) : Int)).natAbs ≤ Qb f * 2 ^ (6 + 2 * f) := fun n h1 h2 => by
    rw [Int.natAbs_mul, Int.natAbs_natCast, hE]
    calc n.natAbs * 2 ^ (3 + 2 * f) ≤ 800 * 2 ^ (3 + 2 * f) := Nat.mul_le_mul_right _ (by omega)
      _ = 100 * (8 * 2 ^ (3 + 2 * f)) := by rw [← Nat.mul_assoc]
      _ ≤ Qb f * (8 * 2 ^ (3 + 2 * f)) := Nat.mul_le_mul_right _ (Qb_ge hf)
  have bp := hbd P p2 p3
  have bq := hbd Q q2 q3
  unfold spB spD
  rw [fxv_eq p1, fxv_eq q1]
  by_cases h : sNi d k 0 = 2
  · rw [if_pos h, if_pos h]
    exact ⟨⟨fx_neg up, fx_neg up, up, up⟩, ⟨by rw [Int.natAbs_neg]; exact bp, by rw [Int.natAbs_neg]; exact bp, bp, bp⟩⟩
  · rw [if_neg h, if_neg h]
    exact ⟨⟨fx_c0 _, fx_c0 _, up, uq⟩, ⟨Nat.zero_le _, Nat.zero_le _, bp, bq⟩⟩
/-- round what is in a group -/
def kdB (d : DS) (T : Nat → Option B4) (L : List Nat) : Option B4 := L.foldl (fun acc c => if sNi d c 2 = 0 then jnO acc (T c) else acc) none
def bA (d : DS) (nx : Nat → Nat → UInt64) (ns : Nat → Int32) : Nat → Nat → Option B4
  | 0, _ => none
  | f + 1, k => (if sNi d k 0 = 0 then kdB d (bA d nx ns f) (sCh d k) else some (spB d f k)).map (lyB f (fxv 6 (nx k 0)) (fxv 6 (nx k 1)) (tu d k) (ns k))
def bO (c : Nat) (o : Option B4) : Prop := ∀ q, o = some q → bB c q
theorem kdB_b {d : DS} {T : Nat → Option B4} {c : Nat} : ∀ (L : List Nat) (a : Option B4), (∀ x ∈ L, bO c (T x)) → bO c a → bO c (L.foldl (fun acc x => if sNi d x 2 = 0 then jnO acc (T x) else acc) a)
  | [], a, _, ha => ha
  | x :: xs, a, hT, ha => by
    refine kdB_b xs _ (fun y hy => hT y (List.mem_cons_of_mem _ hy)) ?_
    have hx := hT x List.mem_cons_self
    show bO c (if sNi d x 2 = 0 then jnO a (T x) else a)
    by_cases h : sNi d x 2 = 0
    · rw [if_pos h]
      intro q hq
      cases hTx : T x with
      | none => rw [hTx] at hq; exact ha q hq
      | some r =>
        rw [hTx] at hq
        cases ha' : a with
        | none => rw [ha'] at hq; cases hq; exact hx _ hTx
        | some p => rw [ha'] at hq; cases hq; exact (ha p ha').jn (hx r hTx)
    · rw [if_neg h]; exact ha
theorem bA_b {d : DS} {dp : Nat → Nat} {nx : Nat → Nat → UInt64} {ns : Nat → Int32} (htr : tOk d dp) (hv : vOk d) (hrd : rdy d nx ns) : ∀ f, f ≤ 5 → ∀ k, k < 14 → sTh d k = true → bO (Qb f * 2 ^ (6 + 2 * f)) (bA d nx ns f k)
  | 0, _, k, _, _ => fun q hq => by cases hq
  | f + 1, hf, k, hk, hkt => by
    intro q hq
    obtain ⟨r1, r2, r3⟩ := hrd k hk hkt
    have hin : bO (Qb f * 2 ^ (6 + 2 * f)) (if sNi d k 0 = 0 then kdB d (bA d nx ns f) (sCh d k) else some (spB d f k)) := by
      by_cases h : sNi d k 0 = 0
      · rw [if_pos h]
        exact kdB_b _ _ (fun x hx => bA_b htr hv hrd f (by omega) x (htr.child hk hkt hx).1 (htr.child hk hkt hx).2.1) (fun q hq => by cases hq)
      · rw [if_neg h]
        intro q hq
        cases hq
        exact (sp_ok (by omega) (hv k hk hkt)).2
    have hq : (if sNi d k 0 = 0 then kdB d (bA d nx ns f) (sCh d k) else some (spB d f k)).map (lyB f (fxv 6 (nx k 0)) (fxv 6 (nx k 1)) (tu d k) (ns k)) = some q := hq
    cases ho : (if sNi d k 0 = 0 then kdB d (bA d nx ns f) (sCh d k) else some (spB d f k)) with
    | none => rw [ho] at hq; cases hq
    | some p =>
      rw [ho] at hq
      cases hq
      obtain ⟨X, hX, fX⟩ := r1
      obtain ⟨Y, hY, fY⟩ := r2
      obtain ⟨e1, e2⟩ := Qb_n (show f ≤ 4 by omega)
      obtain ⟨s1, s2, -⟩ := sc5_fx r3
      have b2 := ((hin p ho).sc s1 s2).ts (tu d k)
      have n1 : (X * ((2 ^ (2 + 2 * f) : Nat) : Int)).natAbs ≤ 19200 * 2 ^ (2 + 2 * f) := by
        rw [Int.natAbs_mul, Int.natAbs_natCast]
        exact Nat.mul_le_mul_right _ hX
      have n2 : (Y * ((2 ^ (2 + 2 * f) : Nat) : Int)).natAbs ≤ 19200 * 2 ^ (2 + 2 * f) := by
        rw [Int.natAbs_mul, Int.natAbs_natCast]
        exact Nat.mul_le_mul_right _ hY
      have := b2.sh n1 n2
      rw [e1] at this
      unfold lyB
      rw [fxv_eq fX, fxv_eq fY]
      exact this

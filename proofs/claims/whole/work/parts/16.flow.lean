/-! joining of branches, loops; comparisons of doubles -/
section WFlow
variable {p : Program} {l : Launch} {e : Env} {R : Room} {s : State} {m : MethodId} {args : Array Value} {below : List Frame} {meth : Method} {c : Code} {cells slots : Nat} {Q : State → Prop}
/-- what comes behind a joint, taken once -/
theorem W.mid {α : Type} {H0 : Heap} {l0 : List Loc} {g0 : JFrame} (P : α → Prop) (Hf : α → Heap) (lf : α → List Loc) (g : α → JFrame) (k : ∀ v, P v → W p l e R s m args below meth c (Hf v) (lf v) cells slots Q (g v))
    (kk : (∀ v, P v → W p l e R s m args below meth c (Hf v) (lf v) cells slots Q (g v)) → W p l e R s m args below meth c H0 l0 cells slots Q g0) : W p l e R s m args below meth c H0 l0 cells slots Q g0 := kk k
/-- the same, the heap as it is -/
theorem W.mi1 {α : Type} {H0 : Heap} {l0 : List Loc} {g0 : JFrame} (P : α → Prop) (g : α → JFrame) (k : ∀ v, P v → W p l e R s m args below meth c H0 l0 cells slots Q (g v))
    (kk : (∀ v, P v → W p l e R s m args below meth c H0 l0 cells slots Q (g v)) → W p l e R s m args below meth c H0 l0 cells slots Q g0) : W p l e R s m args below meth c H0 l0 cells slots Q g0 := kk k
/-- a loop: a number that falls -/
theorem W.lp {α : Type} (P : Nat → α → Prop) (Hf : α → Heap) (lf : α → List Loc) (g : α → JFrame) (N : Nat) (v0 : α) (h0 : P N v0)
    (step : ∀ n v, P n v → (∀ n' v', n' < n → P n' v' → W p l e R s m args below meth c (Hf v') (lf v') cells slots Q (g v')) → W p l e R s m args below meth c (Hf v) (lf v) cells slots Q (g v)) :
    W p l e R s m args below meth c (Hf v0) (lf v0) cells slots Q (g v0) := by
  have key : ∀ N n v, n < N → P n v → W p l e R s m args below meth c (Hf v) (lf v) cells slots Q (g v) := by
    intro N
    induction N with
    | zero => intro n v h _; exact absurd h (Nat.not_lt_zero n)
    | succ N ih =>
      intro n v h hp
      exact step n v hp (fun n' v' h1 h2 => ih n' v' (by omega) h2)
  exact key (N + 1) N v0 (Nat.lt_succ_self N) h0
theorem W.lp1 {α : Type} {H : Heap} {locs : List Loc} (P : Nat → α → Prop) (g : α → JFrame) (N : Nat) (v0 : α) (h0 : P N v0)
    (step : ∀ n v, P n v → (∀ n' v', n' < n → P n' v' → W p l e R s m args below meth c H locs cells slots Q (g v')) → W p l e R s m args below meth c H locs cells slots Q (g v)) :
    W p l e R s m args below meth c H locs cells slots Q (g v0) := W.lp P (fun _ => H) (fun _ => locs) g N v0 h0 step
end WFlow
theorem cv_g_ge {o : Option Ordering} : 0 ≤ Op.cmpValue o .g ↔ ¬ o = some .lt := by
  rcases o with _ | (_ | _ | _) <;> decide
theorem cv_g_gt {o : Option Ordering} : 0 < Op.cmpValue o .g ↔ (o = some .gt ∨ o = none) := by
  rcases o with _ | (_ | _ | _) <;> decide
theorem cv_g_le {o : Option Ordering} : Op.cmpValue o .g ≤ 0 ↔ (o = some .lt ∨ o = some .eq) := by
  rcases o with _ | (_ | _ | _) <;> decide
theorem cv_g_lt {o : Option Ordering} : Op.cmpValue o .g < 0 ↔ o = some .lt := by
  rcases o with _ | (_ | _ | _) <;> decide
theorem cv_g_eq {o : Option Ordering} : Op.cmpValue o .g = 0 ↔ o = some .eq := by
  rcases o with _ | (_ | _ | _) <;> decide
theorem cv_l_ge {o : Option Ordering} : 0 ≤ Op.cmpValue o .l ↔ (o = some .gt ∨ o = some .eq) := by
  rcases o with _ | (_ | _ | _) <;> decide
theorem cv_l_gt {o : Option Ordering} : 0 < Op.cmpValue o .l ↔ o = some .gt := by
  rcases o with _ | (_ | _ | _) <;> decide
theorem cv_l_le {o : Option Ordering} : Op.cmpValue o .l ≤ 0 ↔ ¬ o = some .gt := by
  rcases o with _ | (_ | _ | _) <;> decide
theorem cv_l_lt {o : Option Ordering} : Op.cmpValue o .l < 0 ↔ (o = some .lt ∨ o = none) := by
  rcases o with _ | (_ | _ | _) <;> decide
theorem cv_l_eq {o : Option Ordering} : Op.cmpValue o .l = 0 ↔ o = some .eq := by
  rcases o with _ | (_ | _ | _) <;> decide
/-- the lesser, the greater, as the class takes them -/
def dlo (o x : UInt64) : UInt64 := if FP.dcmp o x = some .lt then o else x
def dhi (o x : UInt64) : UInt64 := if FP.dcmp o x = some .gt then o else x
/-- a zero without a sign -/
def dz0 (x : UInt64) : UInt64 := if FP.dcmp x FP.dconst0 = some .eq then FP.dconst0 else x
/-- at most, at least, as the doubles are compared -/
abbrev dle (x y : UInt64) : Prop := FP.dcmp x y = some .lt ∨ FP.dcmp x y = some .eq
abbrev dge (x y : UInt64) : Prop := FP.dcmp x y = some .gt ∨ FP.dcmp x y = some .eq

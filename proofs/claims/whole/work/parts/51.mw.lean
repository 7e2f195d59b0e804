/-! the model's world: 25 arrays and an object, over a world without them -/
section HPZ
variable {p : Program} {l : Launch} {e : Env} {R : Room} {s : State} {m : MethodId} {args : Array Value} {below : List Frame} {meth : Method} {c : Code} {H : Heap} {locs : List Loc} {cells slots : Nat} {Q : State → Prop}
variable {cc : ByteArray} {pc : Nat} {ls : Array Slot} {rest : List Value} {D : va_G} {cl : List vw_C} {S0 a : Nat} {tys : List (ClassId × FieldType)} {w : hp_M} {H0 : Heap}
theorem hp_zald (hexec : p.tables.exec = Jvm.exec) (hb : c.code = cc) (hK : va_K D cl tys s) (hI : hp_I D cl S0 w H) (t0 : Nat) {cA : ClassId} {n : Nat} {f : Nat → Int32} (ha : w a = some (.inl (cA, n, .inl f))) (ht : tys[t0]? = some (cA, .boolean)) {i : Int32} (hin : vp_in i n) (hdg : decode cc pc = .ok (.baload, 1))
    (kk : W p l e R s m args below meth c H locs cells slots Q (F0 m (pc + 1) ls (.int (f i.toNatClampNeg) :: rest))) : W p l e R s m args below meth c H locs cells slots Q (F0 m pc ls (.int i :: .ref a :: rest)) :=
  va_zald hexec hb hK (hp_one hI.1 ha) 0 t0 rfl ht hin hdg kk
theorem hp_zast (hexec : p.tables.exec = Jvm.exec) (hb : c.code = cc) (hK : va_K D cl tys s) (hI : hp_I D cl S0 w H) (hS : va_S (hp_A S0) H0 H locs) (t0 : Nat) {cA : ClassId} {n : Nat} {f : Nat → Int32} (ha : w a = some (.inl (cA, n, .inl f))) (ht : tys[t0]? = some (cA, .boolean)) {i : Int32} {x : Int32} (hx01 : x = 0 ∨ x = 1) (hin : vp_in i n) (hdg : decode cc pc = .ok (.bastore, 1))
    (kk : ∀ (H1 : Heap) (locs1 : List Loc), hp_I D cl S0 (hp_set w a (.inl (cA, n, .inl (upd f i.toNatClampNeg x)))) H1 → va_S (hp_A S0) H0 H1 locs1 → H1.size = H.size → W p l e R s m args below meth c H1 locs1 cells slots Q (F0 m (pc + 1) ls rest)) : W p l e R s m args below meth c H locs cells slots Q (F0 m pc ls (.int x :: .int i :: .ref a :: rest)) := by
  refine W.zast hexec hb (hI.1 a _ ha) ((hK.2 t0 _ ht).1 n (fun j => .int (f j))) (fun q => by cases q) (by show ¬ (i < 0 ∨ (arrV _ _ _).slots.size ≤ _); rw [arrV_size]; exact hin) rfl rfl hdg fun H1 e z oq => ?_
  refine kk H1 _ (hI.set ha ?_ oq) (hS.put z oq (hI.2 a _ ha)) z
  show H1[a]? = some (vp_cell _ _)
  rw [e]
  rw [vp_cell_i, vp_cell_i, arrV_store]
  congr 2
  funext q
  by_cases hq : q = i.toNatClampNeg
  · subst hq
    rcases hx01 with rfl | rfl <;> simp [updV, upd] <;> try rfl
  · simp [updV, upd, hq]
end HPZ
abbrev XS : Type := (Nat → Nat → Int32) × (Nat → Nat → UInt64) × Int32 × Int32 × Int32
def xsI (X : XS) (j : Nat) (f : Nat → Int32) : XS := (fset X.1 j f, X.2)
def xsD (X : XS) (j : Nat) (f : Nat → UInt64) : XS := (X.1, fset X.2.1 j f, X.2.2)
theorem xsI_y (X : XS) (j : Nat) (f : Nat → Int32) : (xsI X j f).1 j = f := fset_eq X.1 j f
theorem xsI_n {X : XS} {j i : Nat} {f : Nat → Int32} (h : i ≠ j) : (xsI X j f).1 i = X.1 i := fset_ne h
theorem xsD_y (X : XS) (j : Nat) (f : Nat → UInt64) : (xsD X j f).2.1 j = f := fset_eq X.2.1 j f
theorem xsD_n {X : XS} {j i : Nat} {f : Nat → UInt64} (h : i ≠ j) : (xsD X j f).2.1 i = X.2.1 i := fset_ne h
def xsN (X : XS) (n : Int32) : XS := (X.1, X.2.1, n, X.2.2.2)
def xsP (X : XS) (n : Int32) : XS := (X.1, X.2.1, X.2.2.1, n, X.2.2.2.2)
def xsT (X : XS) (n : Int32) : XS := (X.1, X.2.1, X.2.2.1, X.2.2.2.1, n)
def mLen (j : Nat) : Nat := if j = 8 then 196 else if j = 10 ∨ j = 17 then 56 else if j = 18 ∨ j = 19 then 224 else if j = 22 ∨ j = 23 then 28 else if j = 24 then 192 else 14
def mCell (G : EG) (Q : Nat → Nat) (X : XS) (j : Nat) : va_E :=
  if j = 25 then .inr (5, [.ref (Q 0), .ref (Q 1), .ref (Q 2), .ref (Q 3), .ref (Q 4), .ref (Q 5), .ref (Q 6), .ref (Q 7), .ref (Q 8), .ref (Q 9), .ref (Q 10), .ref (Q 11), .ref (Q 12), .ref (Q 13), .ref (Q 14), .ref (Q 15), .ref (Q 16), .ref (Q 17), .ref (Q 18), .ref (Q 19), .ref (Q 20), .ref (Q 21), .ref (Q 22), .ref (Q 23), .ref (Q 24), .int X.2.2.1, .int X.2.2.2.1, .int X.2.2.2.2]) else if j < 4 then .inl (G.2.2.1 2, 14, .inl (X.1 j)) else if j < 14 ∨ j = 24 then .inl (G.2.2.1 0, mLen j, .inl (X.1 j)) else .inl (G.2.2.1 1, mLen j, .inr (.inr (.inr (.inl (X.2.1 j)))))
def mW (G : EG) (Q : Nat → Nat) (X : XS) (w0 : hp_M) : hp_M := fun a => match (List.range 26).find? (fun j => decide (Q j = a)) with
  | some j => some (mCell G Q X j)
  | none => w0 a
def qInj (Q : Nat → Nat) : Prop := ∀ i j, i < 26 → j < 26 → Q i = Q j → i = j
theorem mW_find {Q : Nat → Nat} {a i : Nat} (h : (List.range 26).find? (fun j => decide (Q j = a)) = some i) : Q i = a ∧ i < 26 := by
  have h1 : decide (Q i = a) = true := List.find?_some (p := fun j => decide (Q j = a)) h
  exact ⟨of_decide_eq_true h1, List.mem_range.mp (List.mem_of_find?_eq_some h)⟩
theorem mW_none {Q : Nat → Nat} {a : Nat} (h : (List.range 26).find? (fun j => decide (Q j = a)) = none) (j : Nat) (hj : j < 26) : Q j ≠ a := fun e => by
  have := List.find?_eq_none.mp h j (List.mem_range.mpr hj)
  exact this (decide_eq_true e)
theorem mW_at {G : EG} {Q : Nat → Nat} {X : XS} {w0 : hp_M} (hQ : qInj Q) (j : Nat) (hj : j < 26) : mW G Q X w0 (Q j) = some (mCell G Q X j) := by
  unfold mW
  cases h : (List.range 26).find? (fun i => decide (Q i = Q j)) with
  | none => exact absurd rfl (mW_none h j hj)
  | some i =>
    obtain ⟨h1, h2⟩ := mW_find h
    rw [hQ i j h2 hj h1]
theorem mW_out {G : EG} {Q : Nat → Nat} {X : XS} {w0 : hp_M} {a : Nat} (h : ∀ j, j < 26 → Q j ≠ a) : mW G Q X w0 a = w0 a := by
  unfold mW
  cases hf : (List.range 26).find? (fun i => decide (Q i = a)) with
  | none => rfl
  | some i => exact absurd (mW_find hf).1 (h i (mW_find hf).2)
theorem mW_set {G : EG} {Q : Nat → Nat} {X X' : XS} {w0 : hp_M} (hQ : qInj Q) (j : Nat) (hj : j < 26) {e : va_E} (h1 : mCell G Q X' j = e) (h2 : ∀ i, i < 26 → i ≠ j → mCell G Q X' i = mCell G Q X i) : hp_set (mW G Q X w0) (Q j) e = mW G Q X' w0 := by
  funext a
  by_cases ha : a = Q j
  · rw [ha, hp_set_eq, mW_at hQ j hj, h1]
  · rw [hp_set_ne ha]
    unfold mW
    cases hf : (List.range 26).find? (fun i => decide (Q i = a)) with
    | none => rfl
    | some i =>
      obtain ⟨g1, g2⟩ := mW_find hf
      show some _ = some _
      rw [h2 i g2 (fun e => ha (by rw [← g1, e]))]
theorem mCell_sI {G : EG} {Q : Nat → Nat} {X : XS} {j : Nat} {f : Nat → Int32} {i : Nat} (h : i ≠ j) : mCell G Q (xsI X j f) i = mCell G Q X i := by
  unfold mCell
  rw [show (xsI X j f).1 i = X.1 i from fset_ne h]
  rfl
theorem mCell_sD {G : EG} {Q : Nat → Nat} {X : XS} {j : Nat} {f : Nat → UInt64} {i : Nat} (h : i ≠ j) : mCell G Q (xsD X j f) i = mCell G Q X i := by
  unfold mCell
  rw [show (xsD X j f).2.1 i = X.2.1 i from fset_ne h]
  rfl
theorem mw_o {G : EG} {Q : Nat → Nat} {X : XS} {w0 : hp_M} (hQ : qInj Q) : mW G Q X w0 (Q 25) = some (.inr (5, [.ref (Q 0), .ref (Q 1), .ref (Q 2), .ref (Q 3), .ref (Q 4), .ref (Q 5), .ref (Q 6), .ref (Q 7), .ref (Q 8), .ref (Q 9), .ref (Q 10), .ref (Q 11), .ref (Q 12), .ref (Q 13), .ref (Q 14), .ref (Q 15), .ref (Q 16), .ref (Q 17), .ref (Q 18), .ref (Q 19), .ref (Q 20), .ref (Q 21), .ref (Q 22), .ref (Q 23), .ref (Q 24), .int X.2.2.1, .int X.2.2.2.1, .int X.2.2.2.2])) := mW_at hQ 25 (by decide)
theorem mws_N {G : EG} {Q : Nat → Nat} {X : XS} {w0 : hp_M} {v : Int32} (hQ : qInj Q) : hp_set (mW G Q X w0) (Q 25) (.inr (5, [.ref (Q 0), .ref (Q 1), .ref (Q 2), .ref (Q 3), .ref (Q 4), .ref (Q 5), .ref (Q 6), .ref (Q 7), .ref (Q 8), .ref (Q 9), .ref (Q 10), .ref (Q 11), .ref (Q 12), .ref (Q 13), .ref (Q 14), .ref (Q 15), .ref (Q 16), .ref (Q 17), .ref (Q 18), .ref (Q 19), .ref (Q 20), .ref (Q 21), .ref (Q 22), .ref (Q 23), .ref (Q 24), .int v, .int X.2.2.2.1, .int X.2.2.2.2])) = mW G Q (xsN X v) w0 := by
  refine mW_set hQ 25 (by decide) rfl (fun i hi hne => ?_)
  unfold mCell
  rw [if_neg hne, if_neg hne]
  rfl
theorem mws_P {G : EG} {Q : Nat → Nat} {X : XS} {w0 : hp_M} {v : Int32} (hQ : qInj Q) : hp_set (mW G Q X w0) (Q 25) (.inr (5, [.ref (Q 0), .ref (Q 1), .ref (Q 2), .ref (Q 3), .ref (Q 4), .ref (Q 5), .ref (Q 6), .ref (Q 7), .ref (Q 8), .ref (Q 9), .ref (Q 10), .ref (Q 11), .ref (Q 12), .ref (Q 13), .ref (Q 14), .ref (Q 15), .ref (Q 16), .ref (Q 17), .ref (Q 18), .ref (Q 19), .ref (Q 20), .ref (Q 21), .ref (Q 22), .ref (Q 23), .ref (Q 24), .int X.2.2.1, .int v, .int X.2.2.2.2])) = mW G Q (xsP X v) w0 := by
  refine mW_set hQ 25 (by decide) rfl (fun i hi hne => ?_)
  unfold mCell
  rw [if_neg hne, if_neg hne]
  rfl
theorem mws_T {G : EG} {Q : Nat → Nat} {X : XS} {w0 : hp_M} {v : Int32} (hQ : qInj Q) : hp_set (mW G Q X w0) (Q 25) (.inr (5, [.ref (Q 0), .ref (Q 1), .ref (Q 2), .ref (Q 3), .ref (Q 4), .ref (Q 5), .ref (Q 6), .ref (Q 7), .ref (Q 8), .ref (Q 9), .ref (Q 10), .ref (Q 11), .ref (Q 12), .ref (Q 13), .ref (Q 14), .ref (Q 15), .ref (Q 16), .ref (Q 17), .ref (Q 18), .ref (Q 19), .ref (Q 20), .ref (Q 21), .ref (Q 22), .ref (Q 23), .ref (Q 24), .int X.2.2.1, .int X.2.2.2.1, .int v])) = mW G Q (xsT X v) w0 := by
  refine mW_set hQ 25 (by decide) rfl (fun i hi hne => ?_)
  unfold mCell
  rw [if_neg hne, if_neg hne]
  rfl
theorem mw_0 {G : EG} {Q : Nat → Nat} {X : XS} {w0 : hp_M} (hQ : qInj Q) : mW G Q X w0 (Q 0) = some (.inl (G.2.2.1 2, 14, .inl (X.1 0))) := mW_at hQ 0 (by decide)
theorem mws_0 {G : EG} {Q : Nat → Nat} {X : XS} {w0 : hp_M} {f : Nat → Int32} (hQ : qInj Q) : hp_set (mW G Q X w0) (Q 0) (.inl (G.2.2.1 2, 14, .inl f)) = mW G Q (xsI X 0 f) w0 :=
  mW_set hQ 0 (by decide) (by show (.inl (G.2.2.1 2, 14, .inl ((xsI X 0 f).1 0)) : va_E) = _; rw [xsI_y]) (fun i _ h => mCell_sI h)
theorem mw_1 {G : EG} {Q : Nat → Nat} {X : XS} {w0 : hp_M} (hQ : qInj Q) : mW G Q X w0 (Q 1) = some (.inl (G.2.2.1 2, 14, .inl (X.1 1))) := mW_at hQ 1 (by decide)
theorem mws_1 {G : EG} {Q : Nat → Nat} {X : XS} {w0 : hp_M} {f : Nat → Int32} (hQ : qInj Q) : hp_set (mW G Q X w0) (Q 1) (.inl (G.2.2.1 2, 14, .inl f)) = mW G Q (xsI X 1 f) w0 :=
  mW_set hQ 1 (by decide) (by show (.inl (G.2.2.1 2, 14, .inl ((xsI X 1 f).1 1)) : va_E) = _; rw [xsI_y]) (fun i _ h => mCell_sI h)
theorem mw_2 {G : EG} {Q : Nat → Nat} {X : XS} {w0 : hp_M} (hQ : qInj Q) : mW G Q X w0 (Q 2) = some (.inl (G.2.2.1 2, 14, .inl (X.1 2))) := mW_at hQ 2 (by decide)
theorem mws_2 {G : EG} {Q : Nat → Nat} {X : XS} {w0 : hp_M} {f : Nat → Int32} (hQ : qInj Q) : hp_set (mW G Q X w0) (Q 2) (.inl (G.2.2.1 2, 14, .inl f)) = mW G Q (xsI X 2 f) w0 :=
  mW_set hQ 2 (by decide) (by show (.inl (G.2.2.1 2, 14, .inl ((xsI X 2 f).1 2)) : va_E) = _; rw [xsI_y]) (fun i _ h => mCell_sI h)
theorem mw_3 {G : EG} {Q : Nat → Nat} {X : XS} {w0 : hp_M} (hQ : qInj Q) : mW G Q X w0 (Q 3) = some (.inl (G.2.2.1 2, 14, .inl (X.1 3))) := mW_at hQ 3 (by decide)
theorem mws_3 {G : EG} {Q : Nat → Nat} {X : XS} {w0 : hp_M} {f : Nat → Int32} (hQ : qInj Q) : hp_set (mW G Q X w0) (Q 3) (.inl (G.2.2.1 2, 14, .inl f)) = mW G Q (xsI X 3 f) w0 :=
  mW_set hQ 3 (by decide) (by show (.inl (G.2.2.1 2, 14, .inl ((xsI X 3 f).1 3)) : va_E) = _; rw [xsI_y]) (fun i _ h => mCell_sI h)
theorem mw_4 {G : EG} {Q : Nat → Nat} {X : XS} {w0 : hp_M} (hQ : qInj Q) : mW G Q X w0 (Q 4) = some (.inl (G.2.2.1 0, 14, .inl (X.1 4))) := mW_at hQ 4 (by decide)
theorem mws_4 {G : EG} {Q : Nat → Nat} {X : XS} {w0 : hp_M} {f : Nat → Int32} (hQ : qInj Q) : hp_set (mW G Q X w0) (Q 4) (.inl (G.2.2.1 0, 14, .inl f)) = mW G Q (xsI X 4 f) w0 :=
  mW_set hQ 4 (by decide) (by show (.inl (G.2.2.1 0, 14, .inl ((xsI X 4 f).1 4)) : va_E) = _; rw [xsI_y]) (fun i _ h => mCell_sI h)
theorem mw_5 {G : EG} {Q : Nat → Nat} {X : XS} {w0 : hp_M} (hQ : qInj Q) : mW G Q X w0 (Q 5) = some (.inl (G.2.2.1 0, 14, .inl (X.1 5))) := mW_at hQ 5 (by decide)
theorem mws_5 {G : EG} {Q : Nat → Nat} {X : XS} {w0 : hp_M} {f : Nat → Int32} (hQ : qInj Q) : hp_set (mW G Q X w0) (Q 5) (.inl (G.2.2.1 0, 14, .inl f)) = mW G Q (xsI X 5 f) w0 :=
  mW_set hQ 5 (by decide) (by show (.inl (G.2.2.1 0, 14, .inl ((xsI X 5 f).1 5)) : va_E) = _; rw [xsI_y]) (fun i _ h => mCell_sI h)
theorem mw_6 {G : EG} {Q : Nat → Nat} {X : XS} {w0 : hp_M} (hQ : qInj Q) : mW G Q X w0 (Q 6) = some (.inl (G.2.2.1 0, 14, .inl (X.1 6))) := mW_at hQ 6 (by decide)
theorem mws_6 {G : EG} {Q : Nat → Nat} {X : XS} {w0 : hp_M} {f : Nat → Int32} (hQ : qInj Q) : hp_set (mW G Q X w0) (Q 6) (.inl (G.2.2.1 0, 14, .inl f)) = mW G Q (xsI X 6 f) w0 :=
  mW_set hQ 6 (by decide) (by show (.inl (G.2.2.1 0, 14, .inl ((xsI X 6 f).1 6)) : va_E) = _; rw [xsI_y]) (fun i _ h => mCell_sI h)
theorem mw_7 {G : EG} {Q : Nat → Nat} {X : XS} {w0 : hp_M} (hQ : qInj Q) : mW G Q X w0 (Q 7) = some (.inl (G.2.2.1 0, 14, .inl (X.1 7))) := mW_at hQ 7 (by decide)
theorem mws_7 {G : EG} {Q : Nat → Nat} {X : XS} {w0 : hp_M} {f : Nat → Int32} (hQ : qInj Q) : hp_set (mW G Q X w0) (Q 7) (.inl (G.2.2.1 0, 14, .inl f)) = mW G Q (xsI X 7 f) w0 :=
  mW_set hQ 7 (by decide) (by show (.inl (G.2.2.1 0, 14, .inl ((xsI X 7 f).1 7)) : va_E) = _; rw [xsI_y]) (fun i _ h => mCell_sI h)
theorem mw_8 {G : EG} {Q : Nat → Nat} {X : XS} {w0 : hp_M} (hQ : qInj Q) : mW G Q X w0 (Q 8) = some (.inl (G.2.2.1 0, 196, .inl (X.1 8))) := mW_at hQ 8 (by decide)
theorem mws_8 {G : EG} {Q : Nat → Nat} {X : XS} {w0 : hp_M} {f : Nat → Int32} (hQ : qInj Q) : hp_set (mW G Q X w0) (Q 8) (.inl (G.2.2.1 0, 196, .inl f)) = mW G Q (xsI X 8 f) w0 :=
  mW_set hQ 8 (by decide) (by show (.inl (G.2.2.1 0, 196, .inl ((xsI X 8 f).1 8)) : va_E) = _; rw [xsI_y]) (fun i _ h => mCell_sI h)
theorem mw_9 {G : EG} {Q : Nat → Nat} {X : XS} {w0 : hp_M} (hQ : qInj Q) : mW G Q X w0 (Q 9) = some (.inl (G.2.2.1 0, 14, .inl (X.1 9))) := mW_at hQ 9 (by decide)
theorem mws_9 {G : EG} {Q : Nat → Nat} {X : XS} {w0 : hp_M} {f : Nat → Int32} (hQ : qInj Q) : hp_set (mW G Q X w0) (Q 9) (.inl (G.2.2.1 0, 14, .inl f)) = mW G Q (xsI X 9 f) w0 :=
  mW_set hQ 9 (by decide) (by show (.inl (G.2.2.1 0, 14, .inl ((xsI X 9 f).1 9)) : va_E) = _; rw [xsI_y]) (fun i _ h => mCell_sI h)
theorem mw_10 {G : EG} {Q : Nat → Nat} {X : XS} {w0 : hp_M} (hQ : qInj Q) : mW G Q X w0 (Q 10) = some (.inl (G.2.2.1 0, 56, .inl (X.1 10))) := mW_at hQ 10 (by decide)
theorem mws_10 {G : EG} {Q : Nat → Nat} {X : XS} {w0 : hp_M} {f : Nat → Int32} (hQ : qInj Q) : hp_set (mW G Q X w0) (Q 10) (.inl (G.2.2.1 0, 56, .inl f)) = mW G Q (xsI X 10 f) w0 :=
  mW_set hQ 10 (by decide) (by show (.inl (G.2.2.1 0, 56, .inl ((xsI X 10 f).1 10)) : va_E) = _; rw [xsI_y]) (fun i _ h => mCell_sI h)
theorem mw_11 {G : EG} {Q : Nat → Nat} {X : XS} {w0 : hp_M} (hQ : qInj Q) : mW G Q X w0 (Q 11) = some (.inl (G.2.2.1 0, 14, .inl (X.1 11))) := mW_at hQ 11 (by decide)
theorem mws_11 {G : EG} {Q : Nat → Nat} {X : XS} {w0 : hp_M} {f : Nat → Int32} (hQ : qInj Q) : hp_set (mW G Q X w0) (Q 11) (.inl (G.2.2.1 0, 14, .inl f)) = mW G Q (xsI X 11 f) w0 :=
  mW_set hQ 11 (by decide) (by show (.inl (G.2.2.1 0, 14, .inl ((xsI X 11 f).1 11)) : va_E) = _; rw [xsI_y]) (fun i _ h => mCell_sI h)
theorem mw_12 {G : EG} {Q : Nat → Nat} {X : XS} {w0 : hp_M} (hQ : qInj Q) : mW G Q X w0 (Q 12) = some (.inl (G.2.2.1 0, 14, .inl (X.1 12))) := mW_at hQ 12 (by decide)
theorem mws_12 {G : EG} {Q : Nat → Nat} {X : XS} {w0 : hp_M} {f : Nat → Int32} (hQ : qInj Q) : hp_set (mW G Q X w0) (Q 12) (.inl (G.2.2.1 0, 14, .inl f)) = mW G Q (xsI X 12 f) w0 :=
  mW_set hQ 12 (by decide) (by show (.inl (G.2.2.1 0, 14, .inl ((xsI X 12 f).1 12)) : va_E) = _; rw [xsI_y]) (fun i _ h => mCell_sI h)
theorem mw_13 {G : EG} {Q : Nat → Nat} {X : XS} {w0 : hp_M} (hQ : qInj Q) : mW G Q X w0 (Q 13) = some (.inl (G.2.2.1 0, 14, .inl (X.1 13))) := mW_at hQ 13 (by decide)
theorem mws_13 {G : EG} {Q : Nat → Nat} {X : XS} {w0 : hp_M} {f : Nat → Int32} (hQ : qInj Q) : hp_set (mW G Q X w0) (Q 13) (.inl (G.2.2.1 0, 14, .inl f)) = mW G Q (xsI X 13 f) w0 :=
  mW_set hQ 13 (by decide) (by show (.inl (G.2.2.1 0, 14, .inl ((xsI X 13 f).1 13)) : va_E) = _; rw [xsI_y]) (fun i _ h => mCell_sI h)
theorem mw_14 {G : EG} {Q : Nat → Nat} {X : XS} {w0 : hp_M} (hQ : qInj Q) : mW G Q X w0 (Q 14) = some (.inl (G.2.2.1 1, 14, .inr (.inr (.inr (.inl (X.2.1 14)))))) := mW_at hQ 14 (by decide)
theorem mws_14 {G : EG} {Q : Nat → Nat} {X : XS} {w0 : hp_M} {f : Nat → UInt64} (hQ : qInj Q) : hp_set (mW G Q X w0) (Q 14) (.inl (G.2.2.1 1, 14, .inr (.inr (.inr (.inl f))))) = mW G Q (xsD X 14 f) w0 :=
  mW_set hQ 14 (by decide) (by show (.inl (G.2.2.1 1, 14, .inr (.inr (.inr (.inl ((xsD X 14 f).2.1 14))))) : va_E) = _; rw [xsD_y]) (fun i _ h => mCell_sD h)
theorem mw_15 {G : EG} {Q : Nat → Nat} {X : XS} {w0 : hp_M} (hQ : qInj Q) : mW G Q X w0 (Q 15) = some (.inl (G.2.2.1 1, 14, .inr (.inr (.inr (.inl (X.2.1 15)))))) := mW_at hQ 15 (by decide)
theorem mws_15 {G : EG} {Q : Nat → Nat} {X : XS} {w0 : hp_M} {f : Nat → UInt64} (hQ : qInj Q) : hp_set (mW G Q X w0) (Q 15) (.inl (G.2.2.1 1, 14, .inr (.inr (.inr (.inl f))))) = mW G Q (xsD X 15 f) w0 :=
  mW_set hQ 15 (by decide) (by show (.inl (G.2.2.1 1, 14, .inr (.inr (.inr (.inl ((xsD X 15 f).2.1 15))))) : va_E) = _; rw [xsD_y]) (fun i _ h => mCell_sD h)
theorem mw_16 {G : EG} {Q : Nat → Nat} {X : XS} {w0 : hp_M} (hQ : qInj Q) : mW G Q X w0 (Q 16) = some (.inl (G.2.2.1 1, 14, .inr (.inr (.inr (.inl (X.2.1 16)))))) := mW_at hQ 16 (by decide)
theorem mws_16 {G : EG} {Q : Nat → Nat} {X : XS} {w0 : hp_M} {f : Nat → UInt64} (hQ : qInj Q) : hp_set (mW G Q X w0) (Q 16) (.inl (G.2.2.1 1, 14, .inr (.inr (.inr (.inl f))))) = mW G Q (xsD X 16 f) w0 :=
  mW_set hQ 16 (by decide) (by show (.inl (G.2.2.1 1, 14, .inr (.inr (.inr (.inl ((xsD X 16 f).2.1 16))))) : va_E) = _; rw [xsD_y]) (fun i _ h => mCell_sD h)
theorem mw_17 {G : EG} {Q : Nat → Nat} {X : XS} {w0 : hp_M} (hQ : qInj Q) : mW G Q X w0 (Q 17) = some (.inl (G.2.2.1 1, 56, .inr (.inr (.inr (.inl (X.2.1 17)))))) := mW_at hQ 17 (by decide)
theorem mws_17 {G : EG} {Q : Nat → Nat} {X : XS} {w0 : hp_M} {f : Nat → UInt64} (hQ : qInj Q) : hp_set (mW G Q X w0) (Q 17) (.inl (G.2.2.1 1, 56, .inr (.inr (.inr (.inl f))))) = mW G Q (xsD X 17 f) w0 :=
  mW_set hQ 17 (by decide) (by show (.inl (G.2.2.1 1, 56, .inr (.inr (.inr (.inl ((xsD X 17 f).2.1 17))))) : va_E) = _; rw [xsD_y]) (fun i _ h => mCell_sD h)
theorem mw_18 {G : EG} {Q : Nat → Nat} {X : XS} {w0 : hp_M} (hQ : qInj Q) : mW G Q X w0 (Q 18) = some (.inl (G.2.2.1 1, 224, .inr (.inr (.inr (.inl (X.2.1 18)))))) := mW_at hQ 18 (by decide)
theorem mws_18 {G : EG} {Q : Nat → Nat} {X : XS} {w0 : hp_M} {f : Nat → UInt64} (hQ : qInj Q) : hp_set (mW G Q X w0) (Q 18) (.inl (G.2.2.1 1, 224, .inr (.inr (.inr (.inl f))))) = mW G Q (xsD X 18 f) w0 :=
  mW_set hQ 18 (by decide) (by show (.inl (G.2.2.1 1, 224, .inr (.inr (.inr (.inl ((xsD X 18 f).2.1 18))))) : va_E) = _; rw [xsD_y]) (fun i _ h => mCell_sD h)
theorem mw_19 {G : EG} {Q : Nat → Nat} {X : XS} {w0 : hp_M} (hQ : qInj Q) : mW G Q X w0 (Q 19) = some (.inl (G.2.2.1 1, 224, .inr (.inr (.inr (.inl (X.2.1 19)))))) := mW_at hQ 19 (by decide)
theorem mws_19 {G : EG} {Q : Nat → Nat} {X : XS} {w0 : hp_M} {f : Nat → UInt64} (hQ : qInj Q) : hp_set (mW G Q X w0) (Q 19) (.inl (G.2.2.1 1, 224, .inr (.inr (.inr (.inl f))))) = mW G Q (xsD X 19 f) w0 :=
  mW_set hQ 19 (by decide) (by show (.inl (G.2.2.1 1, 224, .inr (.inr (.inr (.inl ((xsD X 19 f).2.1 19))))) : va_E) = _; rw [xsD_y]) (fun i _ h => mCell_sD h)
theorem mw_20 {G : EG} {Q : Nat → Nat} {X : XS} {w0 : hp_M} (hQ : qInj Q) : mW G Q X w0 (Q 20) = some (.inl (G.2.2.1 1, 14, .inr (.inr (.inr (.inl (X.2.1 20)))))) := mW_at hQ 20 (by decide)
theorem mws_20 {G : EG} {Q : Nat → Nat} {X : XS} {w0 : hp_M} {f : Nat → UInt64} (hQ : qInj Q) : hp_set (mW G Q X w0) (Q 20) (.inl (G.2.2.1 1, 14, .inr (.inr (.inr (.inl f))))) = mW G Q (xsD X 20 f) w0 :=
  mW_set hQ 20 (by decide) (by show (.inl (G.2.2.1 1, 14, .inr (.inr (.inr (.inl ((xsD X 20 f).2.1 20))))) : va_E) = _; rw [xsD_y]) (fun i _ h => mCell_sD h)
theorem mw_21 {G : EG} {Q : Nat → Nat} {X : XS} {w0 : hp_M} (hQ : qInj Q) : mW G Q X w0 (Q 21) = some (.inl (G.2.2.1 1, 14, .inr (.inr (.inr (.inl (X.2.1 21)))))) := mW_at hQ 21 (by decide)
theorem mws_21 {G : EG} {Q : Nat → Nat} {X : XS} {w0 : hp_M} {f : Nat → UInt64} (hQ : qInj Q) : hp_set (mW G Q X w0) (Q 21) (.inl (G.2.2.1 1, 14, .inr (.inr (.inr (.inl f))))) = mW G Q (xsD X 21 f) w0 :=
  mW_set hQ 21 (by decide) (by show (.inl (G.2.2.1 1, 14, .inr (.inr (.inr (.inl ((xsD X 21 f).2.1 21))))) : va_E) = _; rw [xsD_y]) (fun i _ h => mCell_sD h)
theorem mw_22 {G : EG} {Q : Nat → Nat} {X : XS} {w0 : hp_M} (hQ : qInj Q) : mW G Q X w0 (Q 22) = some (.inl (G.2.2.1 1, 28, .inr (.inr (.inr (.inl (X.2.1 22)))))) := mW_at hQ 22 (by decide)
theorem mws_22 {G : EG} {Q : Nat → Nat} {X : XS} {w0 : hp_M} {f : Nat → UInt64} (hQ : qInj Q) : hp_set (mW G Q X w0) (Q 22) (.inl (G.2.2.1 1, 28, .inr (.inr (.inr (.inl f))))) = mW G Q (xsD X 22 f) w0 :=
  mW_set hQ 22 (by decide) (by show (.inl (G.2.2.1 1, 28, .inr (.inr (.inr (.inl ((xsD X 22 f).2.1 22))))) : va_E) = _; rw [xsD_y]) (fun i _ h => mCell_sD h)
theorem mw_23 {G : EG} {Q : Nat → Nat} {X : XS} {w0 : hp_M} (hQ : qInj Q) : mW G Q X w0 (Q 23) = some (.inl (G.2.2.1 1, 28, .inr (.inr (.inr (.inl (X.2.1 23)))))) := mW_at hQ 23 (by decide)
theorem mws_23 {G : EG} {Q : Nat → Nat} {X : XS} {w0 : hp_M} {f : Nat → UInt64} (hQ : qInj Q) : hp_set (mW G Q X w0) (Q 23) (.inl (G.2.2.1 1, 28, .inr (.inr (.inr (.inl f))))) = mW G Q (xsD X 23 f) w0 :=
  mW_set hQ 23 (by decide) (by show (.inl (G.2.2.1 1, 28, .inr (.inr (.inr (.inl ((xsD X 23 f).2.1 23))))) : va_E) = _; rw [xsD_y]) (fun i _ h => mCell_sD h)
theorem mw_24 {G : EG} {Q : Nat → Nat} {X : XS} {w0 : hp_M} (hQ : qInj Q) : mW G Q X w0 (Q 24) = some (.inl (G.2.2.1 0, 192, .inl (X.1 24))) := mW_at hQ 24 (by decide)
theorem mws_24 {G : EG} {Q : Nat → Nat} {X : XS} {w0 : hp_M} {f : Nat → Int32} (hQ : qInj Q) : hp_set (mW G Q X w0) (Q 24) (.inl (G.2.2.1 0, 192, .inl f)) = mW G Q (xsI X 24 f) w0 :=
  mW_set hQ 24 (by decide) (by show (.inl (G.2.2.1 0, 192, .inl ((xsI X 24 f).1 24)) : va_E) = _; rw [xsI_y]) (fun i _ h => mCell_sI h)

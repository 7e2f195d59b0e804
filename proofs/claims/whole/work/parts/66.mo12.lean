/-! points of the model; what it finds there -/
abbrev nxV (d : DS) (u : UInt64) : Nat → Nat → UInt64 := fun k i => vX d u k i
abbrev nsV (d : DS) (u : UInt64) : Nat → Int32 := fun k => vS d u k
def tilG (d : DS) (k : Nat) (a : UInt64) : UInt64 := if sNi d k 0 = 0 then tilK d k a else a
def ptR (d : DS) (u x y : UInt64) : Nat → Nat → UInt64 × UInt64
  | 0, _ => (x, y)
  | f + 1, k => match sPa d k with
    | none => (tilG d k x, tilG d k y)
    | some g => (tilG d k (locP d (nxV d u) (nsV d u) k (ptR d u x y f g).1 (ptR d u x y f g).2).1, tilG d k (locP d (nxV d u) (nsV d u) k (ptR d u x y f g).1 (ptR d u x y f g).2).2)
/-- the point as a node uses it -/
def pt (d : DS) (dp : Nat → Nat) (u x y : UInt64) (k : Nat) : UInt64 × UInt64 := ptR d u x y (dp k + 1) k
/-- the point as it comes to a node -/
def rwP (d : DS) (dp : Nat → Nat) (u x y : UInt64) (k : Nat) : UInt64 × UInt64 := match sPa d k with
  | none => (x, y)
  | some g => locP d (nxV d u) (nsV d u) k (pt d dp u x y g).1 (pt d dp u x y g).2
theorem rwP_0 {d : DS} {dp : Nat → Nat} {u x y : UInt64} {k : Nat} (h : sPa d k = none) : rwP d dp u x y k = (x, y) := by unfold rwP; rw [h]
theorem rwP_s {d : DS} {dp : Nat → Nat} {u x y : UInt64} {k g : Nat} (h : sPa d k = some g) : rwP d dp u x y k = locP d (nxV d u) (nsV d u) k (pt d dp u x y g).1 (pt d dp u x y g).2 := by unfold rwP; rw [h]
theorem pt_eq {d : DS} {dp : Nat → Nat} (htr : tOk d dp) {u x y : UInt64} {k : Nat} (hk : k < 14) (ht : sTh d k = true) : pt d dp u x y k = (tilG d k (rwP d dp u x y k).1, tilG d k (rwP d dp u x y k).2) := by
  show ptR d u x y (dp k + 1) k = _
  rcases htr.up hk ht with ⟨-, h1, -⟩ | ⟨g, h1, h2, h3, -, h5, -⟩
  · rw [rwP_0 h1]
    unfold ptR
    rw [h1]
  · rw [rwP_s h2]
    unfold ptR pt
    rw [h2, h5]
theorem nxV_ok {d : DS} {u : UInt64} (hv : vOk d) (hu : tiO u) {k : Nat} (hk : k < 14) (ht : sTh d k = true) {i : Nat} (hi : i < 2) : nxO (nxV d u k i) := vX_b (hv k hk ht) hu i hi
theorem nsV_ok {d : DS} {u : UInt64} (hv : vOk d) {k : Nat} (hk : k < 14) (ht : sTh d k = true) : s5 (nsV d u k) := by
  obtain ⟨s, h1, -, h3⟩ := vJ_s (u := u) (hv k hk ht)
  show s5 (vS d u k)
  rw [h3]
  exact h1
theorem tilG_ok {d : DS} {k g : Nat} (hg : g ≤ 5) (hv : vOk1 d k) {a : UInt64} (ha : pR g a) : pOk g (tilG d k a) := by
  unfold tilG
  by_cases h : sNi d k 0 = 0
  · rw [if_pos h]; exact tilK_ok hg hv ha
  · rw [if_neg h]; exact ha.ok hg
theorem rwP_ok {d : DS} {dp : Nat → Nat} (htr : tOk d dp) (hv : vOk d) {u x y : UInt64} (hu : tiO u) (hx : pR 0 x) (hy : pR 0 y) : ∀ n k, dp k = n → k < 14 → sTh d k = true → pR n (rwP d dp u x y k).1 ∧ pR n (rwP d dp u x y k).2 := by
  intro n
  induction n with
  | zero =>
    intro k hn hk ht
    rcases htr.up hk ht with ⟨-, h1, -⟩ | ⟨g, h1, h2, h3, -, h5, -⟩
    · rw [rwP_0 h1]; exact ⟨hx, hy⟩
    · omega
  | succ n ih =>
    intro k hn hk ht
    rcases htr.up hk ht with ⟨-, h1, h2⟩ | ⟨g, h1, h2, h3, -, h5, -⟩
    · omega
    · have h5' := htr.2.2.2.2.2.2 k hk ht
      obtain ⟨q1, q2⟩ := ih g (by omega) h1 h3
      rw [rwP_s h2, pt_eq htr h1 h3]
      exact locP_ok (by omega) (tilG_ok (by omega) (hv g h1 h3) q1) (tilG_ok (by omega) (hv g h1 h3) q2) (nxV_ok hv hu hk ht (by decide)) (nxV_ok hv hu hk ht (by decide)) (nsV_ok hv hk ht)
theorem pt_ok {d : DS} {dp : Nat → Nat} (htr : tOk d dp) (hv : vOk d) {u x y : UInt64} (hu : tiO u) (hx : pR 0 x) (hy : pR 0 y) {k : Nat} (hk : k < 14) (ht : sTh d k = true) : pOk (dp k) (pt d dp u x y k).1 ∧ pOk (dp k) (pt d dp u x y k).2 := by
  obtain ⟨q1, q2⟩ := rwP_ok htr hv hu hx hy _ k rfl hk ht
  have h5 := htr.2.2.2.2.2.2 k hk ht
  rw [pt_eq htr hk ht]
  exact ⟨tilG_ok h5 (hv k hk ht) q1, tilG_ok h5 (hv k hk ht) q2⟩
/-- what a node has there, hidden or not -/
def Bk (d : DS) (dp : Nat → Nat) (u x y : UInt64) (k : Nat) : Option Nat :=
  if sNi d k 0 = 0 then tIn d (tA d (nxV d u) (nsV d u) (5 - dp k)) k (rwP d dp u x y k).1 (rwP d dp u x y k).2 else if covB (sNi d k 0) (sNd d k 0) (sNd d k 1) (rwP d dp u x y k).1 (rwP d dp u x y k).2 then some k else none
def Rk (d : DS) (dp : Nat → Nat) (u x y : UInt64) (k : Nat) : Option Nat := if k ≠ 0 ∧ sNi d k 2 ≠ 0 then none else Bk d dp u x y k
theorem Rk_root {d : DS} {dp : Nat → Nat} (htr : tOk d dp) {u x y : UInt64} : Rk d dp u x y 0 = topF d u x y := by
  unfold Rk Bk
  rw [if_neg (fun h => h.1 rfl), if_pos htr.2.2.1, rwP_0 htr.2.1, htr.2.2.2.1]
  rfl
theorem Rk_child {d : DS} {dp : Nat → Nat} (htr : tOk d dp) {u x y : UInt64} {g c : Nat} (hg : g < 14) (hgt : sTh d g = true) (hg0 : sNi d g 0 = 0) (hc : c ∈ sCh d g) : tA d (nxV d u) (nsV d u) (5 - dp g) c (tilK d g (rwP d dp u x y g).1) (tilK d g (rwP d dp u x y g).2) = Rk d dp u x y c := by
  obtain ⟨h1, h2, h3, h4, h5, h6⟩ := htr.child hg hgt hc
  have e : pt d dp u x y g = (tilK d g (rwP d dp u x y g).1, tilK d g (rwP d dp u x y g).2) := by
    rw [pt_eq htr hg hgt]
    unfold tilG
    rw [if_pos hg0, if_pos hg0]
  rw [show 5 - dp g = (5 - dp c) + 1 by omega]
  unfold tA Rk Bk
  rw [rwP_s h3, e]
  by_cases q : sNi d c 2 = 0
  · rw [if_pos q, if_neg (show ¬ (c ≠ 0 ∧ sNi d c 2 ≠ 0) from fun h => h.2 q)]
  · rw [if_neg q, if_pos (show c ≠ 0 ∧ sNi d c 2 ≠ 0 from ⟨h4, q⟩)]
theorem fS_congr {L : List Nat} {f g : Nat → Option Nat} (h : ∀ c ∈ L, f c = g c) : L.findSome? f = L.findSome? g := by
  induction L with
  | nil => rfl
  | cons a L ih =>
    rw [List.findSome?_cons, List.findSome?_cons, h a List.mem_cons_self, ih (fun c hc => h c (List.mem_cons_of_mem _ hc))]
/-- a group's answer out of its children's -/
def gIn (d : DS) (R : Nat → Option Nat) (k : Nat) : Option Nat := if sNi d k 5 = 1 then (if fstH (sCh d k) R then ((sCh d k).drop 1).reverse.findSome? R else none) else ((sCh d k).drop 0).reverse.findSome? R
theorem Bk_group {d : DS} {dp : Nat → Nat} (htr : tOk d dp) {u x y : UInt64} {g : Nat} (hg : g < 14) (hgt : sTh d g = true) (hg0 : sNi d g 0 = 0) : Bk d dp u x y g = gIn d (Rk d dp u x y) g := by
  unfold Bk gIn tIn
  rw [if_pos hg0]
  have hc : ∀ n, ((sCh d g).drop n).reverse.findSome? (fun x' => tA d (nxV d u) (nsV d u) (5 - dp g) x' (tilK d g (rwP d dp u x y g).1) (tilK d g (rwP d dp u x y g).2)) = ((sCh d g).drop n).reverse.findSome? (Rk d dp u x y) := fun n => fS_congr (fun c hc => Rk_child htr hg hgt hg0 (List.mem_of_mem_drop (List.mem_reverse.mp hc)))
  have hf : fstH (sCh d g) (fun x' => tA d (nxV d u) (nsV d u) (5 - dp g) x' (tilK d g (rwP d dp u x y g).1) (tilK d g (rwP d dp u x y g).2)) = fstH (sCh d g) (Rk d dp u x y) := by
    unfold fstH
    cases h : (sCh d g)[0]? with
    | none => rfl
    | some c =>
      dsimp only
      rw [Rk_child htr hg hgt hg0 (List.mem_of_getElem? h)]
  rw [hc, hc, hf]
theorem mPw_eq {v : UInt64} {s : Int32} (hs : s5 s) (hv : fx 0 s.toInt v) : mPw v = pw2 s := by
  have z0 : fx 0 0 FP.dconst0 := by have := fx_i2d 0; rw [i2d_z] at this; exact this
  have z1 := fx_c1
  have zm : fx 0 (-1) 13830554455654793216 := by
    have := fx_i2d (-1)
    have e : FP.i2d (-1) = 13830554455654793216 := by decide +kernel
    rw [e] at this
    exact this
  unfold mPw pw2
  rcases hs with rfl | rfl | rfl | rfl | rfl
  · rw [if_pos ((fx_lt hv z0).mpr (by decide)), if_neg (fun h => absurd ((fx_eq hv zm).mp h) (by decide))]; rfl
  · rw [if_pos ((fx_lt hv z0).mpr (by decide)), if_pos ((fx_eq hv zm).mpr (by decide))]; rfl
  · rw [if_neg (fun h => absurd ((fx_lt hv z0).mp h) (by decide)), if_pos ((fx_eq hv z0).mpr (by decide))]; decide
  · rw [if_neg (fun h => absurd ((fx_lt hv z0).mp h) (by decide)), if_neg (fun h => absurd ((fx_eq hv z0).mp h) (by decide)), if_pos ((fx_eq hv z1).mpr (by decide))]; rfl
  · rw [if_neg (fun h => absurd ((fx_lt hv z0).mp h) (by decide)), if_neg (fun h => absurd ((fx_eq hv z0).mp h) (by decide)), if_neg (fun h => absurd ((fx_eq hv z1).mp h) (by decide))]; rfl
/-- the model but for what is only worked out -/
def xSc (Y X : XS) : Prop := (∀ j, j ≠ 2 → j ≠ 3 → j ≠ 12 → Y.1 j = X.1 j) ∧ (∀ j, j < 20 → Y.2.1 j = X.2.1 j) ∧ Y.2.2 = X.2.2
theorem xSc.rf (X : XS) : xSc X X := ⟨fun _ _ _ _ => rfl, fun _ _ => rfl, rfl⟩
theorem xSc.tr {X Y Z : XS} (h1 : xSc Y X) (h2 : xSc Z Y) : xSc Z X := ⟨fun j a b c => (h2.1 j a b c).trans (h1.1 j a b c), fun j a => (h2.2.1 j a).trans (h1.2.1 j a), h2.2.2.trans h1.2.2⟩
theorem xSc.I {X : XS} {j : Nat} {f : Nat → Int32} (h : j = 2 ∨ j = 3 ∨ j = 12) : xSc (xsI X j f) X := ⟨fun i a b c => fset_ne (by omega), fun _ _ => rfl, rfl⟩
theorem xSc.D {X : XS} {j : Nat} {f : Nat → UInt64} (h : 20 ≤ j) : xSc (xsD X j f) X := ⟨fun _ _ _ _ => rfl, fun i a => fset_ne (by omega), rfl⟩
theorem mV.sc {X Y : XS} {d : DS} (h : mV X d) (hs : xSc Y X) : mV Y d := by
  obtain ⟨s1, s2, s3⟩ := hs
  intro c hc hct
  have := h c hc hct
  unfold mN1 at this ⊢
  rw [s1 1 (by decide) (by decide) (by decide), s1 4 (by decide) (by decide) (by decide), s1 5 (by decide) (by decide) (by decide), s1 9 (by decide) (by decide) (by decide), s1 6 (by decide) (by decide) (by decide), s1 7 (by decide) (by decide) (by decide), s1 8 (by decide) (by decide) (by decide), s1 10 (by decide) (by decide) (by decide), s2 14 (by decide), s2 15 (by decide), s2 16 (by decide), s2 17 (by decide), s2 18 (by decide), s2 19 (by decide)]
  exact this
theorem mN.sc {X Y : XS} {d : DS} (h : mN X d) (hs : xSc Y X) : mN Y d := ⟨fun c hc => by rw [hs.1 0 (by decide) (by decide) (by decide)]; exact h.1 c hc, h.2.sc hs⟩
theorem mO.sc {X Y : XS} {d : DS} {dp : Nat → Nat} {L : List Nat} (h : mO X d dp L) (hs : xSc Y X) : mO Y d dp L := h.mv rfl rfl (hs.1 11 (by decide) (by decide) (by decide)) (hs.1 13 (by decide) (by decide) (by decide)) (by rw [hs.2.2])
theorem mC.sc {X Y : XS} {d : DS} (h : mC X d) (hs : xSc Y X) : mC Y d := h.mv rfl rfl (hs.1 24 (by decide) (by decide) (by decide)) (by rw [hs.2.2])

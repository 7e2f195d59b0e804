/-! the law: what holds between the calls; how the two sides agree -/
theorem ePic.wc {G : EG} {m : MS} {d : DS} {w z : hp_M} (h : ePic G m d w) (hz : ∀ a, Own m d a → z a = w a) : ePic G m d z := by
  refine ⟨by rw [hz _ (Or.inl rfl)]; exact h.1, by rw [hz _ (Or.inr (Or.inl rfl))]; exact h.2.1, by rw [hz _ (Or.inr (Or.inr (Or.inl rfl)))]; exact h.2.2.1, fun k hk ht => nPic_iff.mpr ⟨fun r hr => ?_, (nPic_iff.mp (h.2.2.2.1 k hk ht)).2⟩, h.2.2.2.2⟩
  rw [hz _ (Or.inr (Or.inr (Or.inr ⟨k, r, hk, ht, hr, rfl⟩)))]
  exact h.ob hk ht hr
/-- class, model and the law's two rows lie apart -/
def HI (G : EG) (Q : Nat → Nat) (xo oa od : Nat) (w : hp_M) (ms : MS) (d : DS) (X : XS) (fo : Nat → Int64) (fd : Nat → UInt64) : Prop :=
  (mEo ms = xo ∧ ePic G ms d w ∧ nOk ms d) ∧ (qInj Q ∧ (∀ j, j < 26 → w (Q j) = some (mCell G Q X j)) ∧ ∀ j, j < 26 → ¬ Own ms d (Q j)) ∧
  (w oa = some (aJ G fo) ∧ w od = some (aD1 G fd) ∧ ¬ Own ms d oa ∧ ¬ Own ms d od ∧ (∀ j, j < 26 → Q j ≠ oa ∧ Q j ≠ od) ∧ oa ≠ od)
def LI (G : EG) (Q : Nat → Nat) (xo oa od : Nat) (w : hp_M) (ms : MS) (d : DS) (dp : Nat → Nat) (X : XS) (fo : Nat → Int64) (fd : Nat → UInt64) : Prop :=
  HI G Q xo oa od w ms d X fo fd ∧ tOk d dp ∧ vOk d ∧ sNi d 0 3 = 0 ∧ mP X d dp
theorem HI.self {G : EG} {Q : Nat → Nat} {xo oa od : Nat} {w : hp_M} {ms : MS} {d : DS} {X : XS} {fo : Nat → Int64} {fd : Nat → UInt64} (h : HI G Q xo oa od w ms d X fo fd) : mW G Q X w = w := by
  funext a
  by_cases e : ∃ j, j < 26 ∧ Q j = a
  · obtain ⟨j, hj, rfl⟩ := e
    rw [mW_at h.2.1.1 j hj, h.2.1.2.1 j hj]
  · exact mW_out (fun j hj q => e ⟨j, hj, q⟩)
theorem HI.pub {G : EG} {Q : Nat → Nat} {xo oa od : Nat} {w z : hp_M} {ms : MS} {d d' : DS} {X : XS} {fo : Nat → Int64} {fd : Nat → UInt64} (h : HI G Q xo oa od w ms d X fo fd) (hp : pubR G ms d w d' z) : ∃ ms', HI G Q xo oa od z ms' d' X fo fd := by
  obtain ⟨⟨a1, a2, a3⟩, ⟨b1, b2, b3⟩, c1, c2, c3, c4, c5, c6⟩ := h
  obtain ⟨ms', e1, e2, e3, e4⟩ := hp
  have no : ∀ a x, w a = some x → ¬ Own ms d a → ¬ Own ms' d' a := fun a x h1 h2 h3 => by
    rcases e4.2 a h3 with q | q
    · exact h2 q
    · rw [h1] at q; cases q
  exact ⟨ms', ⟨e1.trans a1, e2, e3⟩, ⟨b1, fun j hj => e4.1 _ _ (b2 j hj) (b3 j hj), fun j hj => no _ _ (b2 j hj) (b3 j hj)⟩, e4.1 _ _ c1 c3, e4.1 _ _ c2 c4, no _ _ c1 c3, no _ _ c2 c4, c5, c6⟩
theorem HI.out {G : EG} {Q : Nat → Nat} {xo oa od : Nat} {w : hp_M} {ms : MS} {d : DS} {X : XS} {fo : Nat → Int64} {fd : Nat → UInt64} (h : HI G Q xo oa od w ms d X fo fd) (f' : Nat → Int64) : HI G Q xo oa od (hp_set w oa (aJ G f')) ms d X f' fd := by
  obtain ⟨⟨a1, a2, a3⟩, ⟨b1, b2, b3⟩, c1, c2, c3, c4, c5, c6⟩ := h
  exact ⟨⟨a1, a2.wc (fun a ha => hp_set_ne (fun e => c3 (e ▸ ha))), a3⟩, ⟨b1, fun j hj => by rw [hp_set_ne (c5 j hj).1]; exact b2 j hj, b3⟩, hp_set_eq _ _ _, by rw [hp_set_ne (Ne.symm c6)]; exact c2, c3, c4, c5, c6⟩
theorem HI.outD {G : EG} {Q : Nat → Nat} {xo oa od : Nat} {w : hp_M} {ms : MS} {d : DS} {X : XS} {fo : Nat → Int64} {fd : Nat → UInt64} (h : HI G Q xo oa od w ms d X fo fd) (f' : Nat → UInt64) : HI G Q xo oa od (hp_set w od (aD1 G f')) ms d X fo f' := by
  obtain ⟨⟨a1, a2, a3⟩, ⟨b1, b2, b3⟩, c1, c2, c3, c4, c5, c6⟩ := h
  exact ⟨⟨a1, a2.wc (fun a ha => hp_set_ne (fun e => c4 (e ▸ ha))), a3⟩, ⟨b1, fun j hj => by rw [hp_set_ne (c5 j hj).2]; exact b2 j hj, b3⟩, by rw [hp_set_ne c6]; exact c1, hp_set_eq _ _ _, c3, c4, c5, c6⟩
theorem HI.mod {G : EG} {Q : Nat → Nat} {xo oa od : Nat} {w : hp_M} {ms : MS} {d : DS} {X : XS} {fo : Nat → Int64} {fd : Nat → UInt64} (h : HI G Q xo oa od w ms d X fo fd) (Y : XS) : HI G Q xo oa od (mW G Q Y w) ms d Y fo fd := by
  obtain ⟨⟨a1, a2, a3⟩, ⟨b1, b2, b3⟩, c1, c2, c3, c4, c5, c6⟩ := h
  exact ⟨⟨a1, a2.wc (fun a ha => mW_out (fun j hj e => b3 j hj (e ▸ ha))), a3⟩, ⟨b1, fun j hj => mW_at b1 j hj, b3⟩, by rw [mW_out (fun j hj => (c5 j hj).1)]; exact c1, by rw [mW_out (fun j hj => (c5 j hj).2)]; exact c2, c3, c4, c5, c6⟩
/-- how a case of the law ends: thrown is what was told, the answers are the same -/
def EN (G : EG) (Q : Nat → Nat) (xo oa od : Nat) (z z2 : hp_M) (r : Int32) (A : (Nat → Int64) → (Nat → UInt64) → Prop) : Prop :=
  ∃ ms d dp Y fo fd, z2 = mW G Q Y z ∧ LI G Q xo oa od z2 ms d dp Y fo fd ∧ Y.2.2.2.2 = r ∧ (r = 0 → A fo fd)
theorem nI14 {n : Int32} {k k' : Nat} (hk : k < 14) (hk' : k' < 14) (e : n = nI k) (e' : n = nI k') : k = k' := (nI_eq (a := k) (b := k') (by omega) (by omega)).mp (e.symm.trans e')
section AG
variable {G : EG} {Q : Nat → Nat} {xo oa od : Nat} {w z z2 u : hp_M} {ms : MS} {d : DS} {dp : Nat → Nat} {X : XS} {fo : Nat → Int64} {fd : Nat → UInt64}
/-- nothing was done, something was thrown -/
theorem ag_no {A : (Nat → Int64) → (Nat → UInt64) → Prop} (h : LI G Q xo oa od w ms d dp X fo fd) {r : Int32} (hr : r ≠ 0) (hz : pubR G ms d w d z) {Y : XS} (h2 : z2 = mW G Q Y z) (hY : mP Y d dp) (ht : Y.2.2.2.2 = r) : EN G Q xo oa od z z2 r A := by
  obtain ⟨ms', h'⟩ := h.1.pub hz
  exact ⟨ms', d, dp, Y, fo, fd, h2, by rw [h2]; exact ⟨h'.mod Y, h.2.1, h.2.2.1, h.2.2.2.1, hY⟩, ht, fun e => absurd e hr⟩
theorem ag_noT {A : (Nat → Int64) → (Nat → UInt64) → Prop} (h : LI G Q xo oa od w ms d dp X fo fd) {r : Int32} (hr : r ≠ 0) (hz : pubR G ms d w d z) (h2 : z2 = mW G Q (xsT X r) z) : EN G Q xo oa od z z2 r A := ag_no h hr hz h2 (h.2.2.2.2.T (v := r)) rfl
theorem pub_rf (h : LI G Q xo oa od w ms d dp X fo fd) : pubR G ms d w d w := ⟨ms, rfl, h.1.1.2.1, h.1.1.2.2, fR.rf ms d w⟩
/-- both did it, without an answer -/
theorem ag_v {A : (Nat → Int64) → (Nat → UInt64) → Prop} (h : LI G Q xo oa od w ms d dp X fo fd) {d' : DS} {dp' : Nat → Nat} (hz : pubR G ms d w d' z) (h1 : tOk d' dp') (h2 : vOk d') (h3 : sNi d' 0 3 = 0) {Y : XS} (hz2 : z2 = mW G Q Y z) (hY : mP Y d' dp') (ht : Y.2.2.2.2 = 0) (hA : ∀ f, A f fd) : EN G Q xo oa od z z2 0 A := by
  obtain ⟨ms', h'⟩ := h.1.pub hz
  exact ⟨ms', d', dp', Y, fo, fd, hz2, by rw [hz2]; exact ⟨h'.mod Y, h1, h2, h3, hY⟩, ht, fun _ => hA fo⟩
/-- both did it, with a number -/
theorem ag_i (h : LI G Q xo oa od w ms d dp X fo fd) {d' : DS} {dp' : Nat → Nat} {v b : Int32} (hu : pubR G ms d w d' u) (hz : z = hp_set u oa (aJ G (vp_updL fo 0 v.toInt64))) (h1 : tOk d' dp') (h2 : vOk d') (h3 : sNi d' 0 3 = 0) {Y : XS} (hz2 : z2 = mW G Q Y z) (hY : mP Y d' dp') (ht : Y.2.2.2.2 = 0) (hb : v = b) : EN G Q xo oa od z z2 0 (fun f _ => f 0 = b.toInt64) := by
  obtain ⟨ms', h'⟩ := h.1.pub hu
  have h'' := h'.out (vp_updL fo 0 v.toInt64)
  rw [← hz] at h''
  exact ⟨ms', d', dp', Y, _, fd, hz2, by rw [hz2]; exact ⟨h''.mod Y, h1, h2, h3, hY⟩, ht, fun _ => by rw [← hb]; exact if_pos rfl⟩
theorem LI.st {d' : DS} {Y : XS} (h : LI G Q xo oa od w ms d dp X fo fd) (hN : mN Y d') (e1 : sTh d' = sTh d) (e4 : sPa d' = sPa d) (ec : sCl d' = sCl d) (ep : sPt d' = sPt d) (h11 : Y.1 11 = X.1 11) (h13 : Y.1 13 = X.1 13) (hn : Y.2.2.1 = X.2.2.1) (h24 : Y.1 24 = X.1 24) (hp : Y.2.2.2.1 = X.2.2.2.1) : mP Y d' dp := by
  obtain ⟨h1, ⟨L, h2⟩, h3⟩ := h.2.2.2.2
  exact ⟨hN, ⟨L, h2.mv e1 e4 h11 h13 hn⟩, h3.mv ec ep h24 hp⟩
theorem ag_hide (h : LI G Q xo oa od w ms d dp X fo fd) {n : Int32} {on : Bool} {r : Int32}
    (hc : (r = 0 ∧ ∃ k, k < 14 ∧ n = nI k ∧ sTh d k = true ∧ ((isN d n ∧ n ≠ 0)) ∧ pubR G ms d w (dNi d k 2 (bI on)) z) ∨ (r = 1 ∧ pIA w (¬ ((isN d n ∧ n ≠ 0))) iae z))
    (hm : (¬ (isN d n ∧ n ≠ 0) ∧ z2 = mW G Q (xsT X 1) z) ∨ ∃ k, k < 14 ∧ n = nI k ∧ sTh d k = true ∧ (isN d n ∧ n ≠ 0) ∧ z2 = mW G Q (xsI (xsT X 0) 1 (upd (X.1 1) k (bI on))) z) : EN G Q xo oa od z z2 r (fun _ _ => True) := by
  rcases hc with ⟨rfl, k, c1, c2, c3, c4, c5⟩ | ⟨rfl, -, rfl, c4⟩
  · rcases hm with ⟨m1, -⟩ | ⟨k', m1, m2, m3, m4, m5⟩
    · exact absurd c4 m1
    · obtain rfl := nI14 c1 m1 c2 m2
      have hk0 : k ≠ 0 := fun e => c4.2 (by rw [c2, e]; rfl)
      exact ag_v h c5 (h.2.1.mv rfl (fun j => dNi_n (by omega)) rfl rfl) (h.2.2.1.ni k 2 _ (fun e => absurd e (by decide)) (fun e => absurd e (by decide)) (fun _ => bI_01 on) (fun e => absurd e (by decide)) (fun e => absurd e (by decide)) (fun e => absurd e (by decide))) (by rw [dNi_n (by omega)]; exact h.2.2.2.1) m5 (h.st (h.2.2.2.2.1.hide) rfl rfl rfl rfl rfl rfl rfl rfl rfl) rfl (fun _ => trivial)
  · rcases hm with ⟨m1, m2⟩ | ⟨k', m1, m2, m3, m4, m5⟩
    · exact ag_noT h (by decide) (pub_rf h) m2
    · exact absurd m4 c4
theorem ag_lay (h : LI G Q xo oa od w ms d dp X fo fd) {n t st : Int32} {r : Int32}
    (hc : (r = 0 ∧ ∃ k, k < 14 ∧ n = nI k ∧ sTh d k = true ∧ ((isN d n ∧ n ≠ 0) ∧ (0 ≤ t ∧ t ≤ 3) ∧ (-2 ≤ st ∧ st ≤ 2)) ∧ pubR G ms d w (dNi (dNi d k 3 t) k 4 st) z) ∨ (r = 1 ∧ pIA w (¬ ((isN d n ∧ n ≠ 0) ∧ (0 ≤ t ∧ t ≤ 3) ∧ (-2 ≤ st ∧ st ≤ 2))) iae z))
    (hm : (¬ ((isN d n ∧ n ≠ 0) ∧ (0 ≤ t ∧ t ≤ 3) ∧ (-2 ≤ st ∧ st ≤ 2)) ∧ z2 = mW G Q (xsT X 1) z) ∨ ∃ k, k < 14 ∧ n = nI k ∧ sTh d k = true ∧ ((isN d n ∧ n ≠ 0) ∧ (0 ≤ t ∧ t ≤ 3) ∧ (-2 ≤ st ∧ st ≤ 2)) ∧ z2 = mW G Q (xsD (xsI (xsT X 0) 9 (upd (X.1 9) k t)) 17 (vf_upd (X.2.1 17) (k * 4 + 2) (FP.i2d st))) z) : EN G Q xo oa od z z2 r (fun _ _ => True) := by
  rcases hc with ⟨rfl, k, c1, c2, c3, c4, c5⟩ | ⟨rfl, -, rfl, c4⟩
  · rcases hm with ⟨m1, -⟩ | ⟨k', m1, m2, m3, m4, m5⟩
    · exact absurd c4 m1
    · obtain rfl := nI14 c1 m1 c2 m2
      have hk0 : k ≠ 0 := fun e => c4.1.2 (by rw [c2, e]; rfl)
      have hs : s5 st := by
        obtain ⟨s1, s2⟩ := c4.2.2
        rw [Int32.le_iff_toInt_le] at s1 s2
        rw [show (-2 : Int32).toInt = -2 from by decide] at s1
        rw [show (2 : Int32).toInt = 2 from by decide] at s2
        have key : ∀ v : Int32, st.toInt = v.toInt → st = v := fun v e => Int32.toInt.inj e
        rcases (show st.toInt = -2 ∨ st.toInt = -1 ∨ st.toInt = 0 ∨ st.toInt = 1 ∨ st.toInt = 2 by omega) with q | q | q | q | q
        · exact Or.inl (key _ (by rw [q]; decide))
        · exact Or.inr (Or.inl (key _ (by rw [q]; decide)))
        · exact Or.inr (Or.inr (Or.inl (key _ (by rw [q]; decide))))
        · exact Or.inr (Or.inr (Or.inr (Or.inl (key _ (by rw [q]; decide)))))
        · exact Or.inr (Or.inr (Or.inr (Or.inr (key _ (by rw [q]; decide)))))
      exact ag_v h c5 (h.2.1.mv rfl (fun j => by rw [dNi_n (by omega), dNi_n (by omega)]) rfl rfl) ((h.2.2.1.ni k 3 t (fun e => absurd e (by decide)) (fun e => absurd e (by decide)) (fun e => absurd e (by decide)) (fun _ => i32_4 c4.2.1) (fun e => absurd e (by decide)) (fun e => absurd e (by decide))).ni k 4 st (fun e => absurd e (by decide)) (fun e => absurd e (by decide)) (fun e => absurd e (by decide)) (fun e => absurd e (by decide)) (fun _ => hs) (fun e => absurd e (by decide))) (by rw [dNi_n (by omega), dNi_n (by omega)]; exact h.2.2.2.1) m5 (h.st (h.2.2.2.2.1.lay) rfl rfl rfl rfl rfl rfl rfl rfl rfl) rfl (fun _ => trivial)
  · rcases hm with ⟨m1, m2⟩ | ⟨k', m1, m2, m3, m4, m5⟩
    · exact ag_noT h (by decide) (pub_rf h) m2
    · exact absurd m4 c4
theorem ag_mode (h : LI G Q xo oa od w ms d dp X fo fd) {n mo a : Int32} {r : Int32}
    (hc : (r = 0 ∧ ∃ k, k < 14 ∧ n = nI k ∧ sTh d k = true ∧ (isGroup d n ∧ (0 ≤ mo ∧ mo ≤ 2) ∧ (dge (sD a) FP.dconst1 ∧ dle (sD a) 4629700416936869888)) ∧ pubR G ms d w (dNd (dNi d k 5 mo) k 4 (sD a)) z) ∨ (r = 1 ∧ pIA w (¬ (isGroup d n ∧ (0 ≤ mo ∧ mo ≤ 2) ∧ (dge (sD a) FP.dconst1 ∧ dle (sD a) 4629700416936869888))) iae z))
    (hm : (¬ (isGroup d n ∧ (0 ≤ mo ∧ mo ≤ 2) ∧ dge (sD a) FP.dconst1 ∧ dle (sD a) 4629700416936869888) ∧ z2 = mW G Q (xsT X 1) z) ∨ ∃ k, k < 14 ∧ n = nI k ∧ sTh d k = true ∧ (isGroup d n ∧ (0 ≤ mo ∧ mo ≤ 2) ∧ dge (sD a) FP.dconst1 ∧ dle (sD a) 4629700416936869888) ∧ z2 = mW G Q (xsD (xsI (xsT X 0) 5 (upd (X.1 5) k mo)) 14 (vf_upd (X.2.1 14) k (sD a))) z) : EN G Q xo oa od z z2 r (fun _ _ => True) := by
  rcases hc with ⟨rfl, k, c1, c2, c3, c4, c5⟩ | ⟨rfl, -, rfl, c4⟩
  · rcases hm with ⟨m1, -⟩ | ⟨k', m1, m2, m3, m4, m5⟩
    · exact absurd c4 m1
    · obtain rfl := nI14 c1 m1 c2 m2
      obtain ⟨j, j1, j2⟩ := nI_of2 (M := 2) (n := 2) (by decide) (Int32.not_lt.mpr c4.2.1.1) c4.2.1.2
      exact ag_v h c5 (h.2.1.mv rfl (fun j => dNi_n (by omega)) rfl rfl) ((h.2.2.1.ni k 5 mo (fun e => absurd e (by decide)) (fun e => absurd e (by decide)) (fun e => absurd e (by decide)) (fun e => absurd e (by decide)) (fun e => absurd e (by decide)) (fun _ => ⟨j, by omega, j2⟩)).nd k 4 _ (fun e => absurd e (by decide)) (fun e => absurd e (by decide)) (fun _ => sp_of c4.2.2)) ((dNi_n (by omega)).trans h.2.2.2.1) m5 (h.st (h.2.2.2.2.1.mode) rfl rfl rfl rfl rfl rfl rfl rfl rfl) rfl (fun _ => trivial)
  · rcases hm with ⟨m1, m2⟩ | ⟨k', m1, m2, m3, m4, m5⟩
    · exact ag_noT h (by decide) (pub_rf h) m2
    · exact absurd m4 c4
theorem ag_place (h : LI G Q xo oa od w ms d dp X fo fd) {n a b : Int32} {r : Int32}
    (hc : (r = 0 ∧ ∃ k, k < 14 ∧ n = nI k ∧ sTh d k = true ∧ ((isN d n ∧ n ≠ 0) ∧ inP (sD a) ∧ inP (sD b)) ∧ pubR G ms d w (dNd (dNd d k 2 (sD a)) k 3 (sD b)) z) ∨ (r = 1 ∧ pIA w (¬ ((isN d n ∧ n ≠ 0) ∧ inP (sD a) ∧ inP (sD b))) iae z))
    (hm : (¬ ((isN d n ∧ n ≠ 0) ∧ (dge (sD a) cm100 ∧ dle (sD a) c100) ∧ dge (sD b) cm100 ∧ dle (sD b) c100) ∧ z2 = mW G Q (xsT X 1) z) ∨ ∃ k, k < 14 ∧ n = nI k ∧ sTh d k = true ∧ ((isN d n ∧ n ≠ 0) ∧ (dge (sD a) cm100 ∧ dle (sD a) c100) ∧ dge (sD b) cm100 ∧ dle (sD b) c100) ∧ z2 = mW G Q (xsD (xsD (xsT X 0) 17 (vf_upd (X.2.1 17) (k * 4) (sD a))) 17 (vf_upd (vf_upd (X.2.1 17) (k * 4) (sD a)) (k * 4 + 1) (sD b))) z) : EN G Q xo oa od z z2 r (fun _ _ => True) := by
  rcases hc with ⟨rfl, k, c1, c2, c3, c4, c5⟩ | ⟨rfl, -, rfl, c4⟩
  · rcases hm with ⟨m1, -⟩ | ⟨k', m1, m2, m3, m4, m5⟩
    · exact absurd ⟨c4.1, (inP_i a).mp c4.2.1, (inP_i b).mp c4.2.2⟩ m1
    · obtain rfl := nI14 c1 m1 c2 m2
      exact ag_v h c5 (h.2.1.mv rfl (fun j => rfl) rfl rfl) ((h.2.2.1.nd k 2 _ (fun e => absurd e (by decide)) (fun _ => inP_pl c4.2.1) (fun e => absurd e (by decide))).nd k 3 _ (fun e => absurd e (by decide)) (fun _ => inP_pl c4.2.2) (fun e => absurd e (by decide))) h.2.2.2.1 m5 (h.st (h.2.2.2.2.1.place) rfl rfl rfl rfl rfl rfl rfl rfl rfl) rfl (fun _ => trivial)
  · rcases hm with ⟨m1, m2⟩ | ⟨k', m1, m2, m3, m4, m5⟩
    · exact ag_noT h (by decide) (pub_rf h) m2
    · exact absurd ⟨m4.1, (inP_i a).mpr m4.2.1, (inP_i b).mpr m4.2.2⟩ c4
theorem ag_lengths (h : LI G Q xo oa od w ms d dp X fo fd) {n a b : Int32} {r : Int32}
    (hc : (r = 0 ∧ ∃ k, k < 14 ∧ n = nI k ∧ sTh d k = true ∧ (isShape d n ∧ inL (sD a) ∧ inL (sD b)) ∧ pubR G ms d w (dNd (dNd d k 0 (sD a)) k 1 (sD b)) z) ∨ (r = 1 ∧ pIA w (¬ (isShape d n ∧ inL (sD a) ∧ inL (sD b))) iae z))
    (hm : (¬ (isShape d n ∧ (dge (sD a) c0125 ∧ dle (sD a) c100) ∧ dge (sD b) c0125 ∧ dle (sD b) c100) ∧ z2 = mW G Q (xsT X 1) z) ∨ ∃ k, k < 14 ∧ n = nI k ∧ sTh d k = true ∧ (isShape d n ∧ (dge (sD a) c0125 ∧ dle (sD a) c100) ∧ dge (sD b) c0125 ∧ dle (sD b) c100) ∧ z2 = mW G Q (xsD (xsD (xsT X 0) 15 (vf_upd (X.2.1 15) k (sD a))) 16 (vf_upd (X.2.1 16) k (sD b))) z) : EN G Q xo oa od z z2 r (fun _ _ => True) := by
  rcases hc with ⟨rfl, k, c1, c2, c3, c4, c5⟩ | ⟨rfl, -, rfl, c4⟩
  · rcases hm with ⟨m1, -⟩ | ⟨k', m1, m2, m3, m4, m5⟩
    · exact absurd ⟨c4.1, (inL_i a).mp c4.2.1, (inL_i b).mp c4.2.2⟩ m1
    · obtain rfl := nI14 c1 m1 c2 m2
      exact ag_v h c5 (h.2.1.mv rfl (fun j => rfl) rfl rfl) ((h.2.2.1.nd k 0 _ (fun _ => inL_ln c4.2.1) (fun e => absurd e (by decide)) (fun e => absurd e (by decide))).nd k 1 _ (fun _ => inL_ln c4.2.2) (fun e => absurd e (by decide)) (fun e => absurd e (by decide))) h.2.2.2.1 m5 (h.st (h.2.2.2.2.1.lengths) rfl rfl rfl rfl rfl rfl rfl rfl rfl) rfl (fun _ => trivial)
  · rcases hm with ⟨m1, m2⟩ | ⟨k', m1, m2, m3, m4, m5⟩
    · exact ag_noT h (by decide) (pub_rf h) m2
    · exact absurd ⟨m4.1, (inL_i a).mpr m4.2.1, (inL_i b).mpr m4.2.2⟩ c4
theorem ag_unkey (h : LI G Q xo oa od w ms d dp X fo fd) {n pr : Int32} {r : Int32}
    (hc : (r = 0 ∧ ∃ k i, okUn d n pr k i ∧ sTn d k i ≠ 0 ∧ pubR G ms d w (dTn d k i 0) z) ∨ (r = 1 ∧ z = w ∧ ((iae = iae ∧ ¬ ∃ k i, okUn d n pr k i) ∨ (iae = nse ∧ ∃ k i, okUn d n pr k i ∧ sTn d k i = 0))) ∨ (r = 2 ∧ z = w ∧ ((nse = iae ∧ ¬ ∃ k i, okUn d n pr k i) ∨ (nse = nse ∧ ∃ k i, okUn d n pr k i ∧ sTn d k i = 0))))
    (hm : (¬ (∃ k i, okUn d n pr k i) ∧ z2 = mW G Q (xsT X 1) z) ∨ ∃ k i, okUn d n pr k i ∧ ((sTn d k i = 0 ∧ z2 = mW G Q (xsI (xsT X 2) 10 (upd (X.1 10) (k * 4 + i) 0)) z) ∨ (sTn d k i ≠ 0 ∧ z2 = mW G Q (xsI (xsT X 0) 10 (upd (X.1 10) (k * 4 + i) 0)) z))) : EN G Q xo oa od z z2 r (fun _ _ => True) := by
  have un : ∀ {k i k' i'}, okUn d n pr k i → okUn d n pr k' i' → k = k' ∧ i = i' := fun h1 h2 => ⟨nI14 h1.1 h2.1 h1.2.1 h2.2.1, nI14 (by have := h1.2.2.2.2.1; omega) (by have := h2.2.2.2.2.1; omega) h1.2.2.2.2.2 h2.2.2.2.2.2⟩
  rcases hc with ⟨rfl, k, i, c1, c2, c3⟩ | ⟨rfl, rfl, c⟩ | ⟨rfl, rfl, c⟩
  · rcases hm with ⟨m1, -⟩ | ⟨k', i', m1, m2 | m2⟩
    · exact absurd ⟨k, i, c1⟩ m1
    · obtain ⟨rfl, rfl⟩ := un c1 m1
      exact absurd m2.1 c2
    · obtain ⟨rfl, rfl⟩ := un c1 m1
      exact ag_v h c3 (h.2.1.mv rfl (fun j => rfl) rfl rfl) (h.2.2.1.unkey k i) h.2.2.2.1 m2.2 (h.st (h.2.2.2.2.1.unkey c1.1 c1.2.2.2.2.1 c1.2.2.1) rfl rfl rfl rfl rfl rfl rfl rfl rfl) rfl (fun _ => trivial)
  · have c : ¬ ∃ k i, okUn d n pr k i := by
      rcases c with c | c
      · exact c.2
      · exact absurd c.1 (by decide)
    rcases hm with ⟨m1, m2⟩ | ⟨k', i', m1, -⟩
    · exact ag_noT h (by decide) (pub_rf h) m2
    · exact absurd ⟨k', i', m1⟩ c
  · obtain ⟨k, i, c1, c2⟩ : ∃ k i, okUn d n pr k i ∧ sTn d k i = 0 := by
      rcases c with c | c
      · exact absurd c.1 (by decide)
      · exact c.2
    rcases hm with ⟨m1, -⟩ | ⟨k', i', m1, m2 | m2⟩
    · exact absurd ⟨k, i, c1⟩ m1
    · obtain ⟨rfl, rfl⟩ := un c1 m1
      have e : upd (X.1 10) (k * 4 + i) 0 = X.1 10 := upd_same (by rw [h.2.2.2.2.1.kn c1.1 c1.2.2.1 c1.2.2.2.2.1, c2]; rfl)
      rw [e] at m2
      refine ag_noT h (by decide) (pub_rf h) (m2.2.trans ?_)
      rw [show xsI (xsT X 2) 10 (X.1 10) = xsT X 2 from xi_same (X := xsT X 2)]
    · obtain ⟨rfl, rfl⟩ := un c1 m1
      exact absurd c2 m2.1
theorem ag_key (h : LI G Q xo oa od w ms d dp X fo fd) {n pr a b : Int32} {r bb : Int32}
    (hc : (r = 0 ∧ ∃ v u, (∃ k i, okKey d n pr (sD a) (sD b) k i ∧ (kSame (sTt d k i) (sTn d k i) (sD a) ∨ sTn d k i ≠ 4) ∧ v = nI (sTn (dKey d k i (sD a) (sD b)) k i) ∧ pubR G ms d w (dKey d k i (sD a) (sD b)) u) ∧ z = hp_set u oa (aJ G (vp_updL fo 0 v.toInt64))) ∨ (r = 1 ∧ z = w ∧ ((iae = iae ∧ ¬ ∃ k i, okKey d n pr (sD a) (sD b) k i) ∨ (iae = ise ∧ ∃ k i, okKey d n pr (sD a) (sD b) k i ∧ ¬ kSame (sTt d k i) (sTn d k i) (sD a) ∧ sTn d k i = 4))) ∨ (r = 2 ∧ z = w ∧ ((ise = iae ∧ ¬ ∃ k i, okKey d n pr (sD a) (sD b) k i) ∨ (ise = ise ∧ ∃ k i, okKey d n pr (sD a) (sD b) k i ∧ ¬ kSame (sTt d k i) (sTn d k i) (sD a) ∧ sTn d k i = 4))))
    (hm : (¬ (∃ k i, mOkK d n pr (sD a) (sD b) k i) ∧ z2 = mW G Q (xsT X 1) z) ∨ ∃ k i, mOkK d n pr (sD a) (sD b) k i ∧ ((¬ kSame (sTt d k i) (sTn d k i) (sD a) ∧ sTn d k i = 4 ∧ z2 = mW G Q (xsT X 2) z) ∨ ((kSame (sTt d k i) (sTn d k i) (sD a) ∨ sTn d k i ≠ 4) ∧ bb = nI (sTn (dKey d k i (sD a) (sD b)) k i) ∧ ∃ Y, z2 = mW G Q Y z ∧ mP Y (dKey d k i (sD a) (sD b)) dp ∧ Y.2.2.2.2 = 0))) : EN G Q xo oa od z z2 r (fun f _ => f 0 = bb.toInt64) := by
  have un : ∀ {k i k' i'}, okKey d n pr (sD a) (sD b) k i → okKey d n pr (sD a) (sD b) k' i' → k = k' ∧ i = i' := fun h1 h2 => ⟨nI14 h1.1 h2.1 h1.2.1 h2.2.1, nI14 (by have := h1.2.2.2.2.1; omega) (by have := h2.2.2.2.2.1; omega) h1.2.2.2.2.2.1 h2.2.2.2.2.2.1⟩
  rcases hc with ⟨rfl, v, u, ⟨k, i, c1, c2, c3, c4⟩, c5⟩ | ⟨rfl, rfl, c⟩ | ⟨rfl, rfl, c⟩
  · rcases hm with ⟨m1, -⟩ | ⟨k', i', m1, m2 | m2⟩
    · exact absurd ⟨k, i, okK_i.mp c1⟩ m1
    · obtain ⟨rfl, rfl⟩ := un c1 (okK_i.mpr m1)
      rcases c2 with q | q
      · exact absurd q m2.1
      · exact absurd m2.2.1 q
    · obtain ⟨rfl, rfl⟩ := un c1 (okK_i.mpr m1)
      obtain ⟨-, m3, Y, m4, m5, m6⟩ := m2
      have hd0 : ∀ j, sNi (dKey d k i (sD a) (sD b)) j = sNi d j := fun j => by
        rcases Classical.em (kSame (sTt d k i) (sTn d k i) (sD a)) with q | q
        · rw [dKey_y q]; rfl
        · rw [dKey_n q]; rfl
      have hch : sCh (dKey d k i (sD a) (sD b)) = sCh d := by
        rcases Classical.em (kSame (sTt d k i) (sTn d k i) (sD a)) with q | q
        · rw [dKey_y q]; rfl
        · rw [dKey_n q]; rfl
      exact ag_i h c4 c5 (h.2.1.mv dKey_o.1 (fun j => by rw [hd0]) hch dKey_o.2.1) (h.2.2.1.keyS c1) (by rw [hd0]; exact h.2.2.2.1) m4 m5 m6 (c3.trans m3.symm)
  · have c : ¬ ∃ k i, okKey d n pr (sD a) (sD b) k i := by
      rcases c with c | c
      · exact c.2
      · exact absurd c.1 (by decide)
    rcases hm with ⟨m1, m2⟩ | ⟨k', i', m1, -⟩
    · exact ag_noT h (by decide) (pub_rf h) m2
    · exact absurd ⟨k', i', okK_i.mpr m1⟩ c
  · obtain ⟨k, i, c1, c2, c3⟩ : ∃ k i, okKey d n pr (sD a) (sD b) k i ∧ ¬ kSame (sTt d k i) (sTn d k i) (sD a) ∧ sTn d k i = 4 := by
      rcases c with c | c
      · exact absurd c.1 (by decide)
      · exact c.2
    rcases hm with ⟨m1, -⟩ | ⟨k', i', m1, m2 | m2⟩
    · exact absurd ⟨k, i, okK_i.mp c1⟩ m1
    · exact ag_noT h (by decide) (pub_rf h) m2.2.2
    · obtain ⟨rfl, rfl⟩ := un c1 (okK_i.mpr m1)
      rcases m2.1 with q | q
      · exact absurd q c2
      · exact absurd c3 q
end AG

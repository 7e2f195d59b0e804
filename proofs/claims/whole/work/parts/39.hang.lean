/-! hanging and unhanging -/
theorem va_cat1 (o : Option Nat) : (va_rf o).category = 1 := by cases o <;> rfl
def fset {α : Type} (f : Nat → α) (k : Nat) (v : α) : Nat → α := fun j => if j = k then v else f j
theorem fset_eq {α : Type} (f : Nat → α) (k : Nat) (v : α) : fset f k v k = v := if_pos rfl
theorem fset_ne {α : Type} {f : Nat → α} {k j : Nat} {v : α} (h : j ≠ k) : fset f k v j = f j := if_neg h
def dPa (d : DS) (k : Nat) (o : Option Nat) : DS := (d.1, d.2.1, d.2.2.1, d.2.2.2.1, fset (sPa d) k o, d.2.2.2.2.2)
def dCh (d : DS) (g : Nat) (L : List Nat) : DS := (d.1, d.2.1, d.2.2.1, fset (sCh d) g L, d.2.2.2.2)
def msL (m : MS) (g ea cap : Nat) (mc : Int32) : MS := (m.1, fun k r => if k = g ∧ r = 4 then ea else mAd m k r, fset (mCap m) g cap, fset (mMc m) g mc, m.2.2.2.2)
theorem msL_ad {m : MS} {g ea cap : Nat} {mc : Int32} {k r : Nat} (h : ¬ (k = g ∧ r = 4)) : mAd (msL m g ea cap mc) k r = mAd m k r := if_neg h
theorem msL_4 (m : MS) (g ea cap : Nat) (mc : Int32) : mAd (msL m g ea cap mc) g 4 = ea := if_pos ⟨rfl, rfl⟩
/-- a parent is set -/
theorem ePic.par {G : EG} {m : MS} {d : DS} {w : hp_M} (h : ePic G m d w) {k : Nat} (hk : k < 14) (ht : sTh d k = true) (o : Option Nat) : ePic G m (dPa d k o) (hp_set w (mAd m k 0) (nC m (dPa d k o) k)) := by
  refine h.set1 (m' := m) (d' := dPa d k o) hk ht ⟨by decide, fun e => absurd e (by decide)⟩ rfl rfl rfl rfl rfl rfl (fun j r hj hjt hr hne => ?_) (fun j hj hjt => ⟨fun i hi => (nPic_iff.mp (h.2.2.2.1 j hj hjt)).2.1 i hi, (nPic_iff.mp (h.2.2.2.1 j hj hjt)).2.2.1⟩)
  unfold cellOf
  by_cases q0 : r = 0
  · have hjk : j ≠ k := fun e => hne ⟨e, q0⟩
    rw [if_pos q0, if_pos q0]
    have e : pAd m (dPa d k o) j = pAd m d j := by
      unfold pAd
      have : sPa (dPa d k o) j = sPa d j := fset_ne hjk
      rw [this]
    unfold nC
    rw [e]
    rfl
  rw [if_neg q0, if_neg q0]
  rfl
/-- the list of a node's children changes -/
theorem ePic.lst {G : EG} {m : MS} {d : DS} {w : hp_M} (h : ePic G m d w) {g : Nat} (hg : g < 14) (ht : sTh d g = true) (L : List Nat) (ea cap : Nat) (mc : Int32) (hL : L.length ≤ cap) (hcap : cap = 10 ∨ cap = 15) (hea : (ea = mAd m g 4 ∧ mCap m g ≠ 0) ∨ w ea = none) :
    ePic G (msL m g ea cap mc) (dCh d g L) (hp_set (hp_set w ea (aO G cap (fun j => (L[j]?).map (fun c => mAd m c 0)))) (mAd m g 1) (oAl mc ea L.length)) := by
  have hv1 : vR m g 1 := ⟨by decide, fun e => absurd e (by decide)⟩
  have hv4 : mCap m g ≠ 0 → vR m g 4 := fun q => ⟨by decide, fun _ => q⟩
  have hob := fun j r (hj : j < 14) (hjt : sTh d j = true) (hr : vR m j r) => h.ob hj hjt hr
  have inj := h.2.2.2.2
  have neE : ∀ j r, j < 14 → sTh d j = true → vR m j r → ¬ (j = g ∧ r = 4) → mAd m j r ≠ ea := by
    intro j r hj hjt hr hne e
    rcases hea with ⟨e1, e2⟩ | e1
    · rw [e1] at e
      exact hne (inj j r g 4 hj hg hjt ht hr (hv4 e2) e)
    · exact absurd e (hp_ne_n (hob j r hj hjt hr) e1)
  have ne1 : ∀ j r, j < 14 → sTh d j = true → vR m j r → ¬ (j = g ∧ r = 1) → mAd m j r ≠ mAd m g 1 := fun j r hj hjt hr hne e => hne (inj j r g 1 hj hg hjt ht hr hv1 e)
  have n3 := h.ne3 hg ht hv1
  have nE3 : mEo m ≠ ea ∧ mNa m ≠ ea ∧ mCa m ≠ ea := by
    rcases hea with ⟨e1, e2⟩ | e1
    · rw [e1]; exact h.ne3 hg ht (hv4 e2)
    · exact ⟨hp_ne_n h.1 e1, hp_ne_n h.2.1 e1, hp_ne_n h.2.2.1 e1⟩
  have hc0 : cap ≠ 0 := by omega
  have vv : ∀ j r, j < 14 → vR (msL m g ea cap mc) j r → (j = g ∧ r = 4) ∨ (vR m j r ∧ ¬ (j = g ∧ r = 4)) := by
    intro j r hj hr
    by_cases hq : j = g ∧ r = 4
    · exact Or.inl hq
    · refine Or.inr ⟨⟨hr.1, fun e => ?_⟩, hq⟩
      have hjg : j ≠ g := fun e2 => hq ⟨e2, e⟩
      have := hr.2 e
      rw [show mCap (msL m g ea cap mc) j = mCap m j from fset_ne hjg] at this
      exact this
  refine ⟨?_, ?_, ?_, fun j hj hjt => ?_, fun j r j' r' hj hj' hjt hjt' hv hv' e => ?_⟩
  · show hp_set (hp_set w ea _) (mAd m g 1) _ (mEo m) = some (.inr (3, [.ref (mAd (msL m g ea cap mc) 0 0), .ref (mNa m), .ref (mCa m), .int (sPt d)]))
    rw [hp_set_ne n3.1, hp_set_ne nE3.1, msL_ad (by omega)]
    exact h.1
  · show hp_set (hp_set w ea _) (mAd m g 1) _ (mNa m) = _
    rw [hp_set_ne n3.2.1, hp_set_ne nE3.2.1]
    exact h.2.1
  · show hp_set (hp_set w ea _) (mAd m g 1) _ (mCa m) = _
    rw [hp_set_ne n3.2.2, hp_set_ne nE3.2.2]
    exact h.2.2.1
  · have hjt : sTh d j = true := hjt
    have ho := nPic_iff.mp (h.2.2.2.1 j hj hjt)
    refine nPic_iff.mpr ⟨fun r hr => ?_, ho.2.1, ?_, ?_⟩
    · rcases vv j r hj hr with ⟨rfl, rfl⟩ | ⟨hvr, hne⟩
      · rw [msL_4, hp_set_ne, hp_set_eq]
        · show some (aO G cap _) = some (aO G (mCap (msL m j ea cap mc) j) (elF (msL m j ea cap mc) (dCh d j L) j))
          have e1 : mCap (msL m j ea cap mc) j = cap := fset_eq _ _ _
          have e2 : elF (msL m j ea cap mc) (dCh d j L) j = fun i => (L[i]?).map (fun c => mAd m c 0) := by
            funext i
            unfold elF
            have e3 : sCh (dCh d j L) j = L := fset_eq _ _ _
            rw [e3]
            congr 1
            funext c
            exact msL_ad (by omega)
          rw [e1, e2]
        · rcases hea with ⟨e1, e2⟩ | e1
          · rw [e1]; exact fun e => absurd (inj j 4 j 1 hj hj hjt hjt (hv4 e2) hv1 e).2 (by decide)
          · exact (hp_ne_n (hob j 1 hj hjt hv1) e1).symm
      · rw [msL_ad hne]
        by_cases h1 : j = g ∧ r = 1
        · obtain ⟨rfl, rfl⟩ := h1
          rw [hp_set_eq]
          show some (oAl mc ea L.length) = some (oAl (mMc (msL m j ea cap mc) j) (elA G (msL m j ea cap mc) j) (sCh (dCh d j L) j).length)
          have e1 : mMc (msL m j ea cap mc) j = mc := fset_eq _ _ _
          have e2 : elA G (msL m j ea cap mc) j = ea := by
            unfold elA
            rw [if_neg (by rw [show mCap (msL m j ea cap mc) j = cap from fset_eq _ _ _]; exact hc0)]
            exact msL_4 _ _ _ _ _
          have e3 : sCh (dCh d j L) j = L := fset_eq _ _ _
          rw [e1, e2, e3]
        · rw [hp_set_ne (ne1 j r hj hjt hvr h1), hp_set_ne (neE j r hj hjt hvr hne), hob j r hj hjt hvr]
          congr 1
          have ad : ∀ r', r' ≠ 4 → mAd (msL m g ea cap mc) j r' = mAd m j r' := fun r' q => msL_ad (fun e => q e.2)
          have ad0 : ∀ c, mAd (msL m g ea cap mc) c 0 = mAd m c 0 := fun c => msL_ad (by omega)
          unfold cellOf
          by_cases q0 : r = 0
          · rw [if_pos q0, if_pos q0]
            have e : pAd (msL m g ea cap mc) (dCh d g L) j = pAd m d j := by
              unfold pAd
              show (sPa d j).map _ = (sPa d j).map _
              congr 1
              funext c
              exact ad0 c
            unfold nC
            rw [ad 1 (by decide), ad 2 (by decide), ad 3 (by decide), e]
            rfl
          rw [if_neg q0, if_neg q0]
          by_cases q1 : r = 1
          · have hjg : j ≠ g := fun e => h1 ⟨e, q1⟩
            rw [if_pos q1, if_pos q1]
            have e1 : mMc (msL m g ea cap mc) j = mMc m j := fset_ne hjg
            have e2 : elA G (msL m g ea cap mc) j = elA G m j := by
              unfold elA
              rw [show mCap (msL m g ea cap mc) j = mCap m j from fset_ne hjg, msL_ad (fun e => hjg e.1)]
            have e3 : sCh (dCh d g L) j = sCh d j := fset_ne hjg
            rw [e1, e2, e3]
          rw [if_neg q1, if_neg q1]
          by_cases q2 : r = 2
          · rw [if_pos q2, if_pos q2]
            have : trF (msL m g ea cap mc) j = trF m j := by
              funext i
              unfold trF
              by_cases hi : i < 4
              · rw [if_pos hi, if_pos hi, ad (5 + i) (by omega)]
              · rw [if_neg hi, if_neg hi]
            rw [this]
          rw [if_neg q2, if_neg q2]
          by_cases q3 : r = 3
          · rw [if_pos q3, if_pos q3]; rfl
          rw [if_neg q3, if_neg q3]
          by_cases q4 : r = 4
          · have hjg : j ≠ g := fun e => hne ⟨e, q4⟩
            rw [if_pos q4, if_pos q4]
            have e1 : mCap (msL m g ea cap mc) j = mCap m j := fset_ne hjg
            have e2 : elF (msL m g ea cap mc) (dCh d g L) j = elF m d j := by
              funext i
              unfold elF
              have e3 : sCh (dCh d g L) j = sCh d j := fset_ne hjg
              rw [e3]
              congr 1
              funext c
              exact ad0 c
            rw [e1, e2]
          rw [if_neg q4, if_neg q4, ad (r + 4) (by omega), ad (r + 8) (by omega)]
          rfl
    · by_cases hjg : j = g
      · subst hjg
        rw [show sCh (dCh d j L) j = L from fset_eq _ _ _, show mCap (msL m j ea cap mc) j = cap from fset_eq _ _ _]
        exact hL
      · rw [show sCh (dCh d g L) j = sCh d j from fset_ne hjg, show mCap (msL m g ea cap mc) j = mCap m j from fset_ne hjg]
        exact ho.2.2.1
    · by_cases hjg : j = g
      · subst hjg
        rw [show mCap (msL m j ea cap mc) j = cap from fset_eq _ _ _]
        omega
      · rw [show mCap (msL m g ea cap mc) j = mCap m j from fset_ne hjg]
        exact ho.2.2.2
  · have hjt : sTh d j = true := hjt
    have hjt' : sTh d j' = true := hjt'
    rcases vv j r hj hv with ⟨e1, e2⟩ | ⟨v1, n1⟩ <;> rcases vv j' r' hj' hv' with ⟨e3, e4⟩ | ⟨v2, n2⟩
    · exact ⟨e1.trans e3.symm, e2.trans e4.symm⟩
    · rw [e1, e2, msL_4, msL_ad n2] at e
      exact absurd e.symm (neE j' r' hj' hjt' v2 n2)
    · rw [e3, e4, msL_4, msL_ad n1] at e
      exact absurd e (neE j r hj hjt v1 n1)
    · rw [msL_ad n1, msL_ad n2] at e
      exact inj j r j' r' hj hj' hjt hjt' v1 v2 e
/-- what the class does to a world: what isn't its own stays; what becomes its own was nowhere -/
def fR (m : MS) (d : DS) (w : hp_M) (m' : MS) (d' : DS) (z : hp_M) : Prop := (∀ a x, w a = some x → ¬ Own m d a → z a = some x) ∧ (∀ a, Own m' d' a → Own m d a ∨ w a = none)
theorem fR.rf (m : MS) (d : DS) (w : hp_M) : fR m d w m d w := ⟨fun _ _ h _ => h, fun _ h => Or.inl h⟩
theorem fR.tr {m m1 m2 : MS} {d d1 d2 : DS} {w w1 w2 : hp_M} (h1 : fR m d w m1 d1 w1) (h2 : fR m1 d1 w1 m2 d2 w2) : fR m d w m2 d2 w2 := by
  refine ⟨fun a x q1 q2 => h2.1 a x (h1.1 a x q1 q2) (fun q => ?_), fun a q => ?_⟩
  · rcases h1.2 a q with q | q
    · exact q2 q
    · rw [q1] at q; cases q
  · rcases h2.2 a q with q | q
    · exact h1.2 a q
    · cases hw : w a with
      | none => exact Or.inr rfl
      | some x =>
        by_cases ho : Own m d a
        · exact Or.inl ho
        · rw [h1.1 a x hw ho] at q; cases q
theorem ePic.own {G : EG} {m : MS} {d : DS} {w : hp_M} (h : ePic G m d w) {a : Nat} (ho : Own m d a) : ∃ x, w a = some x := by
  rcases ho with e | e | e | ⟨k, r, hk, ht, hr, e⟩
  · exact ⟨_, by rw [e]; exact h.1⟩
  · exact ⟨_, by rw [e]; exact h.2.1⟩
  · exact ⟨_, by rw [e]; exact h.2.2.1⟩
  · exact ⟨_, by rw [e]; exact h.ob hk ht hr⟩
theorem fR.st {m : MS} {d d' : DS} {w : hp_M} {k r : Nat} (hk : k < 14) (ht : sTh d k = true) (hr : vR m k r) (e4 : sTh d' = sTh d) (x : va_E) : fR m d w m d' (hp_set w (mAd m k r) x) :=
  ⟨fun a y q1 q2 => by rw [hp_set_ne (fun e => q2 (Or.inr (Or.inr (Or.inr ⟨k, r, hk, ht, hr, e⟩))))]; exact q1, fun a q => Or.inl ((Own.congr rfl rfl rfl e4 a).mp q)⟩
theorem fR.lst {m : MS} {d : DS} {w : hp_M} {g : Nat} (hg : g < 14) (ht : sTh d g = true) (L : List Nat) (ea cap : Nat) (mc : Int32) (hea : (ea = mAd m g 4 ∧ mCap m g ≠ 0) ∨ w ea = none) (x y : va_E) :
    fR m d w (msL m g ea cap mc) (dCh d g L) (hp_set (hp_set w ea x) (mAd m g 1) y) := by
  have hv1 : vR m g 1 := ⟨by decide, fun e => absurd e (by decide)⟩
  refine ⟨fun a v q1 q2 => ?_, fun a q => ?_⟩
  · rw [hp_set_ne (fun e => q2 (Or.inr (Or.inr (Or.inr ⟨g, 1, hg, ht, hv1, e⟩)))), hp_set_ne (fun e => ?_)]
    · exact q1
    · rcases hea with ⟨e1, e2⟩ | e1
      · exact q2 (Or.inr (Or.inr (Or.inr ⟨g, 4, hg, ht, ⟨by decide, fun _ => e2⟩, e.trans e1⟩)))
      · rw [e, e1] at q1; cases q1
  · rcases q with e | e | e | ⟨j, r, hj, hjt, hr, e⟩
    · exact Or.inl (Or.inl e)
    · exact Or.inl (Or.inr (Or.inl e))
    · exact Or.inl (Or.inr (Or.inr (Or.inl e)))
    · by_cases hq : j = g ∧ r = 4
      · obtain ⟨rfl, rfl⟩ := hq
        rw [msL_4] at e
        rcases hea with ⟨e1, e2⟩ | e1
        · exact Or.inl (Or.inr (Or.inr (Or.inr ⟨j, 4, hj, hjt, ⟨by decide, fun _ => e2⟩, e.trans e1⟩)))
        · exact Or.inr (by rw [e]; exact e1)
      · rw [msL_ad hq] at e
        refine Or.inl (Or.inr (Or.inr (Or.inr ⟨j, r, hj, hjt, ⟨hr.1, fun e4 => ?_⟩, e⟩)))
        have hjg : j ≠ g := fun e2 => hq ⟨e2, e4⟩
        have := hr.2 e4
        rw [show mCap (msL m g ea cap mc) j = mCap m j from fset_ne hjg] at this
        exact this
theorem elF_up {m : MS} {d : DS} {g k : Nat} : va_up (elF m d g) (sCh d g).length (some (mAd m k 0)) = fun j => ((sCh d g ++ [k])[j]?).map (fun c => mAd m c 0) := by
  funext j
  unfold va_up elF
  by_cases h : j = (sCh d g).length
  · subst h
    rw [if_pos rfl, List.getElem?_append_right (Nat.le_refl _)]
    simp
  · rw [if_neg h]
    rcases Nat.lt_or_ge j (sCh d g).length with q | q
    · rw [List.getElem?_append_left q]
    · rw [List.getElem?_append_right q, List.getElem?_eq_none (by omega), List.getElem?_eq_none (by simp; omega)]
theorem elF_rm {m : MS} {d : DS} {g i : Nat} (hi : i < (sCh d g).length) : rmF (elF m d g) i (sCh d g).length = fun j => (((sCh d g).eraseIdx i)[j]?).map (fun c => mAd m c 0) := by
  funext j
  unfold rmF elF
  rw [List.getElem?_eraseIdx]
  by_cases h : j < i
  · rw [if_pos h, if_pos h]
  · rw [if_neg h, if_neg h]
    by_cases h2 : j + 1 < (sCh d g).length
    · rw [if_pos h2]
    · rw [if_neg h2, List.getElem?_eq_none (by omega)]; rfl
theorem elF_ge {m : MS} {d : DS} {g : Nat} (j : Nat) (h : (sCh d g).length ≤ j) : elF m d g j = none := by
  unfold elF
  rw [List.getElem?_eq_none h]
  rfl
theorem elF_no {G : EG} {m : MS} {d : DS} {w : hp_M} (h : ePic G m d w) {g : Nat} (hch : ∀ c ∈ sCh d g, c < 14 ∧ sTh d c = true) (i y : Nat) (hy : elF m d g i = some y) : ∃ fs, w y = some (.inr (1, fs)) := by
  unfold elF at hy
  cases hc : (sCh d g)[i]? with
  | none => rw [hc] at hy; cases hy
  | some c =>
    rw [hc] at hy
    cases hy
    obtain ⟨q1, q2⟩ := hch c (List.mem_of_getElem? hc)
    exact ⟨_, h.node q1 q2⟩
set_option maxHeartbeats 4000000 in
set_option maxRecDepth 100000 in
theorem m_No_hangInto (l : Launch) (G : EG) (S0 : Nat) (w : hp_M) (ms : MS) (d : DS) (hp' : ePic G ms d w) (k g : Nat) (hk : k < 14) (hkt : sTh d k = true) (hg1 : g < 14) (hgt : sTh d g = true) (hkg : k ≠ g) (hch : ∀ c ∈ sCh d g, c < 14 ∧ sTh d c = true) (hlen : (sCh d g).length ≤ 13) : Met l y_No_hangInto w_No_hangInto (rl 7 1 15) (eP G S0 w [.ref (mAd ms k 0), .ref (mAd ms g 0)]) (va_Qv (fun z => ∃ ms', ms'.1 = ms.1 ∧ (∀ j, mAd ms' j 0 = mAd ms j 0) ∧ ePic G ms' (dCh (dPa d k (some g)) g (sCh d g ++ [k])) z ∧ fR ms d w ms' (dCh (dPa d k (some g)) g (sCh d g ++ [k])) z) (eW G S0) (hp_A S0)) 1 15 (hp_A S0) := by
  refine Met.ofW (cc := b_No_hangInto) (maxL := 2) (ret := none) (by decide) rfl ?_
  intro p e s m args below meth c s₁ B hml hv
  obtain ⟨rfl, hE, hI, hz⟩ := hv
  have hx := B.exec
  have hb := B.bytes
  have hr := B.returns
  have hts := atoms_spec (ws := w_No_hangInto) B.pre
  have hg : ∀ w ∈ gw, w.before _ s = true := fun w h => hts w (List.mem_cons_of_mem _ h)
  have hown : s.vm.findClass "SceneEasel$Node" = some m.cls := findClass_of_methodNamed B.named
  have hlocks := B.notSynchronized
  have hK := hE.K
  have hS : va_S (hp_A S0) s.heap s.heap [] := va_S.rf
  have hl := lv_entry ([.ref (mAd ms k 0), .ref (mAd ms g 0)]) (n := 2) (Nat.le_of_ble_eq_true rfl)
  rw [lg_entry_eq]
  generalize (lg_sl ([.ref (mAd ms k 0), .ref (mAd ms g 0)]) ++ List.replicate (2 - (lg_sl ([.ref (mAd ms k 0), .ref (mAd ms g 0)])).length) Slot.unset).toArray = ls at hl ⊢
  have hl : lv_has ls 2 [(0, .ref (mAd ms k 0)), (1, .ref (mAd ms g 0))] := hl
  have hn := hp'.node hk hkt
  have hng := hp'.node hg1 hgt
  have hne : mAd ms g 0 ≠ mAd ms k 0 := fun e => hkg ((hp'.ad0 hg1 hgt hk hkt).mp e).symm
  refine lv_aload_n hx hb d_No_hangInto_0 rfl (lv_at hl 0 rfl) ?_
  refine lv_aload_n hx hb d_No_hangInto_1 rfl (lv_at hl 1 rfl) ?_
  refine hp_putC (ci := 1) (v := .ref (mAd ms g 0)) (ty := .object "SceneEasel$Node") (C := R_No) (T := F_No) (N := 20) hx hb hg i_No t_No t_No_ok n_No hown hK hI hS hn rfl 6 (by decide) (hg _ k_177) (fun _ h9 => h9) rfl (by decide +kernel) rfl rfl (Nat.le_of_ble_eq_true rfl) d_No_hangInto_2 (fun H locs hI hS hsz => ?_)
  obtain ⟨w_1, ew_1⟩ : ∃ z9, z9 = hp_set w (mAd ms k 0) (.inr (1, [.int (nI k), .int (sNi d k 0), .int (sNi d k 1), .ref (mAd ms k 1), .ref (mAd ms k 2), .ref (mAd ms k 3), .ref (mAd ms g 0), .int (sNi d k 2), .double (sNd d k 0), .double (sNd d k 1), .double (sNd d k 2), .double (sNd d k 3), .int (sNi d k 3), .int (sNi d k 4), .int (sNi d k 5), .double (sNd d k 4), .double (mNx ms k 0), .double (mNx ms k 1), .int (mNi ms k 0), .int (mNi ms k 1)])) := ⟨_, rfl⟩
  have hI : eI G S0 w_1 H := by rw [ew_1]; exact hI
  have hng : w_1 (mAd ms g 0) = some (.inr (1, [.int (nI g), .int (sNi d g 0), .int (sNi d g 1), .ref (mAd ms g 1), .ref (mAd ms g 2), .ref (mAd ms g 3), va_rf (pAd ms d g), .int (sNi d g 2), .double (sNd d g 0), .double (sNd d g 1), .double (sNd d g 2), .double (sNd d g 3), .int (sNi d g 3), .int (sNi d g 4), .int (sNi d g 5), .double (sNd d g 4), .double (mNx ms g 0), .double (mNx ms g 1), .int (mNi ms g 0), .int (mNi ms g 1)])) := by rw [ew_1, hp_set_ne hne]; exact hng
  have hn : w_1 (mAd ms k 0) = some (.inr (1, [.int (nI k), .int (sNi d k 0), .int (sNi d k 1), .ref (mAd ms k 1), .ref (mAd ms k 2), .ref (mAd ms k 3), .ref (mAd ms g 0), .int (sNi d k 2), .double (sNd d k 0), .double (sNd d k 1), .double (sNd d k 2), .double (sNd d k 3), .int (sNi d k 3), .int (sNi d k 4), .int (sNi d k 5), .double (sNd d k 4), .double (mNx ms k 0), .double (mNx ms k 1), .int (mNi ms k 0), .int (mNi ms k 1)])) := by rw [ew_1]; exact hp_set_eq _ _ _
  have hp1 : ePic G ms (dPa d k (some g)) w_1 := by
    rw [ew_1]
    have := hp'.par hk hkt (some g)
    have e : pAd ms (dPa d k (some g)) k = some (mAd ms g 0) := by
      unfold pAd
      rw [show sPa (dPa d k (some g)) k = some g from fset_eq _ _ _]
      rfl
    unfold nC at this
    rw [e] at this
    exact this
  have hf1 : fR ms d w ms (dPa d k (some g)) w_1 := by rw [ew_1]; exact fR.st hk hkt ⟨by decide, fun e => absurd e (by decide)⟩ rfl _
  obtain ⟨-, hal, hel, -, -, -, hlc, hcap⟩ := hp1.2.2.2.1 g hg1 hgt
  have hal : w_1 (mAd ms g 1) = some (oAl (mMc ms g) (elA G ms g) (sCh d g).length) := hal
  have hel : mCap ms g ≠ 0 → w_1 (mAd ms g 4) = some (aO G (mCap ms g) (elF ms d g)) := hel
  have hlc : (sCh d g).length ≤ mCap ms g := hlc
  have hel' : ∀ i y, elF ms d g i = some y → ∃ fs, w_1 y = some (.inr (1, fs)) := elF_no (d := dPa d k (some g)) hp1 hch
  have hA0 : mCap ms g = 0 → elA G ms g = eO G := fun h => if_pos h
  have hA1 : mCap ms g ≠ 0 → w_1 (elA G ms g) = some (aO G (mCap ms g) (elF ms d g)) := fun h => by rw [show elA G ms g = mAd ms g 4 from if_neg h]; exact hel h
  refine lv_aload_n hx hb d_No_hangInto_5 rfl (lv_at hl 1 rfl) ?_
  refine hp_get (ci := 1) (v := .ref (mAd ms g 1)) (C := R_No) (T := F_No) (N := 20) hx hb hg i_No hown hK hI hng rfl 3 (by decide) (hg _ k_171) (fun _ h9 => h9) rfl d_No_hangInto_6 ?_
  refine lv_aload_n hx hb d_No_hangInto_9 rfl (lv_at hl 0 rfl) ?_
  refine ec_i (va_runV (As := [.ref (mAd ms k 0)]) (rest := []) ⟨hx, hb, hml, hown, hts⟩ (m_Al_add l G S0 w_1 (mAd ms g 1) (mAd ms k 0) (elA G ms g) (sCh d g).length (mCap ms g) (elF ms d g) hal hcap hlc hlen hA0 hA1 elF_ge hel' hn) (cwV 1 hts (gw_V k_402 k_403 k_404 k_64 k_405) rfl rfl rfl (by decide +kernel) ⟨Nat.le_of_ble_eq_true rfl, Nat.le_of_ble_eq_true rfl⟩) (eB.preV hE hI hS hz rfl hal) rfl rfl hl.1 rfl (lv_room (Nat.le_of_ble_eq_true rfl)) d_No_hangInto_10 ⟨Nat.le_of_ble_eq_true rfl, Nat.le_of_ble_eq_true rfl⟩) hS (fun ad w2 H locs ew2 hI hsz hS => ?_)
  obtain ⟨-, ea, cap, h3, h4, h5, h6⟩ := ew2
  have hlenA : (sCh d g ++ [k]).length = (sCh d g).length + 1 := by simp
  have hea : (ea = mAd ms g 4 ∧ mCap ms g ≠ 0) ∨ w_1 ea = none := by
    rcases h4 with ⟨q1, q2, q3⟩ | ⟨q1, q2⟩
    · exact Or.inl ⟨q1.trans (if_neg q3), q3⟩
    · exact Or.inr q1
  have ez : w2 = hp_set (hp_set w_1 ea (aO G cap (fun j => ((sCh d g ++ [k])[j]?).map (fun c => mAd ms c 0)))) (mAd ms g 1) (oAl (mMc ms g + 1) ea (sCh d g ++ [k]).length) := by rw [h3, elF_up, hlenA]
  have hp2 := hp1.lst hg1 hgt (sCh d g ++ [k]) ea cap (mMc ms g + 1) (by rw [hlenA]; exact h5) h6 hea
  rw [← ez] at hp2
  have hf2 : fR ms (dPa d k (some g)) w_1 (msL ms g ea cap (mMc ms g + 1)) (dCh (dPa d k (some g)) g (sCh d g ++ [k])) w2 := by rw [ez]; exact fR.lst (d := dPa d k (some g)) hg1 hgt (sCh d g ++ [k]) ea cap (mMc ms g + 1) hea _ _
  refine lv_pop hx hb d_No_hangInto_13 rfl ?_
  exact W.vret hx hb hr (fun t ht hW => ⟨⟨w2, rfl, ⟨msL ms g ea cap (mMc ms g + 1), rfl, fun j => msL_ad (fun e => absurd e.2 (by decide)), hp2, hf1.tr hf2⟩, eWo ht hI⟩, hS.F ht⟩) hS.2.2 d_No_hangInto_14
set_option maxHeartbeats 4000000 in
set_option maxRecDepth 100000 in
theorem m_No_unhang (l : Launch) (G : EG) (S0 : Nat) (w : hp_M) (ms : MS) (d : DS) (dp : Nat → Nat) (hp' : ePic G ms d w) (htr : tOk d dp) (k g : Nat) (hk : k < 14) (hkt : sTh d k = true) (hg1 : g < 14) (hgt : sTh d g = true) (hpa : sPa d k = some g) (hkc : k ∈ sCh d g) (hkg : k ≠ g) : Met l y_No_unhang w_No_unhang (rl 4 0 0) (eP G S0 w [.ref (mAd ms k 0)]) (va_Qv (fun z => ∃ ms', ms'.1 = ms.1 ∧ (∀ j, mAd ms' j 0 = mAd ms j 0) ∧ ePic G ms' (dPa (dCh d g ((sCh d g).eraseIdx (rkF d k))) k none) z ∧ fR ms d w ms' (dPa (dCh d g ((sCh d g).eraseIdx (rkF d k))) k none) z) (eW G S0) (hp_A S0)) 0 0 (hp_A S0) := by
  refine Met.ofW (cc := b_No_unhang) (maxL := 2) (ret := none) (by decide) rfl ?_
  intro p e s m args below meth c s₁ B hml hv
  obtain ⟨rfl, hE, hI, hz⟩ := hv
  have hx := B.exec
  have hb := B.bytes
  have hr := B.returns
  have hts := atoms_spec (ws := w_No_unhang) B.pre
  have hg : ∀ w ∈ gw, w.before _ s = true := fun w h => hts w (List.mem_cons_of_mem _ h)
  have hown : s.vm.findClass "SceneEasel$Node" = some m.cls := findClass_of_methodNamed B.named
  have hlocks := B.notSynchronized
  have hK := hE.K
  have hS : va_S (hp_A S0) s.heap s.heap [] := va_S.rf
  have hl := lv_entry ([.ref (mAd ms k 0)]) (n := 2) (Nat.le_of_ble_eq_true rfl)
  rw [lg_entry_eq]
  generalize (lg_sl ([.ref (mAd ms k 0)]) ++ List.replicate (2 - (lg_sl ([.ref (mAd ms k 0)])).length) Slot.unset).toArray = ls at hl ⊢
  have hl : lv_has ls 2 [(0, .ref (mAd ms k 0))] := hl
  have hn := hp'.node hk hkt
  have hng := hp'.node hg1 hgt
  have hlen := List.length_pos_of_mem hkc
  have hrk : rkF d k < (sCh d g).length := by
    unfold rkF
    rw [hpa]
    exact List.idxOf_lt_length_of_mem hkc
  have epa : pAd ms d k = some (mAd ms g 0) := by unfold pAd; rw [hpa]; rfl
  have hn' := hn
  unfold nC at hn'
  rw [epa] at hn'
  obtain ⟨hal, hel, hlc, hcap⟩ := hp'.list hg1 hgt hlen
  have hcapc := (nPic_iff.mp (hp'.2.2.2.1 g hg1 hgt)).2.2.2
  refine lv_aload_n hx hb d_No_unhang_0 rfl (lv_at hl 0 rfl) ?_
  refine ec_i (va_runV (As := []) (rest := []) ⟨hx, hb, hml, hown, hts⟩ (m_No_rank l G S0 w ms d dp hp' htr k hk hkt) (cwV 0 hts (gw_V k_584 k_586 k_20 k_61 k_587) rfl rfl rfl (by decide +kernel) ⟨Nat.le_of_ble_eq_true rfl, Nat.le_of_ble_eq_true rfl⟩) (eB.preV hE hI hS hz rfl hn') rfl rfl hl.1 rfl (lv_room (Nat.le_of_ble_eq_true rfl)) d_No_unhang_1 ⟨Nat.le_of_ble_eq_true rfl, Nat.le_of_ble_eq_true rfl⟩) hS (fun rk w_1 H locs ew_1 hI hsz hS => ?_)
  obtain ⟨erk, ew_1⟩ := ew_1
  have ew_1 := ew_1.symm
  subst ew_1
  subst erk
  refine lv_istore_n (lv' := [(1, .int (nI (rkF d k))), (0, .ref (mAd ms k 0))]) hx hb d_No_unhang_4 rfl hl (by decide) rfl (fun ls hl => ?_)
  refine lv_aload_n hx hb d_No_unhang_5 rfl (lv_at hl 1 rfl) ?_
  refine hp_get (ci := 1) (v := .ref (mAd ms g 0)) (C := R_No) (T := F_No) (N := 20) hx hb hg i_No hown hK hI hn' rfl 6 (by decide) (hg _ k_177) (fun _ h9 => h9) rfl d_No_unhang_6 ?_
  refine lv_ifnull hx hb d_No_unhang_9 ?_
  refine lv_iload_n hx hb d_No_unhang_12 rfl (lv_at hl 0 rfl) ?_
  refine lv_aload_n hx hb d_No_unhang_13 rfl (lv_at hl 1 rfl) ?_
  refine hp_get (ci := 1) (v := .ref (mAd ms g 0)) (C := R_No) (T := F_No) (N := 20) hx hb hg i_No hown hK hI hn' rfl 6 (by decide) (hg _ k_177) (fun _ h9 => h9) rfl d_No_unhang_14 ?_
  refine hp_get (ci := 1) (v := .ref (mAd ms g 1)) (C := R_No) (T := F_No) (N := 20) hx hb hg i_No hown hK hI hng rfl 3 (by decide) (hg _ k_171) (fun _ h9 => h9) rfl d_No_unhang_17 ?_
  refine ec_i (va_runV (As := []) (rest := [.int (nI (rkF d k))]) ⟨hx, hb, hml, hown, hts⟩ (m_Al_size l G S0 w (mAd ms g 1) (mAd ms g 4) (sCh d g).length hal) (cwV 0 hts (gw_V k_588 k_589 k_590 k_64 k_591) rfl rfl rfl (by decide +kernel) ⟨Nat.le_of_ble_eq_true rfl, Nat.le_of_ble_eq_true rfl⟩) (eB.preV hE hI hS hz rfl hal) rfl rfl hl.1 rfl (lv_room (Nat.le_of_ble_eq_true rfl)) d_No_unhang_20 ⟨Nat.le_of_ble_eq_true rfl, Nat.le_of_ble_eq_true rfl⟩) hS (fun sz w_3 H locs ew_3 hI hsz hS => ?_)
  obtain ⟨esz, ew_3⟩ := ew_3
  have ew_3 := ew_3.symm
  subst ew_3
  subst esz
  refine lv_icmp_ge (tgt := 43) hx hb d_No_unhang_23 (by decide) (fun c9 => absurd c9 ((fun h => by have := (nI_leI (a := (sCh d g).length) (b := rkF d k) (by omega) (by omega)).mp h; omega))) (fun c9 => ?_)
  refine lv_aload_n hx hb d_No_unhang_26 rfl (lv_at hl 1 rfl) ?_
  refine hp_get (ci := 1) (v := .ref (mAd ms g 0)) (C := R_No) (T := F_No) (N := 20) hx hb hg i_No hown hK hI hn' rfl 6 (by decide) (hg _ k_177) (fun _ h9 => h9) rfl d_No_unhang_27 ?_
  refine hp_get (ci := 1) (v := .ref (mAd ms g 1)) (C := R_No) (T := F_No) (N := 20) hx hb hg i_No hown hK hI hng rfl 3 (by decide) (hg _ k_171) (fun _ h9 => h9) rfl d_No_unhang_30 ?_
  refine lv_iload_n hx hb d_No_unhang_33 rfl (lv_at hl 0 rfl) ?_
  refine ec_o (va_runV (As := [.int (nI (rkF d k))]) (rest := []) ⟨hx, hb, hml, hown, hts⟩ (m_Al_remove l G S0 w (mAd ms g 1) (mAd ms g 4) (sCh d g).length (rkF d k) (mCap ms g) (elF ms d g) hal hel hrk hlc hcap elF_ge (elF_no hp' (fun c hc => ⟨(htr.child hg1 hgt hc).1, (htr.child hg1 hgt hc).2.1⟩))) (cwV 1 hts (gw_V k_606 k_607 k_608 k_64 k_609) rfl rfl rfl (by decide +kernel) ⟨Nat.le_of_ble_eq_true rfl, Nat.le_of_ble_eq_true rfl⟩) (eB.preV hE hI hS hz rfl hal) rfl rfl hl.1 rfl (lv_room (Nat.le_of_ble_eq_true rfl)) d_No_unhang_34 ⟨Nat.le_of_ble_eq_true rfl, Nat.le_of_ble_eq_true rfl⟩) hS (fun rm w2 H locs ew2 hI hsz hS => ?_)
  have hlenE : ((sCh d g).eraseIdx (rkF d k)).length = (sCh d g).length - 1 := List.length_eraseIdx_of_lt hrk
  have hea : (mAd ms g 4 = mAd ms g 4 ∧ mCap ms g ≠ 0) ∨ w (mAd ms g 4) = none := Or.inl ⟨rfl, by omega⟩
  have ez : w2 = hp_set (hp_set w (mAd ms g 4) (aO G (mCap ms g) (fun j => (((sCh d g).eraseIdx (rkF d k))[j]?).map (fun c => mAd ms c 0)))) (mAd ms g 1) (oAl (mMc ms g + 1) (mAd ms g 4) ((sCh d g).eraseIdx (rkF d k)).length) := by rw [ew2, elF_rm hrk, hlenE]
  have hp2 := hp'.lst hg1 hgt ((sCh d g).eraseIdx (rkF d k)) (mAd ms g 4) (mCap ms g) (mMc ms g + 1) (by rw [hlenE]; omega) (by omega) hea
  rw [← ez] at hp2
  have hf2 : fR ms d w (msL ms g (mAd ms g 4) (mCap ms g) (mMc ms g + 1)) (dCh d g ((sCh d g).eraseIdx (rkF d k))) w2 := by rw [ez]; exact fR.lst hg1 hgt ((sCh d g).eraseIdx (rkF d k)) (mAd ms g 4) (mCap ms g) (mMc ms g + 1) hea _ _
  obtain ⟨m2, em2⟩ : ∃ z9, z9 = msL ms g (mAd ms g 4) (mCap ms g) (mMc ms g + 1) := ⟨_, rfl⟩
  obtain ⟨d2, ed2⟩ : ∃ z9, z9 = dCh d g ((sCh d g).eraseIdx (rkF d k)) := ⟨_, rfl⟩
  have ad0 : ∀ j, mAd m2 j 0 = mAd ms j 0 := fun j => by rw [em2]; exact msL_ad (by omega)
  have e1 : m2.1 = ms.1 := by rw [em2]; rfl
  rw [← em2, ← ed2] at hp2 hf2
  rw [← ed2]
  have hkt2 : sTh d2 k = true := by rw [ed2]; exact hkt
  have hn2 := hp2.node hk hkt2
  rw [ad0] at hn2
  refine lv_pop hx hb d_No_unhang_37 (va_cat1 _) ?_
  refine lv_aload_n hx hb d_No_unhang_38 rfl (lv_at hl 1 rfl) ?_
  refine lv_null hx hb d_No_unhang_39 ?_
  refine hp_putC (ci := 1) (v := .null) (ty := .object "SceneEasel$Node") (C := R_No) (T := F_No) (N := 20) hx hb hg i_No t_No t_No_ok n_No hown hK hI hS hn2 rfl 6 (by decide) (hg _ k_177) (fun _ h9 => h9) rfl (by decide +kernel) rfl rfl (Nat.le_of_ble_eq_true rfl) d_No_unhang_40 (fun H locs hI hS hsz => ?_)
  obtain ⟨w_4, ew_4⟩ : ∃ z9, z9 = hp_set w2 (mAd ms k 0) (.inr (1, [.int (nI k), .int (sNi d2 k 0), .int (sNi d2 k 1), .ref (mAd m2 k 1), .ref (mAd m2 k 2), .ref (mAd m2 k 3), .null, .int (sNi d2 k 2), .double (sNd d2 k 0), .double (sNd d2 k 1), .double (sNd d2 k 2), .double (sNd d2 k 3), .int (sNi d2 k 3), .int (sNi d2 k 4), .int (sNi d2 k 5), .double (sNd d2 k 4), .double (mNx m2 k 0), .double (mNx m2 k 1), .int (mNi m2 k 0), .int (mNi m2 k 1)])) := ⟨_, rfl⟩
  have hI : eI G S0 w_4 H := by rw [ew_4]; exact hI
  have hn2 : w_4 (mAd ms k 0) = some (.inr (1, [.int (nI k), .int (sNi d2 k 0), .int (sNi d2 k 1), .ref (mAd m2 k 1), .ref (mAd m2 k 2), .ref (mAd m2 k 3), .null, .int (sNi d2 k 2), .double (sNd d2 k 0), .double (sNd d2 k 1), .double (sNd d2 k 2), .double (sNd d2 k 3), .int (sNi d2 k 3), .int (sNi d2 k 4), .int (sNi d2 k 5), .double (sNd d2 k 4), .double (mNx m2 k 0), .double (mNx m2 k 1), .int (mNi m2 k 0), .int (mNi m2 k 1)])) := by rw [ew_4]; exact hp_set_eq _ _ _
  have hp3 := hp2.par hk hkt2 none
  have e5 : pAd m2 (dPa d2 k none) k = none := by
    unfold pAd
    rw [show sPa (dPa d2 k none) k = none from fset_eq _ _ _]
    rfl
  unfold nC at hp3
  rw [e5, ad0] at hp3
  have hf3 : fR m2 d2 w2 m2 (dPa d2 k none) (hp_set w2 (mAd m2 k 0) (nC m2 (dPa d2 k none) k)) := fR.st hk hkt2 ⟨by decide, fun e => absurd e (by decide)⟩ rfl _
  unfold nC at hf3
  rw [e5, ad0] at hf3
  exact W.vret hx hb hr (fun t ht hW => ⟨⟨w_4, rfl, ⟨m2, e1, ad0, by rw [ew_4]; exact hp3, by rw [ew_4]; exact hf2.tr hf3⟩, eWo ht hI⟩, hS.F ht⟩) hS.2.2 d_No_unhang_43

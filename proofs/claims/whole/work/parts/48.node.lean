/-! Easel's calls: node -/
theorem nd_len : ∀ (n : Nat) (l : List Nat), l.Nodup → (∀ x ∈ l, x < n) → l.length ≤ n
  | 0, l, _, h => by
    cases l with
    | nil => exact Nat.le_refl 0
    | cons x xs => exact absurd (h x List.mem_cons_self) (Nat.not_lt_zero x)
  | n + 1, l, hn, h => by
    by_cases hm : n ∈ l
    · have h1 := nd_len n (l.erase n) (hn.erase n) (fun x hx => by
        have := (List.Nodup.mem_erase_iff hn).mp hx
        have := h x this.2
        have : x ≠ n := by omega
        omega)
      rw [List.length_erase_of_mem hm] at h1
      omega
    · have := nd_len n l hn (fun x hx => by
        have h1 := h x hx
        have : x ≠ n := fun e => hm (e ▸ hx)
        omega)
      omega
theorem tOk.self {d : DS} {dp : Nat → Nat} (h : tOk d dp) {g : Nat} (hg : g < 14) (ht : sTh d g = true) : g ∉ sCh d g := fun hm => by
  have := (h.child hg ht hm).2.2.2.2.1
  omega
theorem tOk.len {d : DS} {dp : Nat → Nat} (h : tOk d dp) {g : Nat} (hg : g < 14) (ht : sTh d g = true) : (sCh d g).length ≤ 13 := by
  have := nd_len 14 (g :: sCh d g) (List.nodup_cons.mpr ⟨h.self hg ht, (h.2.2.2.2.2.1 g hg ht).1⟩) (fun x hx => by
    rcases List.mem_cons.mp hx with rfl | hx
    · exact hg
    · exact (h.child hg ht hx).1)
  simp only [List.length_cons] at this
  omega
/-- a node is made -/
def dAdd (d : DS) (n : Nat) (kd co : Int32) : DS :=
  (fset (sTh d) n true, fset (sNi d) n (fun r => if r = 0 then kd else if r = 1 then co else 0), fset (sNd d) n (fun r => if r = 2 ∨ r = 3 then FP.dconst0 else FP.dconst1), fset (sCh d) n [], fset (sPa d) n none, fset (sTn d) n (fun _ => 0), fset (sTt d) n (fun _ _ => FP.dconst0), fset (sTv d) n (fun _ _ => FP.dconst0), sCl d, sPt d)
def msA (m : MS) (n : Nat) (A : Nat → Nat) (nf : Nat → Option Nat) : MS :=
  ((m.1.1, m.1.2.1, m.1.2.2.1, nf), fset (mAd m) n A, fset (mCap m) n 0, fset (mMc m) n 0, fset (mNx m) n (fun _ => FP.dconst0), fset (mNi m) n (fun _ => 0), fset (mXt m) n (1, FP.dconst0, FP.dconst0, FP.dconst0, FP.dconst0))
theorem ePic.new {G : EG} {m : MS} {d : DS} {w w1 z1 z2 : hp_M} {dp : Nat → Nat} (h : ePic G m d w) (htr : tOk d dp) {n : Nat} (hn : n < 14) (hn0 : n ≠ 0) (ht : ¬ sTh d n = true) {q : Nat} (hq : w q = none) (kd co : Int32) (hw1 : ∀ b, b ≠ q → w1 b = w b) {A : Nat → Nat} (hz1 : nwI G w1 q (nI n) kd co 4 A z1) (nf : Nat → Option Nat) (hz2 : z2 = hp_set z1 (mNa m) (aN G 14 nf)) :
    ePic G (msA m n A nf) (dAdd d n kd co) z2 ∧ fR m d w (msA m n A nf) (dAdd d n kd co) z2 := by
  have hhas := hz1.has
  obtain ⟨a0, b0, b1, b2, b3, b4, b5, b6, b7⟩ := hz1
  have old : ∀ b x, w b = some x → z1 b = some x := fun b x hb => b7 b x (by rw [hw1 b (hp_ne_n hb hq)]; exact hb) (hp_ne_n hb hq)
  have fresh : ∀ r, vq 4 r → w (A r) = none := fun r hr => by
    by_cases hr0 : r = 0
    · rw [hr0, a0]; exact hq
    · have h1 := b6 r hr hr0
      by_cases e : A r = q
      · rw [e]; exact hq
      · rw [hw1 _ e] at h1; exact h1
  have neNa : ∀ r, vq 4 r → A r ≠ mNa m := fun r hr e => by
    have h1 := fresh r hr
    rw [e, h.2.1] at h1
    cases h1
  have hz : ∀ b x, z1 b = some x → b ≠ mNa m → z2 b = some x := fun b x q1 q2 => by rw [hz2, hp_set_ne q2]; exact q1
  have hzA : ∀ r x, vq 4 r → z1 (A r) = some x → z2 (A r) = some x := fun r x q1 q2 => hz _ _ q2 (neNa r q1)
  have hjn : ∀ j, sTh d j = true → j ≠ n := fun j hj e => ht (e ▸ hj)
  have thO : ∀ j, j ≠ n → sTh (dAdd d n kd co) j = sTh d j := fun j hj => fset_ne hj
  have adO : ∀ j, j ≠ n → mAd (msA m n A nf) j = mAd m j := fun j hj => fset_ne hj
  have adN : mAd (msA m n A nf) n = A := fset_eq _ _ _
  have capN : mCap (msA m n A nf) n = 0 := fset_eq _ _ _
  have capO : ∀ j, j ≠ n → mCap (msA m n A nf) j = mCap m j := fun j hj => fset_ne hj
  have neE := h.neE
  have pa14 : ∀ j, j < 14 → sTh d j = true → ∀ g, sPa d j = some g → g ≠ n := fun j hj hjt g hg => by
    rcases htr.up hj hjt with ⟨-, e, -⟩ | ⟨g', -, e, et, -⟩
    · rw [e] at hg; cases hg
    · rw [e] at hg; cases hg; exact hjn _ et
  have cellO : ∀ j r, j < 14 → sTh d j = true → cellOf G (msA m n A nf) (dAdd d n kd co) j r = cellOf G m d j r := fun j r hj hjt => by
    have e := hjn j hjt
    have c1 : sCh (dAdd d n kd co) j = sCh d j := fset_ne e
    have c2 : sPa (dAdd d n kd co) j = sPa d j := fset_ne e
    have c3 : sNi (dAdd d n kd co) j = sNi d j := fset_ne e
    have c4 : sNd (dAdd d n kd co) j = sNd d j := fset_ne e
    have c5 : sTn (dAdd d n kd co) j = sTn d j := fset_ne e
    have c6 : sTt (dAdd d n kd co) j = sTt d j := fset_ne e
    have c7 : sTv (dAdd d n kd co) j = sTv d j := fset_ne e
    have c8 : mMc (msA m n A nf) j = mMc m j := fset_ne e
    have c9 : mNx (msA m n A nf) j = mNx m j := fset_ne e
    have c10 : mNi (msA m n A nf) j = mNi m j := fset_ne e
    have c11 : mXt (msA m n A nf) j = mXt m j := fset_ne e
    have p1 : pAd (msA m n A nf) (dAdd d n kd co) j = pAd m d j := by
      unfold pAd
      rw [c2]
      cases hg : sPa d j with
      | none => rfl
      | some g => show some (mAd (msA m n A nf) g 0) = some (mAd m g 0); rw [adO g (pa14 j hj hjt g hg)]
    have p2 : elF (msA m n A nf) (dAdd d n kd co) j = elF m d j := by
      funext i
      unfold elF
      rw [c1]
      cases hg : (sCh d j)[i]? with
      | none => rfl
      | some c => show some (mAd (msA m n A nf) c 0) = some (mAd m c 0); rw [adO c (hjn c (htr.child hj hjt (List.mem_of_getElem? hg)).2.1)]
    have p3 : elA G (msA m n A nf) j = elA G m j := by unfold elA; rw [capO j e, adO j e]
    have p4 : trF (msA m n A nf) j = trF m j := by unfold trF; rw [adO j e]
    unfold cellOf nC
    rw [p1, p2, p3, p4, c1, c3, c4, c5, c6, c7, c8, c9, c10, c11, capO j e, adO j e]
  have cellN : ∀ r, r < 17 → r ≠ 4 → z2 (A r) = some (cellOf G (msA m n A nf) (dAdd d n kd co) n r) := fun r hr h4 => by
    have c1 : sCh (dAdd d n kd co) n = [] := fset_eq _ _ _
    have c2 : sPa (dAdd d n kd co) n = none := fset_eq _ _ _
    have c3 : sNi (dAdd d n kd co) n = (fun r => if r = 0 then kd else if r = 1 then co else 0) := fset_eq _ _ _
    have c4 : sNd (dAdd d n kd co) n = (fun r => if r = 2 ∨ r = 3 then FP.dconst0 else FP.dconst1) := fset_eq _ _ _
    have c5 : sTn (dAdd d n kd co) n = (fun _ => 0) := fset_eq _ _ _
    have c6 : sTt (dAdd d n kd co) n = (fun _ _ => FP.dconst0) := fset_eq _ _ _
    have c7 : sTv (dAdd d n kd co) n = (fun _ _ => FP.dconst0) := fset_eq _ _ _
    have c8 : mMc (msA m n A nf) n = 0 := fset_eq _ _ _
    have c9 : mNx (msA m n A nf) n = (fun _ => FP.dconst0) := fset_eq _ _ _
    have c10 : mNi (msA m n A nf) n = (fun _ => 0) := fset_eq _ _ _
    have c11 : mXt (msA m n A nf) n = (1, FP.dconst0, FP.dconst0, FP.dconst0, FP.dconst0) := fset_eq _ _ _
    have p1 : pAd (msA m n A nf) (dAdd d n kd co) n = none := by unfold pAd; rw [c2]; rfl
    have p3 : elA G (msA m n A nf) n = eO G := if_pos capN
    have p4 : trF (msA m n A nf) n = trA A 4 := by unfold trF trA; rw [adN]
    unfold cellOf nC
    rw [p1, p3, p4, c1, c3, c4, c5, c6, c7, c8, c9, c10, c11, adN]
    by_cases q0 : r = 0
    · rw [q0, if_pos rfl]
      have := hzA 0 _ (Or.inl (by decide)) (by rw [a0]; exact b0)
      exact this
    rw [if_neg q0]
    by_cases q1 : r = 1
    · rw [q1, if_pos rfl]; exact hzA 1 _ (Or.inl (by decide)) b1
    rw [if_neg q1]
    by_cases q2 : r = 2
    · rw [q2, if_pos rfl]; exact hzA 2 _ (Or.inl (by decide)) b2
    rw [if_neg q2]
    by_cases q3 : r = 3
    · rw [q3, if_pos rfl]; exact hzA 3 _ (Or.inl (by decide)) b3
    rw [if_neg q3, if_neg h4]
    by_cases q9 : r < 9
    · rw [if_pos q9]
      have := (b4 (r - 5) (by omega)).1
      rw [show 5 + (r - 5) = r by omega, show 9 + (r - 5) = r + 4 by omega, show 13 + (r - 5) = r + 8 by omega] at this
      exact hzA r _ (by unfold vq; omega) this
    rw [if_neg q9]
    by_cases q13 : r < 13
    · rw [if_pos q13]
      have := (b4 (r - 9) (by omega)).2.1
      rw [show 9 + (r - 9) = r by omega] at this
      exact hzA r _ (by unfold vq; omega) this
    rw [if_neg q13]
    have := (b4 (r - 13) (by omega)).2.2
    rw [show 13 + (r - 13) = r by omega] at this
    exact hzA r _ (by unfold vq; omega) this
  have vN : ∀ r, vR (msA m n A nf) n r → r < 17 ∧ r ≠ 4 := fun r hr => ⟨hr.1, fun e => hr.2 e capN⟩
  have vO : ∀ j r, j ≠ n → vR (msA m n A nf) j r → vR m j r := fun j r hj hr => ⟨hr.1, fun e => by have := hr.2 e; rw [capO j hj] at this; exact this⟩
  have v17 : ∀ r, r < 17 → r ≠ 4 → vq 4 r := fun r h1 h2 => by unfold vq; omega
  refine ⟨⟨?_, ?_, ?_, fun j hj hjt => ?_, fun j r j' r' hj hj' hjt hjt' hv hv' e => ?_⟩, ?_, ?_⟩
  · show z2 (mEo m) = some (.inr (3, [.ref (mAd (msA m n A nf) 0 0), .ref (mNa m), .ref (mCa m), .int (sPt d)]))
    rw [adO 0 (Ne.symm hn0)]
    exact hz _ _ (old _ _ h.1) neE.1
  · show z2 (mNa m) = some (aN G 14 nf)
    rw [hz2]
    exact hp_set_eq _ _ _
  · show z2 (mCa m) = some (aI G 192 (sCl d))
    exact hz _ _ (old _ _ h.2.2.1) (Ne.symm neE.2.2)
  · by_cases e : j = n
    · subst e
      refine nPic_iff.mpr ⟨fun r hr => ?_, fun i hi => ?_, ?_, Or.inl capN⟩
      · obtain ⟨r1, r2⟩ := vN r hr
        rw [adN]
        exact cellN r r1 r2
      · rw [show sTn (dAdd d j kd co) j = (fun _ => 0) from fset_eq _ _ _]; exact Nat.zero_le _
      · rw [show sCh (dAdd d j kd co) j = [] from fset_eq _ _ _]; exact Nat.zero_le _
    · rw [thO j e] at hjt
      have ho := nPic_iff.mp (h.2.2.2.1 j hj hjt)
      refine nPic_iff.mpr ⟨fun r hr => ?_, fun i hi => ?_, ?_, ?_⟩
      · rw [adO j e, cellO j r hj hjt]
        exact hz _ _ (old _ _ (ho.1 r (vO j r e hr))) (Ne.symm (h.ne3 hj hjt (vO j r e hr)).2.1)
      · rw [show sTn (dAdd d n kd co) j = sTn d j from fset_ne e]; exact ho.2.1 i hi
      · rw [show sCh (dAdd d n kd co) j = sCh d j from fset_ne e, capO j e]; exact ho.2.2.1
      · rw [capO j e]; exact ho.2.2.2
  · by_cases e1 : j = n <;> by_cases e2 : j' = n
    · subst e1
      subst e2
      obtain ⟨r1, r2⟩ := vN r hv
      obtain ⟨r3, r4⟩ := vN r' hv'
      rw [adN] at e
      exact ⟨rfl, b5 r r' (v17 r r1 r2) (v17 r' r3 r4) e⟩
    · subst e1
      obtain ⟨r1, r2⟩ := vN r hv
      rw [thO j' e2] at hjt'
      rw [adN, adO j' e2] at e
      have h1 := fresh r (v17 r r1 r2)
      rw [e, h.ob hj' hjt' (vO j' r' e2 hv')] at h1
      cases h1
    · subst e2
      obtain ⟨r1, r2⟩ := vN r' hv'
      rw [thO j e1] at hjt
      rw [adN, adO j e1] at e
      have h1 := fresh r' (v17 r' r1 r2)
      rw [← e, h.ob hj hjt (vO j r e1 hv)] at h1
      cases h1
    · rw [thO j e1] at hjt
      rw [thO j' e2] at hjt'
      rw [adO j e1, adO j' e2] at e
      exact h.2.2.2.2 j r j' r' hj hj' hjt hjt' (vO j r e1 hv) (vO j' r' e2 hv') e
  · exact fun a x q1 q2 => hz a x (old a x q1) (fun e => q2 (Or.inr (Or.inl e)))
  · intro a ha
    rcases ha with e | e | e | ⟨j, r, hj, hjt, hr, e⟩
    · exact Or.inl (Or.inl e)
    · exact Or.inl (Or.inr (Or.inl e))
    · exact Or.inl (Or.inr (Or.inr (Or.inl e)))
    · by_cases ej : j = n
      · subst ej
        obtain ⟨r1, r2⟩ := vN r hr
        rw [adN] at e
        exact Or.inr (by rw [e]; exact fresh r (v17 r r1 r2))
      · rw [thO j ej] at hjt
        rw [adO j ej] at e
        exact Or.inl (Or.inr (Or.inr (Or.inr ⟨j, r, hj, hjt, vO j r ej hr, e⟩)))
def dNode (d : DS) (n g : Nat) (kd co : Int32) : DS := dCh (dPa (dAdd d n kd co) n (some g)) g (sCh d g ++ [n])
def okNode (d : DS) (g : Int32) (kd co : Int32) : Prop := isGroup d g ∧ (0 ≤ kd ∧ kd ≤ 3) ∧ (1 ≤ co ∧ co ≤ 15)
set_option maxHeartbeats 4000000 in
set_option maxRecDepth 100000 in
theorem m_Ea_node (l : Launch) (hlt : l.stackTraces = false) (G : EG) (S0 : Nat) (w : hp_M) (ms : MS) (d : DS) (hp' : ePic G ms d w) (hno : nOk ms d) (dp : Nat → Nat) (htr : tOk d dp) (gr kd co : Int32) : vx_Met l y_Ea_node w_Ea_node (rl 22 40 200) (eP G S0 w [.ref (mEo ms), .int gr, .int kd, .int co]) (va_Qi (fun r z => ∃ g n, g < 14 ∧ gr = nI g ∧ sTh d g = true ∧ sNi d g 0 = 0 ∧ (0 ≤ kd ∧ kd ≤ 3) ∧ (1 ≤ co ∧ co ≤ 15) ∧ lsF d n ∧ n < 14 ∧ dp g < 5 ∧ r = nI n ∧ pubR G ms d w (dNode d n g kd co) z) (eW G S0) (hp_A S0)) (eX G S0 (fun E z => z = w ∧ ((E = iae ∧ ¬ okNode d gr kd co) ∨ (E = ise ∧ ∃ g, g < 14 ∧ gr = nI g ∧ sTh d g = true ∧ sNi d g 0 = 0 ∧ (0 ≤ kd ∧ kd ≤ 3) ∧ (1 ≤ co ∧ co ≤ 15) ∧ (lsF d 14 ∨ 5 ≤ dp g))))) 40 200 (hp_A S0) := by
  refine vx_ofW (cc := b_Ea_node) (maxL := 7) (ret := (some .int)) (by decide) rfl ?_
  intro p e s m args below meth c s₁ B hml hnx hv
  obtain ⟨rfl, hE, hI, hz⟩ := hv
  have hx := B.exec
  have hb := B.bytes
  have hr := B.returns
  have hts := atoms_spec (ws := w_Ea_node) B.pre
  have hg : ∀ w ∈ gw, w.before _ s = true := fun w h => hts w (List.mem_cons_of_mem _ h)
  have hown : s.vm.findClass "SceneEasel" = some m.cls := findClass_of_methodNamed B.named
  have hlocks := B.notSynchronized
  have hK := hE.K
  have hS : va_S (hp_A S0) s.heap s.heap [] := va_S.rf
  have hl := lv_entry ([.ref (mEo ms), .int gr, .int kd, .int co]) (n := 7) (Nat.le_of_ble_eq_true rfl)
  rw [lg_entry_eq]
  generalize (lg_sl ([.ref (mEo ms), .int gr, .int kd, .int co]) ++ List.replicate (7 - (lg_sl ([.ref (mEo ms), .int gr, .int kd, .int co])).length) Slot.unset).toArray = ls at hl ⊢
  have hl : lv_has ls 7 [(0, .ref (mEo ms)), (1, .int gr), (2, .int kd), (3, .int co)] := hl
  have hob := hp'.1
  have hna := hp'.2.1
  refine lv_aload_n hx hb d_Ea_node_0 rfl (lv_at hl 0 rfl) ?_
  refine lv_iload_n hx hb d_Ea_node_1 rfl (lv_at hl 1 rfl) ?_
  refine xc_o (vx_runV (As := [.int gr]) (rest := []) ⟨hx, hb, hml, hown, hts⟩ (m_Ea_requireGroup l hlt G S0 w ms d hp' hno gr) (cwV 1 hts (gw_V k_296 k_298 k_6 k_60 k_299) rfl rfl rfl (by decide +kernel) ⟨Nat.le_of_ble_eq_true rfl, Nat.le_of_ble_eq_true rfl⟩) (eB.preV hE hI hS hz rfl hob) rfl rfl hl.1 rfl (lv_room (Nat.le_of_ble_eq_true rfl)) d_Ea_node_2 ⟨Nat.le_of_ble_eq_true rfl, Nat.le_of_ble_eq_true rfl⟩) hS (fun E9 ce9 q9 u9 H9 locs9 hpx9 hI9 hsz9 hS9 g1 g2 g3 => xc_out hnx hlocks g1 g2 g3 (⟨hpx9.2.1, Or.inl ⟨hpx9.1, fun h => hpx9.2.2 h.1⟩⟩) hI9 hS9 (Nat.le_of_ble_eq_true rfl) (Nat.le_of_ble_eq_true rfl)) (fun nd w_1 H locs ew_1 hI hsz hS => ?_)
  obtain ⟨ew_1, h1⟩ := ew_1
  have ew_1 := ew_1.symm
  subst ew_1
  obtain ⟨g, hg1, eg, ht, hg0, end_⟩ := h1
  subst end_
  have hng := hp'.node hg1 ht
  refine lv_astore (lv' := [(4, .ref (mAd ms g 0)), (0, .ref (mEo ms)), (1, .int gr), (2, .int kd), (3, .int co)]) hx hb d_Ea_node_5 hl (by decide) rfl (fun ls hl => ?_)
  refine lv_iload_n hx hb d_Ea_node_7 rfl (lv_at hl 3 rfl) ?_
  refine lv_iconst (v := 0) hx hb d_Ea_node_8 (by decide) ?_
  refine lv_iconst (v := 3) hx hb d_Ea_node_9 (by decide) ?_
  refine xc_v (vx_runS (As := [.int kd, .int 0, .int 3]) (rest := []) ⟨hx, hb, hml, hown, hts⟩ (m_Ea_requireWithin l hlt G S0 w kd 0 3) (cwS 3 hts (gw_S k_373 k_374 k_60 k_375) rfl rfl rfl (by decide +kernel) ⟨Nat.le_of_ble_eq_true rfl, Nat.le_of_ble_eq_true rfl⟩) (eB.preS hE hI hS hz) rfl rfl hl.1 rfl (lv_room (Nat.le_of_ble_eq_true rfl)) d_Ea_node_10 ⟨Nat.le_of_ble_eq_true rfl, Nat.le_of_ble_eq_true rfl⟩) hS (fun E9 ce9 q9 u9 H9 locs9 hpx9 hI9 hsz9 hS9 g1 g2 g3 => xc_out hnx hlocks g1 g2 g3 (⟨hpx9.2.1, Or.inl ⟨hpx9.1, fun h => hpx9.2.2 h.2.1⟩⟩) hI9 hS9 (Nat.le_of_ble_eq_true rfl) (Nat.le_of_ble_eq_true rfl)) (fun w_2 H locs ew_2 hI hsz hS => ?_)
  obtain ⟨ew_2, h2⟩ := ew_2
  have ew_2 := ew_2.symm
  subst ew_2
  refine lv_iload_n hx hb d_Ea_node_13 rfl (lv_at hl 4 rfl) ?_
  refine lv_iconst (v := 1) hx hb d_Ea_node_14 (by decide) ?_
  refine lv_bipush (v := 15) hx hb d_Ea_node_15 (by decide) ?_
  refine xc_v (vx_runS (As := [.int co, .int 1, .int 15]) (rest := []) ⟨hx, hb, hml, hown, hts⟩ (m_Ea_requireWithin l hlt G S0 w co 1 15) (cwS 3 hts (gw_S k_373 k_374 k_60 k_375) rfl rfl rfl (by decide +kernel) ⟨Nat.le_of_ble_eq_true rfl, Nat.le_of_ble_eq_true rfl⟩) (eB.preS hE hI hS hz) rfl rfl hl.1 rfl (lv_room (Nat.le_of_ble_eq_true rfl)) d_Ea_node_17 ⟨Nat.le_of_ble_eq_true rfl, Nat.le_of_ble_eq_true rfl⟩) hS (fun E9 ce9 q9 u9 H9 locs9 hpx9 hI9 hsz9 hS9 g1 g2 g3 => xc_out hnx hlocks g1 g2 g3 (⟨hpx9.2.1, Or.inl ⟨hpx9.1, fun h => hpx9.2.2 h.2.2⟩⟩) hI9 hS9 (Nat.le_of_ble_eq_true rfl) (Nat.le_of_ble_eq_true rfl)) (fun w_3 H locs ew_3 hI hsz hS => ?_)
  obtain ⟨ew_3, h3⟩ := ew_3
  have ew_3 := ew_3.symm
  subst ew_3
  refine lv_aload_n hx hb d_Ea_node_20 rfl (lv_at hl 1 rfl) ?_
  refine ec_i (va_runV (As := []) (rest := []) ⟨hx, hb, hml, hown, hts⟩ (m_Ea_leastFree l G S0 w ms d hp' hno) (cwV 0 hts (gw_V k_377 k_379 k_9 k_60 k_380) rfl rfl rfl (by decide +kernel) ⟨Nat.le_of_ble_eq_true rfl, Nat.le_of_ble_eq_true rfl⟩) (eB.preV hE hI hS hz rfl hob) rfl rfl hl.1 rfl (lv_room (Nat.le_of_ble_eq_true rfl)) d_Ea_node_21 ⟨Nat.le_of_ble_eq_true rfl, Nat.le_of_ble_eq_true rfl⟩) hS (fun lf w_4 H locs ew_4 hI hsz hS => ?_)
  obtain ⟨elf, ew_4⟩ := ew_4
  have ew_4 := ew_4.symm
  subst ew_4
  obtain ⟨n, hls, elf⟩ := elf
  subst elf
  refine lv_istore (lv' := [(5, .int (nI n)), (4, .ref (mAd ms g 0)), (0, .ref (mEo ms)), (1, .int gr), (2, .int kd), (3, .int co)]) hx hb d_Ea_node_24 hl (by decide) rfl (fun ls hl => ?_)
  refine lv_iload hx hb d_Ea_node_26 (lv_at hl 0 rfl) ?_
  refine lv_bipush (v := 14) hx hb d_Ea_node_28 (by decide) ?_
  refine lv_icmp_ne (tgt := 43) hx hb d_Ea_node_30 (by decide) (fun c1 => ?_) (fun c1 => ?_)
  · have hn14 : n < 14 := by
      have := hls.1
      rcases Nat.lt_or_ge n 14 with q | q
      · exact q
      · exact absurd (show nI n = 14 by rw [show n = 14 by omega]; rfl) c1
    have hnt := hls.2.2 hn14
    have hn0 : n ≠ 0 := fun e => hnt (by rw [e]; exact htr.1)
    have hgn : n ≠ g := fun e => hnt (by rw [e]; exact ht)
    have hd5 := htr.2.2.2.2.2.2 g hg1 ht
    refine lv_aload hx hb d_Ea_node_43 (lv_at hl 1 rfl) ?_
    refine ec_i (va_runVN (As := []) (rest := []) ⟨hx, hb, hml, hown, hts⟩ (m_No_depth l G S0 w ms d dp hp' htr g hg1 ht) ⟨va_cnB 0 hts (gw_code k_283) rfl rfl rfl (hE.Nw q_280) (hg _ k_61) (by decide +kernel) ⟨Nat.le_of_ble_eq_true rfl, Nat.le_of_ble_eq_true rfl⟩, hg _ k_282, hg _ k_5⟩ (eB.preV hE hI hS hz rfl hng) rfl rfl hl.1 rfl (lv_room (Nat.le_of_ble_eq_true rfl)) d_Ea_node_45 ⟨Nat.le_of_ble_eq_true rfl, Nat.le_of_ble_eq_true rfl⟩) hS (fun dd w_5 H locs ew_5 hI hsz hS => ?_)
    obtain ⟨edd, ew_5⟩ := ew_5
    have ew_5 := ew_5.symm
    subst ew_5
    subst edd
    refine lv_iconst (v := 5) hx hb d_Ea_node_48 (by decide) ?_
    refine lv_icmp_lt (tgt := 62) hx hb d_Ea_node_49 (by decide) (fun c2 => ?_) (fun c2 => ?_)
    · have hlt5 : dp g < 5 := (nI_ltI (a := dp g) (b := 5) (by omega) (by decide)).mp c2
      refine hp_new (ci := 1) (fs := [.int 0, .int 0, .int 0, .null, .null, .null, .null, .int 0, .double FP.dconst0, .double FP.dconst0, .double FP.dconst0, .double FP.dconst0, .int 0, .int 0, .int 0, .double FP.dconst0, .double FP.dconst0, .double FP.dconst0, .int 0, .int 0]) (T := F_No) (N := 20) hx hb hg i_No t_No t_No_ok hown (hg _ k_88) (hg _ k_90) (hg _ k_61) hK hI hS hz rfl n_No_fs (Nat.le_of_ble_eq_true rfl) (Nat.le_of_ble_eq_true rfl) d_Ea_node_62 (fun q H hn_q hs_q hz_q hI hS => ?_)
      obtain ⟨w1, ew1⟩ : ∃ z9, z9 = hp_set w q (.inr (1, [.int 0, .int 0, .int 0, .null, .null, .null, .null, .int 0, .double FP.dconst0, .double FP.dconst0, .double FP.dconst0, .double FP.dconst0, .int 0, .int 0, .int 0, .double FP.dconst0, .double FP.dconst0, .double FP.dconst0, .int 0, .int 0])) := ⟨_, rfl⟩
      have hI : eI G S0 w1 H := by rw [ew1]; exact hI
      have ne_hob_q := hp_ne_n hob hn_q
      have hob : w1 (mEo ms) = some (.inr (3, [.ref (mAd ms 0 0), .ref (mNa ms), .ref (mCa ms), .int (sPt d)])) := by rw [ew1, hp_set_ne ne_hob_q]; exact hob
      have ne_hng_q := hp_ne_n hng hn_q
      have hng : w1 (mAd ms g 0) = some (.inr (1, [.int (nI g), .int (sNi d g 0), .int (sNi d g 1), .ref (mAd ms g 1), .ref (mAd ms g 2), .ref (mAd ms g 3), va_rf (pAd ms d g), .int (sNi d g 2), .double (sNd d g 0), .double (sNd d g 1), .double (sNd d g 2), .double (sNd d g 3), .int (sNi d g 3), .int (sNi d g 4), .int (sNi d g 5), .double (sNd d g 4), .double (mNx ms g 0), .double (mNx ms g 1), .int (mNi ms g 0), .int (mNi ms g 1)])) := by rw [ew1, hp_set_ne ne_hng_q]; exact hng
      have ne_hna_q := hp_ne_n hna hn_q
      have hna : w1 (mNa ms) = some (.inl (G.2.2.1 4, 14, .inr (.inr (.inr (.inr (mNf ms)))))) := by rw [ew1, hp_set_ne ne_hna_q]; exact hna
      have hq : w1 q = some (.inr (1, [.int 0, .int 0, .int 0, .null, .null, .null, .null, .int 0, .double FP.dconst0, .double FP.dconst0, .double FP.dconst0, .double FP.dconst0, .int 0, .int 0, .int 0, .double FP.dconst0, .double FP.dconst0, .double FP.dconst0, .int 0, .int 0])) := by rw [ew1]; exact hp_set_eq _ _ _
      refine lv_dup hx hb d_Ea_node_65 rfl ?_
      refine lv_iload hx hb d_Ea_node_66 (lv_at hl 0 rfl) ?_
      refine lv_iload_n hx hb d_Ea_node_68 rfl (lv_at hl 4 rfl) ?_
      refine lv_iload_n hx hb d_Ea_node_69 rfl (lv_at hl 5 rfl) ?_
      refine ec_v (va_runIN (As := [.int (nI n), .int kd, .int co]) (rest := [.ref q]) ⟨hx, hb, hml, hown, hts⟩ (m_No_init l G S0 w1 q (nI n) kd co hq) ⟨va_cnB 3 hts (gw_code k_93) rfl rfl rfl (hE.Nw q_91) (hg _ k_61) (by decide +kernel) ⟨Nat.le_of_ble_eq_true rfl, Nat.le_of_ble_eq_true rfl⟩, rfl, hg _ k_92⟩ (eB.preS hE hI hS hz) rfl rfl hl.1 rfl (lv_room (Nat.le_of_ble_eq_true rfl)) d_Ea_node_70 ⟨Nat.le_of_ble_eq_true rfl, Nat.le_of_ble_eq_true rfl⟩) hS (fun w2 H locs ew2 hI hsz hS => ?_)
      obtain ⟨A, hA⟩ := ew2
      have hw1 : ∀ b, b ≠ q → w1 b = w b := fun b hb => by rw [ew1, hp_set_ne hb]
      have hnew := hp'.new htr hn14 hn0 hnt hn_q kd co hw1 hA (va_up (mNf ms) n (some q)) rfl
      have old : ∀ b x, w b = some x → w2 b = some x := fun b x hb => hA.2.2.2.2.2.2.2.2 b x (by rw [hw1 b (hp_ne_n hb hn_q)]; exact hb) (hp_ne_n hb hn_q)
      have hob2 := old _ _ hp'.1
      have hna2 := old _ _ hp'.2.1
      have hnq2 := hA.2.1
      refine lv_astore (lv' := [(6, .ref q), (5, .int (nI n)), (4, .ref (mAd ms g 0)), (0, .ref (mEo ms)), (1, .int gr), (2, .int kd), (3, .int co)]) hx hb d_Ea_node_73 hl (by decide) rfl (fun ls hl => ?_)
      refine lv_aload_n hx hb d_Ea_node_75 rfl (lv_at hl 3 rfl) ?_
      refine hp_get (ci := 3) (v := .ref (mNa ms)) (C := R_Ea) (T := F_Ea) (N := 4) hx hb hg i_Ea hown hK hI hob2 rfl 1 (by decide) (hg _ k_244) (fun _ h9 => h9) rfl d_Ea_node_76 ?_
      refine lv_iload hx hb d_Ea_node_79 (lv_at hl 1 rfl) ?_
      refine lv_aload hx hb d_Ea_node_81 (lv_at hl 0 rfl) ?_
      refine hp_aastC hx hb hK hI hS 4 1 hna2 rfl hnq2 rfl (vp_in_nI hn14 (by decide)) d_Ea_node_83 (fun H locs hI hS hsz => ?_)
      rw [nI_clamp (n := n) (by omega)] at hI
      obtain ⟨f_6, ef_6⟩ : ∃ z9, z9 = va_up (mNf ms) n (some q) := ⟨_, rfl⟩
      rw [← ef_6] at hI
      obtain ⟨w_7, ew_7⟩ : ∃ z9, z9 = hp_set w2 (mNa ms) (.inl (G.2.2.1 4, 14, .inr (.inr (.inr (.inr f_6))))) := ⟨_, rfl⟩
      have hI : eI G S0 w_7 H := by rw [ew_7]; exact hI
      have hob2 : w_7 (mEo ms) = some (.inr (3, [.ref (mAd ms 0 0), .ref (mNa ms), .ref (mCa ms), .int (sPt d)])) := by rw [ew_7, hp_set_ne (hp_ne_oa hob2 hna2)]; exact hob2
      have hnq2 : w_7 q = some (.inr (1, [.int (nI n), .int kd, .int co, .ref (A 1), .ref (A 2), .ref (A 3), .null, .int 0, .double FP.dconst1, .double FP.dconst1, .double FP.dconst0, .double FP.dconst0, .int 0, .int 0, .int 0, .double FP.dconst1, .double FP.dconst0, .double FP.dconst0, .int 0, .int 0])) := by rw [ew_7, hp_set_ne (hp_ne_oa hnq2 hna2)]; exact hnq2
      have hna2 : w_7 (mNa ms) = some (.inl (G.2.2.1 4, 14, .inr (.inr (.inr (.inr f_6))))) := by rw [ew_7]; exact hp_set_eq _ _ _
      obtain ⟨hp3, hf3⟩ := hnew
      have ez3 : hp_set w2 (mNa ms) (aN G 14 (va_up (mNf ms) n (some q))) = w_7 := by rw [ew_7, ef_6]
      rw [ez3] at hp3 hf3
      have hgt3 : sTh (dAdd d n kd co) g = true := by rw [show sTh (dAdd d n kd co) g = sTh d g from fset_ne (Ne.symm hgn)]; exact ht
      have hnt3 : sTh (dAdd d n kd co) n = true := fset_eq _ _ _
      have eqn : mAd (msA ms n A (va_up (mNf ms) n (some q))) n 0 = q := by rw [show mAd (msA ms n A (va_up (mNf ms) n (some q))) n = A from fset_eq _ _ _]; exact hA.1
      have eqg : mAd (msA ms n A (va_up (mNf ms) n (some q))) g 0 = mAd ms g 0 := by rw [show mAd (msA ms n A (va_up (mNf ms) n (some q))) g = mAd ms g from fset_ne (Ne.symm hgn)]
      have ech : sCh (dAdd d n kd co) g = sCh d g := fset_ne (Ne.symm hgn)
      have hhang := m_No_hangInto l G S0 w_7 (msA ms n A (va_up (mNf ms) n (some q))) (dAdd d n kd co) hp3 n g hn14 hnt3 hg1 hgt3 hgn (fun c hc => by rw [ech] at hc; have := htr.child hg1 ht hc; exact ⟨this.1, by rw [show sTh (dAdd d n kd co) c = sTh d c from fset_ne (fun e => hnt (by rw [← e]; exact this.2.1))]; exact this.2.1⟩) (by rw [ech]; exact htr.len hg1 ht)
      rw [eqn, eqg, ech] at hhang
      refine lv_aload hx hb d_Ea_node_84 (lv_at hl 0 rfl) ?_
      refine lv_aload hx hb d_Ea_node_86 (lv_at hl 2 rfl) ?_
      refine ec_v (va_runVN (As := [.ref (mAd ms g 0)]) (rest := []) ⟨hx, hb, hml, hown, hts⟩ (hhang) ⟨va_cnB 1 hts (gw_code k_401) rfl rfl rfl (hE.Nw q_398) (hg _ k_61) (by decide +kernel) ⟨Nat.le_of_ble_eq_true rfl, Nat.le_of_ble_eq_true rfl⟩, hg _ k_400, hg _ k_10⟩ (eB.preV hE hI hS hz rfl hnq2) rfl rfl hl.1 rfl (lv_room (Nat.le_of_ble_eq_true rfl)) d_Ea_node_88 ⟨Nat.le_of_ble_eq_true rfl, Nat.le_of_ble_eq_true rfl⟩) hS (fun w5 H locs ew5 hI hsz hS => ?_)
      obtain ⟨m5, e51, e52, hp5, hf5⟩ := ew5
      refine lv_iload hx hb d_Ea_node_91 (lv_at hl 1 rfl) ?_
      have hno5 : nOk m5 (dNode d n g kd co) := fun j hj => by
        have e1 : mNf m5 = va_up (mNf ms) n (some q) := by show m5.1.2.2.2 = _; rw [e51]; rfl
        rw [e1]
        unfold va_up noF
        rw [e52]
        show _ = if sTh (dAdd d n kd co) j = true then _ else none
        by_cases e : j = n
        · rw [if_pos e, e, if_pos hnt3, eqn]
        · rw [if_neg e, hno j hj, show sTh (dAdd d n kd co) j = sTh d j from fset_ne e, show mAd (msA ms n A (va_up (mNf ms) n (some q))) j = mAd ms j from fset_ne e]
          rfl
      refine vx_ret ?_
      refine W.widen (k := 40) (n := 200) (Nat.le_of_ble_eq_true rfl) (Nat.le_of_ble_eq_true rfl) ?_
      exact W.iret (v := (nI n)) hx hb hr (fun t9 ht9 hW9 => ⟨⟨(nI n), w5, rfl, ⟨g, n, hg1, eg, ht, hg0, h2, h3, hls, hn14, hlt5, rfl, m5, by show m5.1.1 = ms.1.1; rw [e51]; rfl, hp5, hno5, hf3.tr hf5⟩, eWo ht9 hI⟩, hS.F ht9⟩) hS.2.2 d_Ea_node_93
    · have hge5 : 5 ≤ dp g := by
        rcases Nat.lt_or_ge (dp g) 5 with q | q
        · exact absurd (nI_lt (a := dp g) (b := 5) q (by decide)) c2
        · exact q
      exact xt_throw (names := rte) (text := "no room: too deep") k_381 k_72 (by decide +kernel) xf_ise x1_ise x2_ise x3_ise rfl hx hb hlt hown hg hE hI hS (hl.1.trans hml.symm) d_Ea_node_52 d_Ea_node_55 d_Ea_node_56 d_Ea_node_58 d_Ea_node_61 hnx hlocks (⟨rfl, Or.inr ⟨rfl, g, hg1, eg, ht, hg0, h2, h3, Or.inr hge5⟩⟩) (Nat.le_of_ble_eq_true rfl) (Nat.le_of_ble_eq_true rfl) (Nat.le_of_ble_eq_true rfl) (Nat.le_of_ble_eq_true rfl) (Nat.le_of_ble_eq_true rfl) (Nat.le_of_ble_eq_true rfl)
  · have hn14 : n = 14 := (nI_eq (a := n) (b := 14) (by have := hls.1; omega) (by decide)).mp c1
    exact xt_throw (names := rte) (text := "no room for another node") k_381 k_72 (by decide +kernel) xf_ise x1_ise x2_ise x3_ise rfl hx hb hlt hown hg hE hI hS (hl.1.trans hml.symm) d_Ea_node_33 d_Ea_node_36 d_Ea_node_37 d_Ea_node_39 d_Ea_node_42 hnx hlocks (⟨rfl, Or.inr ⟨rfl, g, hg1, eg, ht, hg0, h2, h3, Or.inl (by rw [← hn14]; exact hls)⟩⟩) (Nat.le_of_ble_eq_true rfl) (Nat.le_of_ble_eq_true rfl) (Nat.le_of_ble_eq_true rfl) (Nat.le_of_ble_eq_true rfl) (Nat.le_of_ble_eq_true rfl) (Nat.le_of_ble_eq_true rfl)

/-! the state: what the document tells (DS), what lies in memory beside it (MS) -/
abbrev DS : Type := (Nat → Bool) × (Nat → Nat → Int32) × (Nat → Nat → UInt64) × (Nat → List Nat) × (Nat → Option Nat) × (Nat → Nat → Nat) × (Nat → Nat → Nat → UInt64) × (Nat → Nat → Nat → UInt64) × (Nat → Int32) × Int32
/-- is the node there -/
abbrev sTh (d : DS) : Nat → Bool := d.1
/-- 0 kind, 1 colour, 2 hidden, 3 turn, 4 stretch, 5 mode -/
abbrev sNi (d : DS) : Nat → Nat → Int32 := d.2.1
/-- 0 p, 1 q, 2 x, 3 y, 4 step -/
abbrev sNd (d : DS) : Nat → Nat → UInt64 := d.2.2.1
abbrev sCh (d : DS) : Nat → List Nat := d.2.2.2.1
abbrev sPa (d : DS) : Nat → Option Nat := d.2.2.2.2.1
/-- how many key frames, their times, their values -/
abbrev sTn (d : DS) : Nat → Nat → Nat := d.2.2.2.2.2.1
abbrev sTt (d : DS) : Nat → Nat → Nat → UInt64 := d.2.2.2.2.2.2.1
abbrev sTv (d : DS) : Nat → Nat → Nat → UInt64 := d.2.2.2.2.2.2.2.1
abbrev sCl (d : DS) : Nat → Int32 := d.2.2.2.2.2.2.2.2.1
abbrev sPt (d : DS) : Int32 := d.2.2.2.2.2.2.2.2.2
abbrev MS : Type := (Nat × Nat × Nat × (Nat → Option Nat)) × (Nat → Nat → Nat) × (Nat → Nat) × (Nat → Int32) × (Nat → Nat → UInt64) × (Nat → Nat → Int32) × (Nat → Int32 × UInt64 × UInt64 × UInt64 × UInt64)
abbrev mEo (m : MS) : Nat := m.1.1
abbrev mNa (m : MS) : Nat := m.1.2.1
abbrev mCa (m : MS) : Nat := m.1.2.2.1
/-- what the array of the nodes holds -/
abbrev mNf (m : MS) : Nat → Option Nat := m.1.2.2.2
/-- addresses of a node: 0 itself, 1 its list, 2 its tracks' array, 3 its extent, 4 the list's array, 5.. its tracks, 9.. their times, 13.. their values -/
abbrev mAd (m : MS) : Nat → Nat → Nat := m.2.1
abbrev mCap (m : MS) : Nat → Nat := m.2.2.1
abbrev mMc (m : MS) : Nat → Int32 := m.2.2.2.1
/-- what was settled: 0 x, 1 y -/
abbrev mNx (m : MS) : Nat → Nat → UInt64 := m.2.2.2.2.1
/-- 0 stretch, 1 colour -/
abbrev mNi (m : MS) : Nat → Nat → Int32 := m.2.2.2.2.2.1
abbrev mXt (m : MS) : Nat → Int32 × UInt64 × UInt64 × UInt64 × UInt64 := m.2.2.2.2.2.2
/-- where the parent lies -/
def pAd (m : MS) (d : DS) (k : Nat) : Option Nat := (sPa d k).map (fun g => mAd m g 0)
abbrev nC (m : MS) (d : DS) (k : Nat) : va_E := .inr (1, [.int (nI k), .int (sNi d k 0), .int (sNi d k 1), .ref (mAd m k 1), .ref (mAd m k 2), .ref (mAd m k 3), va_rf (pAd m d k), .int (sNi d k 2), .double (sNd d k 0), .double (sNd d k 1), .double (sNd d k 2), .double (sNd d k 3), .int (sNi d k 3), .int (sNi d k 4), .int (sNi d k 5), .double (sNd d k 4), .double (mNx m k 0), .double (mNx m k 1), .int (mNi m k 0), .int (mNi m k 1)])
abbrev aN (G : EG) (n : Nat) (f : Nat → Option Nat) : va_E := .inl (G.2.2.1 4, n, .inr (.inr (.inr (.inr f))))
abbrev aT (G : EG) (n : Nat) (f : Nat → Option Nat) : va_E := .inl (G.2.2.1 5, n, .inr (.inr (.inr (.inr f))))
abbrev aI (G : EG) (n : Nat) (f : Nat → Int32) : va_E := .inl (G.2.2.1 0, n, .inl f)
def elA (G : EG) (m : MS) (k : Nat) : Nat := if mCap m k = 0 then eO G else mAd m k 4
def elF (m : MS) (d : DS) (k : Nat) : Nat → Option Nat := fun j => ((sCh d k)[j]?).map (fun c => mAd m c 0)
def trF (m : MS) (k : Nat) : Nat → Option Nat := fun i => if i < 4 then some (mAd m k (5 + i)) else none
def noF (m : MS) (d : DS) : Nat → Option Nat := fun k => if sTh d k then some (mAd m k 0) else none
def nPic (G : EG) (m : MS) (d : DS) (w : hp_M) (k : Nat) : Prop :=
  w (mAd m k 0) = some (nC m d k) ∧ w (mAd m k 1) = some (oAl (mMc m k) (elA G m k) (sCh d k).length) ∧ (mCap m k ≠ 0 → w (mAd m k 4) = some (aO G (mCap m k) (elF m d k))) ∧
  w (mAd m k 2) = some (aT G 4 (trF m k)) ∧ w (mAd m k 3) = some (oEx (mXt m k).1 (mXt m k).2.1 (mXt m k).2.2.1 (mXt m k).2.2.2.1 (mXt m k).2.2.2.2) ∧
  (∀ i, i < 4 → w (mAd m k (5 + i)) = some (oTr (mAd m k (9 + i)) (mAd m k (13 + i)) (sTn d k i)) ∧ w (mAd m k (9 + i)) = some (aD G 4 (sTt d k i)) ∧ w (mAd m k (13 + i)) = some (aD G 4 (sTv d k i)) ∧ sTn d k i ≤ 4) ∧
  (sCh d k).length ≤ mCap m k ∧ (mCap m k = 0 ∨ mCap m k = 10 ∨ mCap m k = 15)
/-- a place that a node holds -/
def vR (m : MS) (k r : Nat) : Prop := r < 17 ∧ (r = 4 → mCap m k ≠ 0)
def ePic (G : EG) (m : MS) (d : DS) (w : hp_M) : Prop :=
  w (mEo m) = some (.inr (3, [.ref (mAd m 0 0), .ref (mNa m), .ref (mCa m), .int (sPt d)])) ∧ w (mNa m) = some (aN G 14 (mNf m)) ∧ w (mCa m) = some (aI G 192 (sCl d)) ∧
  (∀ k, k < 14 → sTh d k = true → nPic G m d w k) ∧
  (∀ k r k' r', k < 14 → k' < 14 → sTh d k = true → sTh d k' = true → vR m k r → vR m k' r' → mAd m k r = mAd m k' r' → k = k' ∧ r = r')
/-- the array of the nodes holds them -/
def nOk (m : MS) (d : DS) : Prop := ∀ k, k < 14 → mNf m k = noF m d k
/-- the tree: parents, children, depths -/
def tOk (d : DS) (dp : Nat → Nat) : Prop :=
  sTh d 0 = true ∧ sPa d 0 = none ∧ sNi d 0 0 = 0 ∧ dp 0 = 0 ∧
  (∀ k, k < 14 → sTh d k = true → k ≠ 0 → ∃ g, g < 14 ∧ sPa d k = some g ∧ sTh d g = true ∧ sNi d g 0 = 0 ∧ dp k = dp g + 1 ∧ k ∈ sCh d g) ∧
  (∀ g, g < 14 → sTh d g = true → (sCh d g).Nodup ∧ (∀ c ∈ sCh d g, c < 14 ∧ sTh d c = true ∧ sPa d c = some g) ∧ (sNi d g 0 ≠ 0 → sCh d g = [])) ∧
  (∀ k, k < 14 → sTh d k = true → dp k ≤ 5)
theorem ePic.node {G : EG} {m : MS} {d : DS} {w : hp_M} (h : ePic G m d w) {k : Nat} (hk : k < 14) (ht : sTh d k = true) : w (mAd m k 0) = some (nC m d k) := (h.2.2.2.1 k hk ht).1
theorem tOk.up {d : DS} {dp : Nat → Nat} (h : tOk d dp) {k : Nat} (hk : k < 14) (ht : sTh d k = true) : (k = 0 ∧ sPa d k = none ∧ dp k = 0) ∨ ∃ g, g < 14 ∧ sPa d k = some g ∧ sTh d g = true ∧ sNi d g 0 = 0 ∧ dp k = dp g + 1 ∧ k ∈ sCh d g := by
  by_cases h0 : k = 0
  · subst h0
    exact Or.inl ⟨rfl, h.2.1, h.2.2.2.1⟩
  · exact Or.inr (h.2.2.2.2.1 k hk ht h0)
/-- on the way up from the parent: nobody, or a node of the tree -/
def upO (d : DS) (dp : Nat → Nat) (o : Option Nat) (n : Nat) : Prop := match o with
  | none => n = 0
  | some g => g < 14 ∧ sTh d g = true ∧ n = dp g + 1
theorem tOk.upO {d : DS} {dp : Nat → Nat} (h : tOk d dp) {k : Nat} (hk : k < 14) (ht : sTh d k = true) : upO d dp (sPa d k) (dp k) := by
  rcases h.up hk ht with ⟨-, h1, h2⟩ | ⟨g, h1, h2, h3, -, h5, -⟩
  · rw [h1, h2]; rfl
  · rw [h2]; exact ⟨h1, h3, h5⟩
set_option maxHeartbeats 4000000 in
set_option maxRecDepth 100000 in
theorem m_No_depth (l : Launch) (G : EG) (S0 : Nat) (w : hp_M) (ms : MS) (d : DS) (dp : Nat → Nat) (hp' : ePic G ms d w) (htr : tOk d dp) (k : Nat) (hk : k < 14) (hkt : sTh d k = true) : Met l y_No_depth w_No_depth (rl 0 0 0) (eP G S0 w [.ref (mAd ms k 0)]) (va_Qi (fun r z => r = nI (dp k) ∧ z = w) (eW G S0) (hp_A S0)) 0 0 (hp_A S0) := by
  refine Met.ofW (cc := b_No_depth) (maxL := 3) (ret := (some .int)) (by decide) rfl ?_
  intro p e s m args below meth c s₁ B hml hv
  obtain ⟨rfl, hE, hI, hz⟩ := hv
  have hx := B.exec
  have hb := B.bytes
  have hr := B.returns
  have hts := atoms_spec (ws := w_No_depth) B.pre
  have hg : ∀ w ∈ gw, w.before _ s = true := fun w h => hts w (List.mem_cons_of_mem _ h)
  have hown : s.vm.findClass "SceneEasel$Node" = some m.cls := findClass_of_methodNamed B.named
  have hlocks := B.notSynchronized
  have hK := hE.K
  have hS : va_S (hp_A S0) s.heap s.heap [] := va_S.rf
  have hl := lv_entry ([.ref (mAd ms k 0)]) (n := 3) (Nat.le_of_ble_eq_true rfl)
  rw [lg_entry_eq]
  generalize (lg_sl ([.ref (mAd ms k 0)]) ++ List.replicate (3 - (lg_sl ([.ref (mAd ms k 0)])).length) Slot.unset).toArray = ls at hl ⊢
  have hl : lv_has ls 3 [(0, .ref (mAd ms k 0))] := hl
  have hk5 := htr.2.2.2.2.2.2 k hk hkt
  have hn := hp'.node hk hkt
  refine lv_iconst (v := 0) hx hb d_No_depth_0 (by decide) ?_
  refine lv_istore_n (lv' := [(1, .int 0), (0, .ref (mAd ms k 0))]) hx hb d_No_depth_1 rfl hl (by decide) rfl (fun ls hl => ?_)
  refine lv_aload_n hx hb d_No_depth_2 rfl (lv_at hl 1 rfl) ?_
  refine hp_get (ci := 1) (v := va_rf (pAd ms d k)) (C := R_No) (T := F_No) (N := 20) hx hb hg i_No hown hK hI hn rfl 6 (by decide) (hg _ k_177) (fun _ h9 => h9) rfl d_No_depth_3 ?_
  have hu := htr.upO hk hkt
  refine W.mi1 (fun q : Option Nat × Nat × Nat × Array Slot => upO d dp q.1 q.2.2.1 ∧ q.2.1 + q.2.2.1 = dp k ∧ lv_has q.2.2.2 3 [(2, va_rf (q.1.map (fun g => mAd ms g 0))), (1, .int (nI q.2.1)), (0, .ref (mAd ms k 0))]) (fun q => F0 m 7 q.2.2.2 []) (fun q hq => ?_) (fun key => ?_)
  · refine W.lp1 (fun j (q : Option Nat × Nat × Nat × Array Slot) => j = q.2.2.1 ∧ upO d dp q.1 q.2.2.1 ∧ q.2.1 + q.2.2.1 = dp k ∧ lv_has q.2.2.2 3 [(2, va_rf (q.1.map (fun g => mAd ms g 0))), (1, .int (nI q.2.1)), (0, .ref (mAd ms k 0))]) (fun q => F0 m 7 q.2.2.2 []) q.2.2.1 q ⟨rfl, hq⟩ ?_
    rintro j ⟨o, c0, n0, ls⟩ ⟨h1, h2, h3, hl⟩ ih
    dsimp only at h1 h2 h3 hl ⊢
    cases o with
    | none =>
      have hl : lv_has ls 3 [(2, .null), (1, .int (nI c0)), (0, .ref (mAd ms k 0))] := hl
      have h9 : n0 = 0 := h2
      refine lv_aload_nN hx hb d_No_depth_7 rfl (lv_at hl 0 rfl) ?_
      refine lv_ifnullN (tgt := 22) hx hb d_No_depth_8 (by decide) ?_
      refine lv_iload_n hx hb d_No_depth_22 rfl (lv_at hl 1 rfl) ?_
      exact W.iret (v := (nI c0)) hx hb hr (fun t ht hW => ⟨⟨(nI c0), w, rfl, ⟨by rw [show c0 = dp k by omega], rfl⟩, eWo ht hI⟩, hS.F ht⟩) hS.2.2 d_No_depth_23
    | some g =>
      have hl : lv_has ls 3 [(2, .ref (mAd ms g 0)), (1, .int (nI c0)), (0, .ref (mAd ms k 0))] := hl
      obtain ⟨h4, h5, h6⟩ : g < 14 ∧ sTh d g = true ∧ n0 = dp g + 1 := h2
      have hng := hp'.node h4 h5
      refine lv_aload_n hx hb d_No_depth_7 rfl (lv_at hl 0 rfl) ?_
      refine lv_ifnull hx hb d_No_depth_8 ?_
      refine lv_iinc (v := nI (c0 + 1)) (lv' := [(1, .int (nI (c0 + 1))), (2, .ref (mAd ms g 0)), (0, .ref (mAd ms k 0))]) hx hb d_No_depth_11 hl (k := 1) rfl (nI_inc c0) (by decide) rfl (fun ls hl => ?_)
      refine lv_aload_n hx hb d_No_depth_14 rfl (lv_at hl 1 rfl) ?_
      refine hp_get (ci := 1) (v := va_rf (pAd ms d g)) (C := R_No) (T := F_No) (N := 20) hx hb hg i_No hown hK hI hng rfl 6 (by decide) (hg _ k_177) (fun _ h9 => h9) rfl d_No_depth_15 ?_
      have hu := htr.upO h4 h5
      unfold pAd
      cases ho : sPa d g with
      | none =>
        rw [ho] at hu
        refine lv_astore_nN (lv' := [(2, .null), (1, .int (nI (c0 + 1))), (0, .ref (mAd ms k 0))]) hx hb d_No_depth_18 rfl hl (by decide) rfl (fun ls hl => ?_)
        refine lv_goto (tgt := 7) hx hb d_No_depth_19 (by decide) ?_
        exact ih 0 (none, c0 + 1, 0, ls) (by omega) ⟨rfl, rfl, by show c0 + 1 + 0 = dp k; have h9 : dp g = 0 := hu; omega, hl⟩
      | some g2 =>
        rw [ho] at hu
        refine lv_astore_n (lv' := [(2, .ref (mAd ms g2 0)), (1, .int (nI (c0 + 1))), (0, .ref (mAd ms k 0))]) hx hb d_No_depth_18 rfl hl (by decide) rfl (fun ls hl => ?_)
        refine lv_goto (tgt := 7) hx hb d_No_depth_19 (by decide) ?_
        obtain ⟨h7, h8, h9⟩ : g2 < 14 ∧ sTh d g2 = true ∧ dp g = dp g2 + 1 := hu
        exact ih (dp g2 + 1) (some g2, c0 + 1, dp g2 + 1, ls) (by omega) ⟨rfl, ⟨h7, h8, rfl⟩, by show c0 + 1 + (dp g2 + 1) = dp k; omega, lv_sub hl [0, 1, 2] rfl⟩
  · unfold pAd
    cases ho : sPa d k with
    | none =>
      rw [ho] at hu
      refine lv_astore_nN (lv' := [(2, .null), (1, .int 0), (0, .ref (mAd ms k 0))]) hx hb d_No_depth_6 rfl hl (by decide) rfl (fun ls hl => ?_)
      exact key (none, 0, 0, ls) ⟨rfl, by show 0 + 0 = dp k; have h9 : dp k = 0 := hu; omega, hl⟩
    | some g =>
      rw [ho] at hu
      refine lv_astore_n (lv' := [(2, .ref (mAd ms g 0)), (1, .int 0), (0, .ref (mAd ms k 0))]) hx hb d_No_depth_6 rfl hl (by decide) rfl (fun ls hl => ?_)
      exact key (some g, 0, dp k, ls) ⟨hu, by show 0 + dp k = dp k; omega, hl⟩

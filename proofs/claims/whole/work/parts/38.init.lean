/-! constructors -/
set_option maxHeartbeats 4000000 in
set_option maxRecDepth 100000 in
theorem m_Ex_init (l : Launch) (G : EG) (S0 : Nat) (w : hp_M) (a : Nat) {x0 : Int32} {x1 x2 x3 x4 : UInt64} (ha : w a = some (oEx x0 x1 x2 x3 x4)) : Met l y_Ex_init w_Ex_init (rl 1 0 0) (eP G S0 w [.ref a]) (va_Qv (fun z => z = hp_set w a (oEx 1 x1 x2 x3 x4)) (eW G S0) (hp_A S0)) 0 0 (hp_A S0) := by
  refine Met.ofW (cc := b_Ex_init) (maxL := 1) (ret := none) (by decide) rfl ?_
  intro p e s m args below meth c s₁ B hml hv
  obtain ⟨rfl, hE, hI, hz⟩ := hv
  have hx := B.exec
  have hb := B.bytes
  have hr := B.returns
  have hts := atoms_spec (ws := w_Ex_init) B.pre
  have hg : ∀ w ∈ gw, w.before _ s = true := fun w h => hts w (List.mem_cons_of_mem _ h)
  have hown : s.vm.findClass "SceneEasel$Extent" = some m.cls := findClass_of_methodNamed B.named
  have hlocks := B.notSynchronized
  have hK := hE.K
  have hin : meth.name = "<init>" := (name_of_methodNamed B.named B.method).1
  have hS : va_S (hp_A S0) s.heap s.heap [] := va_S.rf
  have hl := lv_entry ([.ref a]) (n := 1) (Nat.le_of_ble_eq_true rfl)
  rw [lg_entry_eq]
  generalize (lg_sl ([.ref a]) ++ List.replicate (1 - (lg_sl ([.ref a])).length) Slot.unset).toArray = ls at hl ⊢
  have hl : lv_has ls 1 [(0, .ref a)] := hl
  refine lv_aload_n hx hb d_Ex_init_0 rfl (lv_at hl 0 rfl) ?_
  refine W.objInit hx hb hown (hg _ k_129) (hg _ k_86) (hg _ k_87) rfl (hl.1.trans hml.symm) rfl d_Ex_init_1 (Nat.le_of_ble_eq_true rfl) (Nat.le_of_ble_eq_true rfl) ?_
  refine lv_aload_n hx hb d_Ex_init_4 rfl (lv_at hl 0 rfl) ?_
  refine lv_iconst (v := 1) hx hb d_Ex_init_5 (by decide) ?_
  refine hp_putC (ci := 0) (v := .int 1) (ty := .boolean) (C := R_Ex) (T := F_Ex) (N := 5) hx hb hg i_Ex t_Ex t_Ex_ok n_Ex hown hK hI hS ha rfl 0 (by decide) (hg _ k_130) (fun _ h9 => h9) rfl (by decide +kernel) rfl rfl (Nat.le_of_ble_eq_true rfl) d_Ex_init_6 (fun H locs hI hS hsz => ?_)
  obtain ⟨w_1, ew_1⟩ : ∃ z9, z9 = hp_set w a (.inr (0, [.int 1, .double x1, .double x2, .double x3, .double x4])) := ⟨_, rfl⟩
  have hI : eI G S0 w_1 H := by rw [ew_1]; exact hI
  have ha : w_1 a = some (.inr (0, [.int 1, .double x1, .double x2, .double x3, .double x4])) := by rw [ew_1]; exact hp_set_eq _ _ _
  exact W.vret hx hb hr (fun t ht hW => ⟨⟨w_1, rfl, ew_1, eWo ht hI⟩, hS.F ht⟩) hS.2.2 d_Ex_init_9
set_option maxHeartbeats 4000000 in
set_option maxRecDepth 100000 in
theorem m_Tr_init (l : Launch) (G : EG) (S0 : Nat) (w : hp_M) (a : Nat) (ha : w a = some (.inr (2, [.null, .null, .int 0]))) : Met l y_Tr_init w_Tr_init (rl 1 2 8) (eP G S0 w [.ref a]) (va_Qv (fun z => ∃ q1 q2, w q1 = none ∧ w q2 = none ∧ q1 ≠ q2 ∧ z = hp_set (hp_set (hp_set w q1 (aD G 4 (fun _ => FP.dconst0))) q2 (aD G 4 (fun _ => FP.dconst0))) a (oTr q1 q2 0)) (eW G S0) (hp_A S0)) 2 8 (hp_A S0) := by
  refine Met.ofW (cc := b_Tr_init) (maxL := 1) (ret := none) (by decide) rfl ?_
  intro p e s m args below meth c s₁ B hml hv
  obtain ⟨rfl, hE, hI, hz⟩ := hv
  have hx := B.exec
  have hb := B.bytes
  have hr := B.returns
  have hts := atoms_spec (ws := w_Tr_init) B.pre
  have hg : ∀ w ∈ gw, w.before _ s = true := fun w h => hts w (List.mem_cons_of_mem _ h)
  have hown : s.vm.findClass "SceneEasel$Track" = some m.cls := findClass_of_methodNamed B.named
  have hlocks := B.notSynchronized
  have hK := hE.K
  have hin : meth.name = "<init>" := (name_of_methodNamed B.named B.method).1
  have hS : va_S (hp_A S0) s.heap s.heap [] := va_S.rf
  have hl := lv_entry ([.ref a]) (n := 1) (Nat.le_of_ble_eq_true rfl)
  rw [lg_entry_eq]
  generalize (lg_sl ([.ref a]) ++ List.replicate (1 - (lg_sl ([.ref a])).length) Slot.unset).toArray = ls at hl ⊢
  have hl : lv_has ls 1 [(0, .ref a)] := hl
  refine lv_aload_n hx hb d_Tr_init_0 rfl (lv_at hl 0 rfl) ?_
  refine W.objInit hx hb hown (hg _ k_152) (hg _ k_86) (hg _ k_87) rfl (hl.1.trans hml.symm) rfl d_Tr_init_1 (Nat.le_of_ble_eq_true rfl) (Nat.le_of_ble_eq_true rfl) ?_
  refine lv_aload_n hx hb d_Tr_init_4 rfl (lv_at hl 0 rfl) ?_
  refine lv_iconst (v := 4) hx hb d_Tr_init_5 (by decide) ?_
  refine hp_newa (atype := .double) (N' := 4) (a0 := (4, .inr (.inr (.inr (.inl (fun _ => FP.dconst0)))))) hx hb (hg _ k_165) rfl hK hI hS hz 1 rfl (fun _ h => by cases h) (fun _ => rfl) (by decide) (by decide) (by decide) (Nat.le_of_ble_eq_true rfl) (Nat.le_of_ble_eq_true rfl) d_Tr_init_6 (fun q1 H hn_q1 hs_q1 hz_q1 hI hS => ?_)
  obtain ⟨w1, ew1⟩ : ∃ z9, z9 = hp_set w q1 (.inl (G.2.2.1 1, 4, .inr (.inr (.inr (.inl (fun _ => FP.dconst0)))))) := ⟨_, rfl⟩
  have hI : eI G S0 w1 H := by rw [ew1]; exact hI
  have ne_ha_q1 := hp_ne_n ha hn_q1
  have ha : w1 a = some (.inr (2, [.null, .null, .int 0])) := by rw [ew1, hp_set_ne ne_ha_q1]; exact ha
  have hq1 : w1 q1 = some (.inl (G.2.2.1 1, 4, .inr (.inr (.inr (.inl (fun _ => FP.dconst0)))))) := by rw [ew1]; exact hp_set_eq _ _ _
  have nq1 : a ≠ q1 := ne_ha_q1
  refine hp_putF (ci := 2) (v := .ref q1) (ty := .array .double) (C := R_Tr) (T := F_Tr) (N := 3) hx hb hg i_Tr t_Tr t_Tr_ok n_Tr hown hK hI hS ha rfl 0 (by decide) (hg _ k_153) (fun _ h9 => h9) rfl hin rfl (by decide +kernel) rfl rfl (Nat.le_of_ble_eq_true rfl) d_Tr_init_8 (fun H locs hI hS hsz => ?_)
  obtain ⟨w_1, ew_1⟩ : ∃ z9, z9 = hp_set w1 a (.inr (2, [.ref q1, .null, .int 0])) := ⟨_, rfl⟩
  have hI : eI G S0 w_1 H := by rw [ew_1]; exact hI
  have hq1 : w_1 q1 = some (.inl (G.2.2.1 1, 4, .inr (.inr (.inr (.inl (fun _ => FP.dconst0)))))) := by rw [ew_1, hp_set_ne (hp_ne_ao hq1 ha)]; exact hq1
  have ha : w_1 a = some (.inr (2, [.ref q1, .null, .int 0])) := by rw [ew_1]; exact hp_set_eq _ _ _
  refine lv_aload_n hx hb d_Tr_init_11 rfl (lv_at hl 0 rfl) ?_
  refine lv_iconst (v := 4) hx hb d_Tr_init_12 (by decide) ?_
  refine hp_newa (atype := .double) (N' := 4) (a0 := (4, .inr (.inr (.inr (.inl (fun _ => FP.dconst0)))))) hx hb (hg _ k_165) rfl hK hI hS hz 1 rfl (fun _ h => by cases h) (fun _ => rfl) (by decide) (by decide) (by decide) (Nat.le_of_ble_eq_true rfl) (Nat.le_of_ble_eq_true rfl) d_Tr_init_13 (fun q2 H hn_q2 hs_q2 hz_q2 hI hS => ?_)
  obtain ⟨w2, ew2⟩ : ∃ z9, z9 = hp_set w_1 q2 (.inl (G.2.2.1 1, 4, .inr (.inr (.inr (.inl (fun _ => FP.dconst0)))))) := ⟨_, rfl⟩
  have hI : eI G S0 w2 H := by rw [ew2]; exact hI
  have ne_ha_q2 := hp_ne_n ha hn_q2
  have ha : w2 a = some (.inr (2, [.ref q1, .null, .int 0])) := by rw [ew2, hp_set_ne ne_ha_q2]; exact ha
  have ne_hq1_q2 := hp_ne_n hq1 hn_q2
  have hq1 : w2 q1 = some (.inl (G.2.2.1 1, 4, .inr (.inr (.inr (.inl (fun _ => FP.dconst0)))))) := by rw [ew2, hp_set_ne ne_hq1_q2]; exact hq1
  have hq2 : w2 q2 = some (.inl (G.2.2.1 1, 4, .inr (.inr (.inr (.inl (fun _ => FP.dconst0)))))) := by rw [ew2]; exact hp_set_eq _ _ _
  refine hp_putF (ci := 2) (v := .ref q2) (ty := .array .double) (C := R_Tr) (T := F_Tr) (N := 3) hx hb hg i_Tr t_Tr t_Tr_ok n_Tr hown hK hI hS ha rfl 1 (by decide) (hg _ k_154) (fun _ h9 => h9) rfl hin rfl (by decide +kernel) rfl rfl (Nat.le_of_ble_eq_true rfl) d_Tr_init_15 (fun H locs hI hS hsz => ?_)
  obtain ⟨w_2, ew_2⟩ : ∃ z9, z9 = hp_set w2 a (.inr (2, [.ref q1, .ref q2, .int 0])) := ⟨_, rfl⟩
  have hI : eI G S0 w_2 H := by rw [ew_2]; exact hI
  have hq1 : w_2 q1 = some (.inl (G.2.2.1 1, 4, .inr (.inr (.inr (.inl (fun _ => FP.dconst0)))))) := by rw [ew_2, hp_set_ne (hp_ne_ao hq1 ha)]; exact hq1
  have hq2 : w_2 q2 = some (.inl (G.2.2.1 1, 4, .inr (.inr (.inr (.inl (fun _ => FP.dconst0)))))) := by rw [ew_2, hp_set_ne (hp_ne_ao hq2 ha)]; exact hq2
  have ha : w_2 a = some (.inr (2, [.ref q1, .ref q2, .int 0])) := by rw [ew_2]; exact hp_set_eq _ _ _
  have n12 : q1 ≠ q2 := ne_hq1_q2
  have hq2 : w q2 = none := by
    have h9 := hn_q2
    have naq2 : a ≠ q2 := ne_ha_q2
    rw [ew_1, hp_set_ne (Ne.symm naq2), ew1, hp_set_ne (Ne.symm n12)] at h9
    exact h9
  have naq2 : a ≠ q2 := ne_ha_q2
  exact W.vret hx hb hr (fun t ht hW => ⟨⟨w_2, rfl, ⟨q1, q2, hn_q1, hq2, n12, by rw [ew_2, ew2, ew_1, ew1, hp_over (b := q2) naq2, show (.int 0 : Value) = .int (nI 0) from rfl]⟩, eWo ht hI⟩, hS.F ht⟩) hS.2.2 d_Tr_init_18
/-- the places of a node of which so many tracks are made -/
def vq (i r : Nat) : Prop := r < 4 ∨ (5 ≤ r ∧ r < 5 + i) ∨ (9 ≤ r ∧ r < 9 + i) ∨ (13 ≤ r ∧ r < 13 + i)
def trA (A : Nat → Nat) (i : Nat) : Nat → Option Nat := fun j => if j < i then some (A (5 + j)) else none
def nwI (G : EG) (w : hp_M) (a : Nat) (n kd co : Int32) (i : Nat) (A : Nat → Nat) (z : hp_M) : Prop :=
  A 0 = a ∧ z a = some (.inr (1, [.int n, .int kd, .int co, .ref (A 1), .ref (A 2), .ref (A 3), .null, .int 0, .double FP.dconst1, .double FP.dconst1, .double FP.dconst0, .double FP.dconst0, .int 0, .int 0, .int 0, .double FP.dconst1, .double FP.dconst0, .double FP.dconst0, .int 0, .int 0])) ∧ z (A 1) = some (oAl 0 (eO G) 0) ∧ z (A 2) = some (aT G 4 (trA A i)) ∧ z (A 3) = some (oEx 1 FP.dconst0 FP.dconst0 FP.dconst0 FP.dconst0) ∧
  (∀ j, j < i → z (A (5 + j)) = some (oTr (A (9 + j)) (A (13 + j)) 0) ∧ z (A (9 + j)) = some (aD G 4 (fun _ => FP.dconst0)) ∧ z (A (13 + j)) = some (aD G 4 (fun _ => FP.dconst0))) ∧
  (∀ r r', vq i r → vq i r' → A r = A r' → r = r') ∧ (∀ r, vq i r → r ≠ 0 → w (A r) = none) ∧ (∀ b x, w b = some x → b ≠ a → z b = some x)
theorem nwI.has {G : EG} {w : hp_M} {a : Nat} {n kd co : Int32} {i : Nat} {A : Nat → Nat} {z : hp_M} (h : nwI G w a n kd co i A z) (r : Nat) (hr : vq i r) : ∃ x, z (A r) = some x := by
  obtain ⟨h0, h1, h2, h3, h4, h5, -⟩ := h
  rcases hr with hr | hr | hr | hr
  · rcases (show r = 0 ∨ r = 1 ∨ r = 2 ∨ r = 3 by omega) with rfl | rfl | rfl | rfl
    · exact ⟨_, by rw [h0]; exact h1⟩
    · exact ⟨_, h2⟩
    · exact ⟨_, h3⟩
    · exact ⟨_, h4⟩
  · have := (h5 (r - 5) (by omega)).1
    rw [show 5 + (r - 5) = r by omega] at this
    exact ⟨_, this⟩
  · have := (h5 (r - 9) (by omega)).2.1
    rw [show 9 + (r - 9) = r by omega] at this
    exact ⟨_, this⟩
  · have := (h5 (r - 13) (by omega)).2.2
    rw [show 13 + (r - 13) = r by omega] at this
    exact ⟨_, this⟩
def upA (A : Nat → Nat) (i t q1 q2 : Nat) : Nat → Nat := fun r => if r = 5 + i then t else if r = 9 + i then q1 else if r = 13 + i then q2 else A r
theorem nwI.step {G : EG} {w : hp_M} {a : Nat} {n kd co : Int32} {i : Nat} {A : Nat → Nat} {z z1 z2 : hp_M} (h : nwI G w a n kd co i A z) (hi : i < 4) {t q1 q2 : Nat} (ht : z t = none) (hq1 : z q1 = none) (hq2 : z q2 = none) (n1 : q1 ≠ t) (n2 : q2 ≠ t) (n3 : q1 ≠ q2)
    (k0 : ∀ b x, z b = some x → z1 b = some x) (k1 : z1 t = some (oTr q1 q2 0)) (k2 : z1 q1 = some (aD G 4 (fun _ => FP.dconst0))) (k3 : z1 q2 = some (aD G 4 (fun _ => FP.dconst0))) (e2 : z2 = hp_set z1 (A 2) (aT G 4 (va_up (trA A i) i (some t)))) : nwI G w a n kd co (i + 1) (upA A i t q1 q2) z2 := by
  have hsome := h.has
  obtain ⟨h0, h1, h2, h3, h4, h5, h6, h7, h8⟩ := h
  have old : ∀ r, vq i r → upA A i t q1 q2 r = A r := by
    intro r hr
    unfold upA
    unfold vq at hr
    rw [if_neg (by omega), if_neg (by omega), if_neg (by omega)]
  have eT : upA A i t q1 q2 (5 + i) = t := by unfold upA; rw [if_pos rfl]
  have eQ1 : upA A i t q1 q2 (9 + i) = q1 := by unfold upA; rw [if_neg (by omega), if_pos rfl]
  have eQ2 : upA A i t q1 q2 (13 + i) = q2 := by unfold upA; rw [if_neg (by omega), if_neg (by omega), if_pos rfl]
  have n2' : vq i 2 := Or.inl (by decide)
  have kk : ∀ b x, z b = some x → b ≠ A 2 → z2 b = some x := fun b x q1 q2 => by rw [e2, hp_set_ne q2]; exact k0 b x q1
  have kA : ∀ r x, vq i r → r ≠ 2 → z (A r) = some x → z2 (A r) = some x := fun r x q1 q2 q3 => kk _ _ q3 (fun e => q2 (h6 r 2 q1 n2' e))
  have neT : t ≠ A 2 := fun e => by rw [e, h3] at ht; cases ht
  have neQ1 : q1 ≠ A 2 := fun e => by rw [e, h3] at hq1; cases hq1
  have neQ2 : q2 ≠ A 2 := fun e => by rw [e, h3] at hq2; cases hq2
  have nw : ∀ y, z y = none → w y = none := fun y hy => by
    cases hw : w y with
    | none => rfl
    | some x =>
      by_cases hya : y = a
      · rw [hya, h1] at hy; cases hy
      · rw [h8 y x hw hya] at hy; cases hy
  have cls : ∀ r, vq (i + 1) r → vq i r ∨ r = 5 + i ∨ r = 9 + i ∨ r = 13 + i := fun r hr => by
    unfold vq at hr ⊢
    omega
  have neO : ∀ r, vq i r → A r ≠ t ∧ A r ≠ q1 ∧ A r ≠ q2 := fun r hr => by
    obtain ⟨x, hx⟩ := hsome r hr
    exact ⟨hp_ne_n hx ht, hp_ne_n hx hq1, hp_ne_n hx hq2⟩
  refine ⟨by rw [old 0 (Or.inl (by decide))]; exact h0, ?_, ?_, ?_, ?_, ?_, ?_, ?_, ?_⟩
  · rw [old 1 (Or.inl (by decide)), old 2 n2', old 3 (Or.inl (by decide))]
    exact kk a _ h1 (fun e => by rw [e, h3] at h1; cases h1)
  · rw [old 1 (Or.inl (by decide))]
    exact kA 1 _ (Or.inl (by decide)) (by decide) h2
  · rw [old 2 n2', e2, hp_set_eq]
    have : va_up (trA A i) i (some t) = trA (upA A i t q1 q2) (i + 1) := by
      funext j
      unfold va_up trA
      by_cases hj : j = i
      · subst hj
        rw [if_pos rfl, if_pos (by omega), eT]
      · rw [if_neg hj]
        by_cases hj2 : j < i
        · rw [if_pos hj2, if_pos (by omega), old (5 + j) (by unfold vq; omega)]
        · rw [if_neg hj2, if_neg (by omega)]
    rw [this]
  · rw [old 3 (Or.inl (by decide))]
    exact kA 3 _ (Or.inl (by decide)) (by decide) h4
  · intro j hj
    by_cases hji : j = i
    · subst hji
      rw [eT, eQ1, eQ2]
      exact ⟨by rw [e2, hp_set_ne neT]; exact k1, by rw [e2, hp_set_ne neQ1]; exact k2, by rw [e2, hp_set_ne neQ2]; exact k3⟩
    · have hj2 : j < i := by omega
      have v5 : vq i (5 + j) := by unfold vq; omega
      have v9 : vq i (9 + j) := by unfold vq; omega
      have v13 : vq i (13 + j) := by unfold vq; omega
      rw [old _ v5, old _ v9, old _ v13]
      obtain ⟨g1, g2, g3⟩ := h5 j hj2
      exact ⟨kA _ _ v5 (by omega) g1, kA _ _ v9 (by omega) g2, kA _ _ v13 (by omega) g3⟩
  · intro r r' hr hr' e
    rcases cls r hr with c1 | c1 | c1 | c1 <;> rcases cls r' hr' with c2 | c2 | c2 | c2
    · rw [old r c1, old r' c2] at e; exact h6 r r' c1 c2 e
    · rw [old r c1, c2, eT] at e; exact absurd e (neO r c1).1
    · rw [old r c1, c2, eQ1] at e; exact absurd e (neO r c1).2.1
    · rw [old r c1, c2, eQ2] at e; exact absurd e (neO r c1).2.2
    · rw [old r' c2, c1, eT] at e; exact absurd e.symm (neO r' c2).1
    · rw [c1, c2]
    · rw [c1, c2, eT, eQ1] at e; exact absurd e.symm n1
    · rw [c1, c2, eT, eQ2] at e; exact absurd e.symm n2
    · rw [old r' c2, c1, eQ1] at e; exact absurd e.symm (neO r' c2).2.1
    · rw [c1, c2, eQ1, eT] at e; exact absurd e n1
    · rw [c1, c2]
    · rw [c1, c2, eQ1, eQ2] at e; exact absurd e n3
    · rw [old r' c2, c1, eQ2] at e; exact absurd e.symm (neO r' c2).2.2
    · rw [c1, c2, eQ2, eT] at e; exact absurd e n2
    · rw [c1, c2, eQ2, eQ1] at e; exact absurd e.symm n3
    · rw [c1, c2]
  · intro r hr h0'
    rcases cls r hr with c1 | c1 | c1 | c1
    · rw [old r c1]; exact h7 r c1 h0'
    · rw [c1, eT]; exact nw t ht
    · rw [c1, eQ1]; exact nw q1 hq1
    · rw [c1, eQ2]; exact nw q2 hq2
  · intro b x hb hba
    exact kk b x (h8 b x hb hba) (fun e => by
      have := h7 2 n2' (by decide)
      rw [← e, hb] at this
      cases this)
set_option maxHeartbeats 4000000 in
set_option maxRecDepth 100000 in
theorem m_No_init (l : Launch) (G : EG) (S0 : Nat) (w : hp_M) (a : Nat) (n kd co : Int32) (ha : w a = some (.inr (1, [.int 0, .int 0, .int 0, .null, .null, .null, .null, .int 0, .double FP.dconst0, .double FP.dconst0, .double FP.dconst0, .double FP.dconst0, .int 0, .int 0, .int 0, .double FP.dconst0, .double FP.dconst0, .double FP.dconst0, .int 0, .int 0]))) : Met l y_No_init w_No_init (rl 4 15 56) (eP G S0 w [.ref a, .int n, .int kd, .int co]) (va_Qv (fun z => ∃ A, nwI G w a n kd co 4 A z) (eW G S0) (hp_A S0)) 15 56 (hp_A S0) := by
  refine Met.ofW (cc := b_No_init) (maxL := 5) (ret := none) (by decide) rfl ?_
  intro p e s m args below meth c s₁ B hml hv
  obtain ⟨rfl, hE, hI, hz⟩ := hv
  have hx := B.exec
  have hb := B.bytes
  have hr := B.returns
  have hts := atoms_spec (ws := w_No_init) B.pre
  have hg : ∀ w ∈ gw, w.before _ s = true := fun w h => hts w (List.mem_cons_of_mem _ h)
  have hown : s.vm.findClass "SceneEasel$Node" = some m.cls := findClass_of_methodNamed B.named
  have hlocks := B.notSynchronized
  have hK := hE.K
  have hin : meth.name = "<init>" := (name_of_methodNamed B.named B.method).1
  have hS : va_S (hp_A S0) s.heap s.heap [] := va_S.rf
  have hl := lv_entry ([.ref a, .int n, .int kd, .int co]) (n := 5) (Nat.le_of_ble_eq_true rfl)
  rw [lg_entry_eq]
  generalize (lg_sl ([.ref a, .int n, .int kd, .int co]) ++ List.replicate (5 - (lg_sl ([.ref a, .int n, .int kd, .int co])).length) Slot.unset).toArray = ls at hl ⊢
  have hl : lv_has ls 5 [(0, .ref a), (1, .int n), (2, .int kd), (3, .int co)] := hl
  refine lv_aload_n hx hb d_No_init_0 rfl (lv_at hl 0 rfl) ?_
  refine W.objInit hx hb hown (hg _ k_94) (hg _ k_86) (hg _ k_87) rfl (hl.1.trans hml.symm) rfl d_No_init_1 (Nat.le_of_ble_eq_true rfl) (Nat.le_of_ble_eq_true rfl) ?_
  refine lv_aload_n hx hb d_No_init_4 rfl (lv_at hl 0 rfl) ?_
  refine hp_new (ci := 4) (fs := [.int 0, .null, .int 0]) (T := F_Al) (N := 3) hx hb hg i_Al t_Al t_Al_ok hown (hg _ k_95) (hg _ k_96) (hg _ k_64) hK hI hS hz rfl n_Al_fs (Nat.le_of_ble_eq_true rfl) (Nat.le_of_ble_eq_true rfl) d_No_init_5 (fun al H hn_al hs_al hz_al hI hS => ?_)
  obtain ⟨w_1, ew_1⟩ : ∃ z9, z9 = hp_set w al (.inr (4, [.int 0, .null, .int 0])) := ⟨_, rfl⟩
  have hI : eI G S0 w_1 H := by rw [ew_1]; exact hI
  have ne_ha_al := hp_ne_n ha hn_al
  have ha : w_1 a = some (.inr (1, [.int 0, .int 0, .int 0, .null, .null, .null, .null, .int 0, .double FP.dconst0, .double FP.dconst0, .double FP.dconst0, .double FP.dconst0, .int 0, .int 0, .int 0, .double FP.dconst0, .double FP.dconst0, .double FP.dconst0, .int 0, .int 0])) := by rw [ew_1, hp_set_ne ne_ha_al]; exact ha
  have hal : w_1 al = some (.inr (4, [.int 0, .null, .int 0])) := by rw [ew_1]; exact hp_set_eq _ _ _
  refine lv_dup hx hb d_No_init_8 rfl ?_
  refine ec_v (va_runI (As := []) (rest := [.ref al, .ref a]) ⟨hx, hb, hml, hown, hts⟩ (m_Al_init l G S0 w_1 al hal) (cwI 0 hts (gw_code k_99) rfl rfl rfl (hg _ k_64) (hg _ k_97) (hg _ k_98) rfl (by decide +kernel) ⟨Nat.le_of_ble_eq_true rfl, Nat.le_of_ble_eq_true rfl⟩) (eB.preS hE hI hS hz) rfl rfl hl.1 rfl (lv_room (Nat.le_of_ble_eq_true rfl)) d_No_init_9 ⟨Nat.le_of_ble_eq_true rfl, Nat.le_of_ble_eq_true rfl⟩) hS (fun w_2 H locs ew_2 hI hsz hS => ?_)
  have ha : w_2 a = some (.inr (1, [.int 0, .int 0, .int 0, .null, .null, .null, .null, .int 0, .double FP.dconst0, .double FP.dconst0, .double FP.dconst0, .double FP.dconst0, .int 0, .int 0, .int 0, .double FP.dconst0, .double FP.dconst0, .double FP.dconst0, .int 0, .int 0])) := by rw [ew_2, hp_set_ne (hp_ne_c (by decide) ha hal)]; exact ha
  have hal : w_2 al = some (.inr (4, [.int 0, .ref (eO G), .int 0])) := by rw [ew_2]; exact hp_set_eq _ _ _
  refine hp_putF (ci := 1) (v := .ref al) (ty := .object "java/util/ArrayList") (C := R_No) (T := F_No) (N := 20) hx hb hg i_No t_No t_No_ok n_No hown hK hI hS ha rfl 3 (by decide) (hg _ k_171) (fun _ h9 => h9) rfl hin rfl (by decide +kernel) rfl rfl (Nat.le_of_ble_eq_true rfl) d_No_init_12 (fun H locs hI hS hsz => ?_)
  obtain ⟨w_3, ew_3⟩ : ∃ z9, z9 = hp_set w_2 a (.inr (1, [.int 0, .int 0, .int 0, .ref al, .null, .null, .null, .int 0, .double FP.dconst0, .double FP.dconst0, .double FP.dconst0, .double FP.dconst0, .int 0, .int 0, .int 0, .double FP.dconst0, .double FP.dconst0, .double FP.dconst0, .int 0, .int 0])) := ⟨_, rfl⟩
  have hI : eI G S0 w_3 H := by rw [ew_3]; exact hI
  have hal : w_3 al = some (.inr (4, [.int 0, .ref (eO G), .int 0])) := by rw [ew_3, hp_set_ne (hp_ne_c (by decide) hal ha)]; exact hal
  have ha : w_3 a = some (.inr (1, [.int 0, .int 0, .int 0, .ref al, .null, .null, .null, .int 0, .double FP.dconst0, .double FP.dconst0, .double FP.dconst0, .double FP.dconst0, .int 0, .int 0, .int 0, .double FP.dconst0, .double FP.dconst0, .double FP.dconst0, .int 0, .int 0])) := by rw [ew_3]; exact hp_set_eq _ _ _
  refine lv_aload_n hx hb d_No_init_15 rfl (lv_at hl 0 rfl) ?_
  refine lv_iconst (v := 4) hx hb d_No_init_16 (by decide) ?_
  have fr1 : ∀ b x, w b = some x → b ≠ a → w_3 b = some x := by
    intro b x f9 x9_0
    have nb_al : b ≠ al := hp_ne_n f9 hn_al
    have f9 : w_1 b = some x := by rw [ew_1, hp_set_ne nb_al]; exact f9
    have f9 : w_2 b = some x := by rw [ew_2, hp_set_ne nb_al]; exact f9
    have f9 : w_3 b = some x := by rw [ew_3, hp_set_ne x9_0]; exact f9
    exact f9
  refine hp_newq (N' := 4) hx hb hown (hg _ k_122) hE.aoT hK hI hS hz 5 rfl (by decide) (by decide) (by decide) (Nat.le_of_ble_eq_true rfl) (Nat.le_of_ble_eq_true rfl) d_No_init_17 (fun ta H hn_ta hs_ta hz_ta hI hS => ?_)
  obtain ⟨w_4, ew_4⟩ : ∃ z9, z9 = hp_set w_3 ta (.inl (G.2.2.1 5, 4, .inr (.inr (.inr (.inr (fun _ => none)))))) := ⟨_, rfl⟩
  have hI : eI G S0 w_4 H := by rw [ew_4]; exact hI
  have ne_ha_ta := hp_ne_n ha hn_ta
  have ha : w_4 a = some (.inr (1, [.int 0, .int 0, .int 0, .ref al, .null, .null, .null, .int 0, .double FP.dconst0, .double FP.dconst0, .double FP.dconst0, .double FP.dconst0, .int 0, .int 0, .int 0, .double FP.dconst0, .double FP.dconst0, .double FP.dconst0, .int 0, .int 0])) := by rw [ew_4, hp_set_ne ne_ha_ta]; exact ha
  have ne_hal_ta := hp_ne_n hal hn_ta
  have hal : w_4 al = some (.inr (4, [.int 0, .ref (eO G), .int 0])) := by rw [ew_4, hp_set_ne ne_hal_ta]; exact hal
  have hta : w_4 ta = some (.inl (G.2.2.1 5, 4, .inr (.inr (.inr (.inr (fun _ => none)))))) := by rw [ew_4]; exact hp_set_eq _ _ _
  have nata : a ≠ ta := ne_ha_ta
  have wta : w ta = none := by
    cases hw : w ta with
    | none => rfl
    | some x => rw [fr1 ta x hw (Ne.symm nata)] at hn_ta; cases hn_ta
  refine hp_putF (ci := 1) (v := .ref ta) (ty := .array (.object "SceneEasel$Track")) (C := R_No) (T := F_No) (N := 20) hx hb hg i_No t_No t_No_ok n_No hown hK hI hS ha rfl 4 (by decide) (hg _ k_173) (fun _ h9 => h9) rfl hin rfl (by decide +kernel) rfl rfl (Nat.le_of_ble_eq_true rfl) d_No_init_20 (fun H locs hI hS hsz => ?_)
  obtain ⟨w_5, ew_5⟩ : ∃ z9, z9 = hp_set w_4 a (.inr (1, [.int 0, .int 0, .int 0, .ref al, .ref ta, .null, .null, .int 0, .double FP.dconst0, .double FP.dconst0, .double FP.dconst0, .double FP.dconst0, .int 0, .int 0, .int 0, .double FP.dconst0, .double FP.dconst0, .double FP.dconst0, .int 0, .int 0])) := ⟨_, rfl⟩
  have hI : eI G S0 w_5 H := by rw [ew_5]; exact hI
  have hal : w_5 al = some (.inr (4, [.int 0, .ref (eO G), .int 0])) := by rw [ew_5, hp_set_ne (hp_ne_c (by decide) hal ha)]; exact hal
  have hta : w_5 ta = some (.inl (G.2.2.1 5, 4, .inr (.inr (.inr (.inr (fun _ => none)))))) := by rw [ew_5, hp_set_ne (hp_ne_ao hta ha)]; exact hta
  have ha : w_5 a = some (.inr (1, [.int 0, .int 0, .int 0, .ref al, .ref ta, .null, .null, .int 0, .double FP.dconst0, .double FP.dconst0, .double FP.dconst0, .double FP.dconst0, .int 0, .int 0, .int 0, .double FP.dconst0, .double FP.dconst0, .double FP.dconst0, .int 0, .int 0])) := by rw [ew_5]; exact hp_set_eq _ _ _
  refine lv_aload_n hx hb d_No_init_23 rfl (lv_at hl 0 rfl) ?_
  have fr2 : ∀ b x, w b = some x → b ≠ a → w_5 b = some x := by
    intro b x f9 x9_0
    have nb_al : b ≠ al := hp_ne_n f9 hn_al
    have f9 : w_1 b = some x := by rw [ew_1, hp_set_ne nb_al]; exact f9
    have f9 : w_2 b = some x := by rw [ew_2, hp_set_ne nb_al]; exact f9
    have f9 : w_3 b = some x := by rw [ew_3, hp_set_ne x9_0]; exact f9
    have nb_ta : b ≠ ta := hp_ne_n f9 hn_ta
    have f9 : w_4 b = some x := by rw [ew_4, hp_set_ne nb_ta]; exact f9
    have f9 : w_5 b = some x := by rw [ew_5, hp_set_ne x9_0]; exact f9
    exact f9
  refine hp_new (ci := 0) (fs := [.int 0, .double FP.dconst0, .double FP.dconst0, .double FP.dconst0, .double FP.dconst0]) (T := F_Ex) (N := 5) hx hb hg i_Ex t_Ex t_Ex_ok hown (hg _ k_124) (hg _ k_125) (hg _ k_65) hK hI hS hz rfl n_Ex_fs (Nat.le_of_ble_eq_true rfl) (Nat.le_of_ble_eq_true rfl) d_No_init_24 (fun ex H hn_ex hs_ex hz_ex hI hS => ?_)
  obtain ⟨w_6, ew_6⟩ : ∃ z9, z9 = hp_set w_5 ex (.inr (0, [.int 0, .double FP.dconst0, .double FP.dconst0, .double FP.dconst0, .double FP.dconst0])) := ⟨_, rfl⟩
  have hI : eI G S0 w_6 H := by rw [ew_6]; exact hI
  have ne_ha_ex := hp_ne_n ha hn_ex
  have ha : w_6 a = some (.inr (1, [.int 0, .int 0, .int 0, .ref al, .ref ta, .null, .null, .int 0, .double FP.dconst0, .double FP.dconst0, .double FP.dconst0, .double FP.dconst0, .int 0, .int 0, .int 0, .double FP.dconst0, .double FP.dconst0, .double FP.dconst0, .int 0, .int 0])) := by rw [ew_6, hp_set_ne ne_ha_ex]; exact ha
  have ne_hal_ex := hp_ne_n hal hn_ex
  have hal : w_6 al = some (.inr (4, [.int 0, .ref (eO G), .int 0])) := by rw [ew_6, hp_set_ne ne_hal_ex]; exact hal
  have ne_hta_ex := hp_ne_n hta hn_ex
  have hta : w_6 ta = some (.inl (G.2.2.1 5, 4, .inr (.inr (.inr (.inr (fun _ => none)))))) := by rw [ew_6, hp_set_ne ne_hta_ex]; exact hta
  have hex : w_6 ex = some (.inr (0, [.int 0, .double FP.dconst0, .double FP.dconst0, .double FP.dconst0, .double FP.dconst0])) := by rw [ew_6]; exact hp_set_eq _ _ _
  have naex : a ≠ ex := ne_ha_ex
  have wex : w ex = none := by
    cases hw : w ex with
    | none => rfl
    | some x => rw [fr2 ex x hw (Ne.symm naex)] at hn_ex; cases hn_ex
  refine lv_dup hx hb d_No_init_27 rfl ?_
  refine ec_v (va_runIN (As := []) (rest := [.ref ex, .ref a]) ⟨hx, hb, hml, hown, hts⟩ (m_Ex_init l G S0 w_6 ex hex) ⟨va_cnB 0 hts (gw_code k_128) rfl rfl rfl (hE.Nw q_126) (hg _ k_65) (by decide +kernel) ⟨Nat.le_of_ble_eq_true rfl, Nat.le_of_ble_eq_true rfl⟩, rfl, hg _ k_127⟩ (eB.preS hE hI hS hz) rfl rfl hl.1 rfl (lv_room (Nat.le_of_ble_eq_true rfl)) d_No_init_28 ⟨Nat.le_of_ble_eq_true rfl, Nat.le_of_ble_eq_true rfl⟩) hS (fun w_7 H locs ew_7 hI hsz hS => ?_)
  have ha : w_7 a = some (.inr (1, [.int 0, .int 0, .int 0, .ref al, .ref ta, .null, .null, .int 0, .double FP.dconst0, .double FP.dconst0, .double FP.dconst0, .double FP.dconst0, .int 0, .int 0, .int 0, .double FP.dconst0, .double FP.dconst0, .double FP.dconst0, .int 0, .int 0])) := by rw [ew_7, hp_set_ne (hp_ne_c (by decide) ha hex)]; exact ha
  have hal : w_7 al = some (.inr (4, [.int 0, .ref (eO G), .int 0])) := by rw [ew_7, hp_set_ne (hp_ne_c (by decide) hal hex)]; exact hal
  have hta : w_7 ta = some (.inl (G.2.2.1 5, 4, .inr (.inr (.inr (.inr (fun _ => none)))))) := by rw [ew_7, hp_set_ne (hp_ne_ao hta hex)]; exact hta
  have hex : w_7 ex = some (.inr (0, [.int 1, .double FP.dconst0, .double FP.dconst0, .double FP.dconst0, .double FP.dconst0])) := by rw [ew_7]; exact hp_set_eq _ _ _
  refine hp_putF (ci := 1) (v := .ref ex) (ty := .object "SceneEasel$Extent") (C := R_No) (T := F_No) (N := 20) hx hb hg i_No t_No t_No_ok n_No hown hK hI hS ha rfl 5 (by decide) (hg _ k_175) (fun _ h9 => h9) rfl hin rfl (by decide +kernel) rfl rfl (Nat.le_of_ble_eq_true rfl) d_No_init_31 (fun H locs hI hS hsz => ?_)
  obtain ⟨w_8, ew_8⟩ : ∃ z9, z9 = hp_set w_7 a (.inr (1, [.int 0, .int 0, .int 0, .ref al, .ref ta, .ref ex, .null, .int 0, .double FP.dconst0, .double FP.dconst0, .double FP.dconst0, .double FP.dconst0, .int 0, .int 0, .int 0, .double FP.dconst0, .double FP.dconst0, .double FP.dconst0, .int 0, .int 0])) := ⟨_, rfl⟩
  have hI : eI G S0 w_8 H := by rw [ew_8]; exact hI
  have hal : w_8 al = some (.inr (4, [.int 0, .ref (eO G), .int 0])) := by rw [ew_8, hp_set_ne (hp_ne_c (by decide) hal ha)]; exact hal
  have hex : w_8 ex = some (.inr (0, [.int 1, .double FP.dconst0, .double FP.dconst0, .double FP.dconst0, .double FP.dconst0])) := by rw [ew_8, hp_set_ne (hp_ne_c (by decide) hex ha)]; exact hex
  have hta : w_8 ta = some (.inl (G.2.2.1 5, 4, .inr (.inr (.inr (.inr (fun _ => none)))))) := by rw [ew_8, hp_set_ne (hp_ne_ao hta ha)]; exact hta
  have ha : w_8 a = some (.inr (1, [.int 0, .int 0, .int 0, .ref al, .ref ta, .ref ex, .null, .int 0, .double FP.dconst0, .double FP.dconst0, .double FP.dconst0, .double FP.dconst0, .int 0, .int 0, .int 0, .double FP.dconst0, .double FP.dconst0, .double FP.dconst0, .int 0, .int 0])) := by rw [ew_8]; exact hp_set_eq _ _ _
  refine lv_aload_n hx hb d_No_init_34 rfl (lv_at hl 0 rfl) ?_
  refine lv_dconst1 hx hb d_No_init_35 ?_
  refine hp_putC (ci := 1) (v := .double FP.dconst1) (ty := .double) (C := R_No) (T := F_No) (N := 20) hx hb hg i_No t_No t_No_ok n_No hown hK hI hS ha rfl 8 (by decide) (hg _ k_181) (fun _ h9 => h9) rfl (by decide +kernel) rfl rfl (Nat.le_of_ble_eq_true rfl) d_No_init_36 (fun H locs hI hS hsz => ?_)
  obtain ⟨w_9, ew_9⟩ : ∃ z9, z9 = hp_set w_8 a (.inr (1, [.int 0, .int 0, .int 0, .ref al, .ref ta, .ref ex, .null, .int 0, .double FP.dconst1, .double FP.dconst0, .double FP.dconst0, .double FP.dconst0, .int 0, .int 0, .int 0, .double FP.dconst0, .double FP.dconst0, .double FP.dconst0, .int 0, .int 0])) := ⟨_, rfl⟩
  have hI : eI G S0 w_9 H := by rw [ew_9]; exact hI
  have hal : w_9 al = some (.inr (4, [.int 0, .ref (eO G), .int 0])) := by rw [ew_9, hp_set_ne (hp_ne_c (by decide) hal ha)]; exact hal
  have hex : w_9 ex = some (.inr (0, [.int 1, .double FP.dconst0, .double FP.dconst0, .double FP.dconst0, .double FP.dconst0])) := by rw [ew_9, hp_set_ne (hp_ne_c (by decide) hex ha)]; exact hex
  have hta : w_9 ta = some (.inl (G.2.2.1 5, 4, .inr (.inr (.inr (.inr (fun _ => none)))))) := by rw [ew_9, hp_set_ne (hp_ne_ao hta ha)]; exact hta
  have ha : w_9 a = some (.inr (1, [.int 0, .int 0, .int 0, .ref al, .ref ta, .ref ex, .null, .int 0, .double FP.dconst1, .double FP.dconst0, .double FP.dconst0, .double FP.dconst0, .int 0, .int 0, .int 0, .double FP.dconst0, .double FP.dconst0, .double FP.dconst0, .int 0, .int 0])) := by rw [ew_9]; exact hp_set_eq _ _ _
  refine lv_aload_n hx hb d_No_init_39 rfl (lv_at hl 0 rfl) ?_
  refine lv_dconst1 hx hb d_No_init_40 ?_
  refine hp_putC (ci := 1) (v := .double FP.dconst1) (ty := .double) (C := R_No) (T := F_No) (N := 20) hx hb hg i_No t_No t_No_ok n_No hown hK hI hS ha rfl 9 (by decide) (hg _ k_183) (fun _ h9 => h9) rfl (by decide +kernel) rfl rfl (Nat.le_of_ble_eq_true rfl) d_No_init_41 (fun H locs hI hS hsz => ?_)
  obtain ⟨w_10, ew_10⟩ : ∃ z9, z9 = hp_set w_9 a (.inr (1, [.int 0, .int 0, .int 0, .ref al, .ref ta, .ref ex, .null, .int 0, .double FP.dconst1, .double FP.dconst1, .double FP.dconst0, .double FP.dconst0, .int 0, .int 0, .int 0, .double FP.dconst0, .double FP.dconst0, .double FP.dconst0, .int 0, .int 0])) := ⟨_, rfl⟩
  have hI : eI G S0 w_10 H := by rw [ew_10]; exact hI
  have hal : w_10 al = some (.inr (4, [.int 0, .ref (eO G), .int 0])) := by rw [ew_10, hp_set_ne (hp_ne_c (by decide) hal ha)]; exact hal
  have hex : w_10 ex = some (.inr (0, [.int 1, .double FP.dconst0, .double FP.dconst0, .double FP.dconst0, .double FP.dconst0])) := by rw [ew_10, hp_set_ne (hp_ne_c (by decide) hex ha)]; exact hex
  have hta : w_10 ta = some (.inl (G.2.2.1 5, 4, .inr (.inr (.inr (.inr (fun _ => none)))))) := by rw [ew_10, hp_set_ne (hp_ne_ao hta ha)]; exact hta
  have ha : w_10 a = some (.inr (1, [.int 0, .int 0, .int 0, .ref al, .ref ta, .ref ex, .null, .int 0, .double FP.dconst1, .double FP.dconst1, .double FP.dconst0, .double FP.dconst0, .int 0, .int 0, .int 0, .double FP.dconst0, .double FP.dconst0, .double FP.dconst0, .int 0, .int 0])) := by rw [ew_10]; exact hp_set_eq _ _ _
  refine lv_aload_n hx hb d_No_init_44 rfl (lv_at hl 0 rfl) ?_
  refine lv_dconst1 hx hb d_No_init_45 ?_
  refine hp_putC (ci := 1) (v := .double FP.dconst1) (ty := .double) (C := R_No) (T := F_No) (N := 20) hx hb hg i_No t_No t_No_ok n_No hown hK hI hS ha rfl 15 (by decide) (hg _ k_195) (fun _ h9 => h9) rfl (by decide +kernel) rfl rfl (Nat.le_of_ble_eq_true rfl) d_No_init_46 (fun H locs hI hS hsz => ?_)
  obtain ⟨w_11, ew_11⟩ : ∃ z9, z9 = hp_set w_10 a (.inr (1, [.int 0, .int 0, .int 0, .ref al, .ref ta, .ref ex, .null, .int 0, .double FP.dconst1, .double FP.dconst1, .double FP.dconst0, .double FP.dconst0, .int 0, .int 0, .int 0, .double FP.dconst1, .double FP.dconst0, .double FP.dconst0, .int 0, .int 0])) := ⟨_, rfl⟩
  have hI : eI G S0 w_11 H := by rw [ew_11]; exact hI
  have hal : w_11 al = some (.inr (4, [.int 0, .ref (eO G), .int 0])) := by rw [ew_11, hp_set_ne (hp_ne_c (by decide) hal ha)]; exact hal
  have hex : w_11 ex = some (.inr (0, [.int 1, .double FP.dconst0, .double FP.dconst0, .double FP.dconst0, .double FP.dconst0])) := by rw [ew_11, hp_set_ne (hp_ne_c (by decide) hex ha)]; exact hex
  have hta : w_11 ta = some (.inl (G.2.2.1 5, 4, .inr (.inr (.inr (.inr (fun _ => none)))))) := by rw [ew_11, hp_set_ne (hp_ne_ao hta ha)]; exact hta
  have ha : w_11 a = some (.inr (1, [.int 0, .int 0, .int 0, .ref al, .ref ta, .ref ex, .null, .int 0, .double FP.dconst1, .double FP.dconst1, .double FP.dconst0, .double FP.dconst0, .int 0, .int 0, .int 0, .double FP.dconst1, .double FP.dconst0, .double FP.dconst0, .int 0, .int 0])) := by rw [ew_11]; exact hp_set_eq _ _ _
  refine lv_aload_n hx hb d_No_init_49 rfl (lv_at hl 0 rfl) ?_
  refine lv_iload_n hx hb d_No_init_50 rfl (lv_at hl 1 rfl) ?_
  refine hp_putF (ci := 1) (v := .int n) (ty := .int) (C := R_No) (T := F_No) (N := 20) hx hb hg i_No t_No t_No_ok n_No hown hK hI hS ha rfl 0 (by decide) (hg _ k_166) (fun _ h9 => h9) rfl hin rfl (by decide +kernel) rfl rfl (Nat.le_of_ble_eq_true rfl) d_No_init_51 (fun H locs hI hS hsz => ?_)
  obtain ⟨w_12, ew_12⟩ : ∃ z9, z9 = hp_set w_11 a (.inr (1, [.int n, .int 0, .int 0, .ref al, .ref ta, .ref ex, .null, .int 0, .double FP.dconst1, .double FP.dconst1, .double FP.dconst0, .double FP.dconst0, .int 0, .int 0, .int 0, .double FP.dconst1, .double FP.dconst0, .double FP.dconst0, .int 0, .int 0])) := ⟨_, rfl⟩
  have hI : eI G S0 w_12 H := by rw [ew_12]; exact hI
  have hal : w_12 al = some (.inr (4, [.int 0, .ref (eO G), .int 0])) := by rw [ew_12, hp_set_ne (hp_ne_c (by decide) hal ha)]; exact hal
  have hex : w_12 ex = some (.inr (0, [.int 1, .double FP.dconst0, .double FP.dconst0, .double FP.dconst0, .double FP.dconst0])) := by rw [ew_12, hp_set_ne (hp_ne_c (by decide) hex ha)]; exact hex
  have hta : w_12 ta = some (.inl (G.2.2.1 5, 4, .inr (.inr (.inr (.inr (fun _ => none)))))) := by rw [ew_12, hp_set_ne (hp_ne_ao hta ha)]; exact hta
  have ha : w_12 a = some (.inr (1, [.int n, .int 0, .int 0, .ref al, .ref ta, .ref ex, .null, .int 0, .double FP.dconst1, .double FP.dconst1, .double FP.dconst0, .double FP.dconst0, .int 0, .int 0, .int 0, .double FP.dconst1, .double FP.dconst0, .double FP.dconst0, .int 0, .int 0])) := by rw [ew_12]; exact hp_set_eq _ _ _
  refine lv_aload_n hx hb d_No_init_54 rfl (lv_at hl 0 rfl) ?_
  refine lv_iload_n hx hb d_No_init_55 rfl (lv_at hl 2 rfl) ?_
  refine hp_putF (ci := 1) (v := .int kd) (ty := .int) (C := R_No) (T := F_No) (N := 20) hx hb hg i_No t_No t_No_ok n_No hown hK hI hS ha rfl 1 (by decide) (hg _ k_168) (fun _ h9 => h9) rfl hin rfl (by decide +kernel) rfl rfl (Nat.le_of_ble_eq_true rfl) d_No_init_56 (fun H locs hI hS hsz => ?_)
  obtain ⟨w_13, ew_13⟩ : ∃ z9, z9 = hp_set w_12 a (.inr (1, [.int n, .int kd, .int 0, .ref al, .ref ta, .ref ex, .null, .int 0, .double FP.dconst1, .double FP.dconst1, .double FP.dconst0, .double FP.dconst0, .int 0, .int 0, .int 0, .double FP.dconst1, .double FP.dconst0, .double FP.dconst0, .int 0, .int 0])) := ⟨_, rfl⟩
  have hI : eI G S0 w_13 H := by rw [ew_13]; exact hI
  have hal : w_13 al = some (.inr (4, [.int 0, .ref (eO G), .int 0])) := by rw [ew_13, hp_set_ne (hp_ne_c (by decide) hal ha)]; exact hal
  have hex : w_13 ex = some (.inr (0, [.int 1, .double FP.dconst0, .double FP.dconst0, .double FP.dconst0, .double FP.dconst0])) := by rw [ew_13, hp_set_ne (hp_ne_c (by decide) hex ha)]; exact hex
  have hta : w_13 ta = some (.inl (G.2.2.1 5, 4, .inr (.inr (.inr (.inr (fun _ => none)))))) := by rw [ew_13, hp_set_ne (hp_ne_ao hta ha)]; exact hta
  have ha : w_13 a = some (.inr (1, [.int n, .int kd, .int 0, .ref al, .ref ta, .ref ex, .null, .int 0, .double FP.dconst1, .double FP.dconst1, .double FP.dconst0, .double FP.dconst0, .int 0, .int 0, .int 0, .double FP.dconst1, .double FP.dconst0, .double FP.dconst0, .int 0, .int 0])) := by rw [ew_13]; exact hp_set_eq _ _ _
  refine lv_aload_n hx hb d_No_init_59 rfl (lv_at hl 0 rfl) ?_
  refine lv_iload_n hx hb d_No_init_60 rfl (lv_at hl 3 rfl) ?_
  refine hp_putF (ci := 1) (v := .int co) (ty := .int) (C := R_No) (T := F_No) (N := 20) hx hb hg i_No t_No t_No_ok n_No hown hK hI hS ha rfl 2 (by decide) (hg _ k_170) (fun _ h9 => h9) rfl hin rfl (by decide +kernel) rfl rfl (Nat.le_of_ble_eq_true rfl) d_No_init_61 (fun H locs hI hS hsz => ?_)
  obtain ⟨w_14, ew_14⟩ : ∃ z9, z9 = hp_set w_13 a (.inr (1, [.int n, .int kd, .int co, .ref al, .ref ta, .ref ex, .null, .int 0, .double FP.dconst1, .double FP.dconst1, .double FP.dconst0, .double FP.dconst0, .int 0, .int 0, .int 0, .double FP.dconst1, .double FP.dconst0, .double FP.dconst0, .int 0, .int 0])) := ⟨_, rfl⟩
  have hI : eI G S0 w_14 H := by rw [ew_14]; exact hI
  have hal : w_14 al = some (.inr (4, [.int 0, .ref (eO G), .int 0])) := by rw [ew_14, hp_set_ne (hp_ne_c (by decide) hal ha)]; exact hal
  have hex : w_14 ex = some (.inr (0, [.int 1, .double FP.dconst0, .double FP.dconst0, .double FP.dconst0, .double FP.dconst0])) := by rw [ew_14, hp_set_ne (hp_ne_c (by decide) hex ha)]; exact hex
  have hta : w_14 ta = some (.inl (G.2.2.1 5, 4, .inr (.inr (.inr (.inr (fun _ => none)))))) := by rw [ew_14, hp_set_ne (hp_ne_ao hta ha)]; exact hta
  have ha : w_14 a = some (.inr (1, [.int n, .int kd, .int co, .ref al, .ref ta, .ref ex, .null, .int 0, .double FP.dconst1, .double FP.dconst1, .double FP.dconst0, .double FP.dconst0, .int 0, .int 0, .int 0, .double FP.dconst1, .double FP.dconst0, .double FP.dconst0, .int 0, .int 0])) := by rw [ew_14]; exact hp_set_eq _ _ _
  refine lv_iconst (v := 0) hx hb d_No_init_64 (by decide) ?_
  refine lv_istore (lv' := [(4, .int 0), (0, .ref a), (1, .int n), (2, .int kd), (3, .int co)]) hx hb d_No_init_65 hl (by decide) rfl (fun ls hl => ?_)
  have fr : ∀ b x, w b = some x → b ≠ a → w_14 b = some x := by
    intro b x f9 x9_0
    have nb_al : b ≠ al := hp_ne_n f9 hn_al
    have f9 : w_1 b = some x := by rw [ew_1, hp_set_ne nb_al]; exact f9
    have f9 : w_2 b = some x := by rw [ew_2, hp_set_ne nb_al]; exact f9
    have f9 : w_3 b = some x := by rw [ew_3, hp_set_ne x9_0]; exact f9
    have nb_ta : b ≠ ta := hp_ne_n f9 hn_ta
    have f9 : w_4 b = some x := by rw [ew_4, hp_set_ne nb_ta]; exact f9
    have f9 : w_5 b = some x := by rw [ew_5, hp_set_ne x9_0]; exact f9
    have nb_ex : b ≠ ex := hp_ne_n f9 hn_ex
    have f9 : w_6 b = some x := by rw [ew_6, hp_set_ne nb_ex]; exact f9
    have f9 : w_7 b = some x := by rw [ew_7, hp_set_ne nb_ex]; exact f9
    have f9 : w_8 b = some x := by rw [ew_8, hp_set_ne x9_0]; exact f9
    have f9 : w_9 b = some x := by rw [ew_9, hp_set_ne x9_0]; exact f9
    have f9 : w_10 b = some x := by rw [ew_10, hp_set_ne x9_0]; exact f9
    have f9 : w_11 b = some x := by rw [ew_11, hp_set_ne x9_0]; exact f9
    have f9 : w_12 b = some x := by rw [ew_12, hp_set_ne x9_0]; exact f9
    have f9 : w_13 b = some x := by rw [ew_13, hp_set_ne x9_0]; exact f9
    have f9 : w_14 b = some x := by rw [ew_14, hp_set_ne x9_0]; exact f9
    exact f9
  obtain ⟨A0, eA0⟩ : ∃ A : Nat → Nat, A = fun r => if r = 0 then a else if r = 1 then al else if r = 2 then ta else ex := ⟨_, rfl⟩
  have b0 : A0 0 = a := by rw [eA0]; rfl
  have b1 : A0 1 = al := by rw [eA0]; rfl
  have b2 : A0 2 = ta := by rw [eA0]; rfl
  have b3 : A0 3 = ex := by rw [eA0]; rfl
  have m1 : a ≠ al := hp_ne_c (by decide) ha hal
  have m2 : a ≠ ta := hp_ne_oa ha hta
  have m3 : a ≠ ex := hp_ne_c (by decide) ha hex
  have m4 : al ≠ ta := hp_ne_oa hal hta
  have m5 : al ≠ ex := hp_ne_c (by decide) hal hex
  have m6 : ta ≠ ex := hp_ne_ao hta hex
  have hinv : nwI G w a n kd co 0 A0 w_14 := by
    refine ⟨b0, by rw [b1, b2, b3]; exact ha, by rw [b1]; exact hal, by rw [b2]; exact hta, by rw [b3]; exact hex, fun j hj => absurd hj (Nat.not_lt_zero j), fun r r' hr hr' e => ?_, fun r hr h0 => ?_, fr⟩
    · have hr : r = 0 ∨ r = 1 ∨ r = 2 ∨ r = 3 := by unfold vq at hr; omega
      have hr' : r' = 0 ∨ r' = 1 ∨ r' = 2 ∨ r' = 3 := by unfold vq at hr'; omega
      rcases hr with rfl | rfl | rfl | rfl <;> rcases hr' with rfl | rfl | rfl | rfl <;> simp only [b0, b1, b2, b3] at e <;> first | rfl | exact absurd e m1 | exact absurd e m2 | exact absurd e m3 | exact absurd e m4 | exact absurd e m5 | exact absurd e m6 | exact absurd e.symm m1 | exact absurd e.symm m2 | exact absurd e.symm m3 | exact absurd e.symm m4 | exact absurd e.symm m5 | exact absurd e.symm m6
    · have hr : r = 0 ∨ r = 1 ∨ r = 2 ∨ r = 3 := by unfold vq at hr; omega
      rcases hr with rfl | rfl | rfl | rfl
      · exact absurd rfl h0
      · rw [b1]; exact hn_al
      · rw [b2]; exact wta
      · rw [b3]; exact wex
  refine W.lpw (fun j (q : Nat × (Nat → Nat) × hp_M) => match q with | (i, A, z) => i ≤ 4 ∧ nwI G w a n kd co i A z ∧ j = 4 - i) (fun (q : Nat × (Nat → Nat) × hp_M) => match q with | (i, A, z) => z) (fun (q : Nat × (Nat → Nat) × hp_M) => match q with | (i, A, z) => [(4, .int (nI i)), (0, .ref a), (1, .int n), (2, .int kd), (3, .int co)]) (fun (q : Nat × (Nat → Nat) × hp_M) => match q with | (i, A, z) => 3 + 3 * i) (fun (q : Nat × (Nat → Nat) × hp_M) => match q with | (i, A, z) => 12 + 11 * i) 5 67 (fun (q : Nat × (Nat → Nat) × hp_M) => match q with | (i, A, z) => []) (4) ((0, A0, w_14)) (⟨Nat.zero_le _, hinv, rfl⟩) (lv_sub hl [0, 1, 2, 3, 4] rfl) hI hS ?_
  rintro j ⟨i, A, z⟩ ls H locs hP hl hI hS ih
  try dsimp only at hP hl hI ⊢
  obtain ⟨h1, hP, h3⟩ := hP
  have hz := hz
  refine lv_iload hx hb d_No_init_67 (lv_at hl 0 rfl) ?_
  refine lv_iconst (v := 4) hx hb d_No_init_69 (by decide) ?_
  refine lv_icmp_ge (tgt := 93) hx hb d_No_init_70 (by decide) (fun c1 => ?_) (fun c1 => ?_)
  · have hi : i = 4 := by
      have := (nI_leI (a := 4) (b := i) (by omega) (by omega)).mp c1
      omega
    rw [hi] at hP
    refine W.widen (k := 15) (n := 56) (by omega) (by omega) ?_
    exact W.vret hx hb hr (fun t ht hW => ⟨⟨z, rfl, ⟨A, hP⟩, eWo ht hI⟩, hS.F ht⟩) hS.2.2 d_No_init_93
  · have hi : i < 4 := by
      rcases Nat.lt_or_ge i 4 with q | q
      · exact q
      · exact absurd ((nI_leI (a := 4) (b := i) (by omega) (by omega)).mpr q) c1
    have hna : z a = some (.inr (1, [.int n, .int kd, .int co, .ref (A 1), .ref (A 2), .ref (A 3), .null, .int 0, .double FP.dconst1, .double FP.dconst1, .double FP.dconst0, .double FP.dconst0, .int 0, .int 0, .int 0, .double FP.dconst1, .double FP.dconst0, .double FP.dconst0, .int 0, .int 0])) := hP.2.1
    have hta2 : z (A 2) = some (aT G 4 (trA A i)) := hP.2.2.2.1
    refine lv_aload_n hx hb d_No_init_73 rfl (lv_at hl 1 rfl) ?_
    refine hp_get (ci := 1) (v := .ref (A 2)) (C := R_No) (T := F_No) (N := 20) hx hb hg i_No hown hK hI hna rfl 4 (by decide) (hg _ k_173) (fun _ h9 => h9) rfl d_No_init_74 ?_
    refine lv_iload hx hb d_No_init_77 (lv_at hl 0 rfl) ?_
    refine hp_new (ci := 2) (fs := [.null, .null, .int 0]) (T := F_Tr) (N := 3) hx hb hg i_Tr t_Tr t_Tr_ok hown (hg _ k_122) (hg _ k_148) (hg _ k_66) hK hI hS hz rfl n_Tr_fs (by show 3 + 3 * i + 1 ≤ 15; omega) (by show 12 + 11 * i + 3 ≤ 56; omega) d_No_init_79 (fun t H hn_t hs_t hz_t hI hS => ?_)
    obtain ⟨w2, ew2⟩ : ∃ z9, z9 = hp_set z t (.inr (2, [.null, .null, .int 0])) := ⟨_, rfl⟩
    have hI : eI G S0 w2 H := by rw [ew2]; exact hI
    have ne_hna_t := hp_ne_n hna hn_t
    have hna : w2 a = some (.inr (1, [.int n, .int kd, .int co, .ref (A 1), .ref (A 2), .ref (A 3), .null, .int 0, .double FP.dconst1, .double FP.dconst1, .double FP.dconst0, .double FP.dconst0, .int 0, .int 0, .int 0, .double FP.dconst1, .double FP.dconst0, .double FP.dconst0, .int 0, .int 0])) := by rw [ew2, hp_set_ne ne_hna_t]; exact hna
    have ne_hta2_t := hp_ne_n hta2 hn_t
    have hta2 : w2 (A 2) = some (.inl (G.2.2.1 5, 4, .inr (.inr (.inr (.inr (trA A i)))))) := by rw [ew2, hp_set_ne ne_hta2_t]; exact hta2
    have ht : w2 t = some (.inr (2, [.null, .null, .int 0])) := by rw [ew2]; exact hp_set_eq _ _ _
    refine lv_dup hx hb d_No_init_82 rfl ?_
    refine ec_v (va_runIN (As := []) (rest := [.ref t, .int (nI i), .ref (A 2)]) ⟨hx, hb, hml, hown, hts⟩ (m_Tr_init l G S0 w2 t ht) ⟨va_cnB 0 hts (gw_code k_151) rfl rfl rfl (hE.Nw q_149) (hg _ k_66) (by decide +kernel) ⟨Nat.le_of_ble_eq_true rfl, Nat.le_of_ble_eq_true rfl⟩, rfl, hg _ k_150⟩ (eB.preS hE hI hS hz) rfl rfl hl.1 rfl (lv_room (Nat.le_of_ble_eq_true rfl)) d_No_init_83 ⟨by show 3 + 3 * i + 1 + 2 ≤ 15; omega, by show 12 + 11 * i + 3 + 8 ≤ 56; omega⟩) hS (fun w3 H locs ew3 hI hsz hS => ?_)
    obtain ⟨q1, q2, g1, g2, g3, g4⟩ := ew3
    have nt1 : q1 ≠ t := Ne.symm (hp_ne_n ht g1)
    have nt2 : q2 ≠ t := Ne.symm (hp_ne_n ht g2)
    have zq1 : z q1 = none := by rw [ew2, hp_set_ne nt1] at g1; exact g1
    have zq2 : z q2 = none := by rw [ew2, hp_set_ne nt2] at g2; exact g2
    have k0 : ∀ b x, z b = some x → w3 b = some x := fun b x hb9 => by
      have x1 : b ≠ t := hp_ne_n hb9 hn_t
      have x2 : b ≠ q1 := hp_ne_n hb9 zq1
      have x3 : b ≠ q2 := hp_ne_n hb9 zq2
      rw [g4, hp_set_ne x1, hp_set_ne x3, hp_set_ne x2, ew2, hp_set_ne x1]
      exact hb9
    have k1 : w3 t = some (oTr q1 q2 0) := by rw [g4]; exact hp_set_eq _ _ _
    have k2 : w3 q1 = some (aD G 4 (fun _ => FP.dconst0)) := by rw [g4, hp_set_ne nt1, hp_set_ne g3]; exact hp_set_eq _ _ _
    have k3 : w3 q2 = some (aD G 4 (fun _ => FP.dconst0)) := by rw [g4, hp_set_ne nt2]; exact hp_set_eq _ _ _
    have hta3 := k0 _ _ hP.2.2.2.1
    refine hp_aastC hx hb hK hI hS 5 2 hta3 rfl k1 rfl (vp_in_nI hi (by decide)) d_No_init_86 (fun H locs hI hS hsz => ?_)
    rw [nI_clamp (n := i) (by omega)] at hI
    obtain ⟨w4, ew4⟩ : ∃ z9, z9 = hp_set w3 (A 2) (aT G 4 (va_up (trA A i) i (some t))) := ⟨_, rfl⟩
    have hI : eI G S0 w4 H := by rw [ew4]; exact hI
    have hP2 := hP.step hi hn_t zq1 zq2 nt1 nt2 g3 k0 k1 k2 k3 ew4
    refine lv_iinc (v := nI (i + 1)) (lv' := [(4, .int (nI (i + 1))), (0, .ref a), (1, .int n), (2, .int kd), (3, .int co)]) hx hb d_No_init_87 hl (k := 0) rfl (nI_inc i) (by decide) rfl (fun ls hl => ?_)
    refine lv_goto (tgt := 67) hx hb d_No_init_90 (by decide) ?_
    refine W.widen (k := 3 + 3 * (i + 1)) (n := 12 + 11 * (i + 1)) (by omega) (by omega) ?_
    exact ih (3 - i) ((i + 1, upA A i t q1 q2, w4)) ls H locs (by omega) (⟨by omega, hP2, by omega⟩) (lv_sub hl [0, 1, 2, 3, 4] rfl) hI hS

/-! the law's wrappers: what is thrown becomes a number -/
theorem mt_ofWH {l : Launch} {y : MethodName} {ws ws' : List Cond} {rm : Room} {Pc : Array Value → State → Prop} {Qc : Array Value → State → Outcome → State → Prop} {mc ms : Nat} {free : Addr → Prop} {cc : ByteArray} {maxL : Nat} {ret : Option FieldType} {hh : List (Nat × Nat × Nat × Nat)}
    (hy : plainName y.cls = true) (hw : ws = Cond.codeWith y cc maxL ret hh :: ws')
    (body : ∀ p e s m args below meth c s₁, BodyLoose p l y (headSpec ws rm) cc maxL ret e s m args below meth c s₁ → c.maxLocals = maxL → Pc args s →
      W p l e (headSpec ws rm).room s m args below meth c s.heap [] 0 0 (MQ below Qc args s mc ms free) (entryFrame m args maxL)) : Met l y ws rm Pc Qc mc ms free := by
  refine MetFree.of_bodyS (code := cc) (maxLocals := maxL) (ret := ret) hy ?_ ?_
  · intro args s m h hn
    obtain ⟨m9, meth, c, hn9, h1, h2, h3, h4, -, h5, h6, -⟩ := Cond.codeWith_spec (atoms_spec (ws := ws) h _ (by rw [hw]; exact List.mem_cons_self))
    cases hn.symm.trans hn9
    exact ⟨meth, c, h1, h2, h3, h4, h5, h6⟩
  · intro p e s m args below meth c s₁ B hml hP _
    have hh0 : s₁.heap = s.heap := by rw [B.state]; rfl
    obtain ⟨t, a1, o, b1, b2, b3⟩ := body p e s m args below meth c s₁ B hml hP s₁ hh0 (Stand.of_body B)
    exact ⟨t, o, a1, b1, b2, b3⟩
/-- what is thrown is told apart -/
def nCa (U : State) : Prop := va_Nc ise iae U ∧ va_Nc nse iae U
theorem nCa.moved {u U : State} (hvm : u.vm.Alike U.vm) (h : nCa u) : nCa U := ⟨va_Nc.moved hvm h.1, va_Nc.moved hvm h.2⟩
def eB2 (G : EG) (S0 : Nat) (w : hp_M) (U : State) : Prop := eB G S0 w U ∧ nCa U
abbrev eP2 (G : EG) (S0 : Nat) (w : hp_M) (av : List Value) : Array Value → State → Prop := va_Pc av (eB2 G S0 w)
theorem eB2.blind {G : EG} {S0 : Nat} {w : hp_M} {av : List Value} : FrameBlind (eP2 G S0 w av) := fun a U g mk h => ⟨h.1, (eB.blind (av := av) a U g mk ⟨h.1, h.2.1⟩).2, nCa.moved (State.WarmedH.refl U).alike h.2.2⟩
theorem eB2.preS {s : State} {H : Heap} {G : EG} {S0 : Nat} {w : hp_M} {locs : List Loc} (hE : en G S0 s) (hI : eI G S0 w H) (hS : va_S (hp_A S0) s.heap H locs) (hz : S0 ≤ s.heap.size) (hN : nCa s) {av : List Value} : PreS s H (eP2 G S0 w av) av :=
  ⟨eB2.blind, fun _ hU hW => ⟨rfl, eB.at hE hI hS hz hU hW, hN.moved hW.alike⟩⟩
abbrev aJ (G : EG) (f : Nat → Int64) : va_E := .inl (G.2.2.1 3, 1, .inr (.inl f))
abbrev aD1 (G : EG) (f : Nat → UInt64) : va_E := .inl (G.2.2.1 1, 1, .inr (.inr (.inr (.inl f))))
set_option maxHeartbeats 4000000 in
set_option maxRecDepth 100000 in
theorem m_La_around (l : Launch) (G : EG) (S0 : Nat) (w : hp_M) (x : Nat) (a1 : Int32) (a2 : Int32) (a3 : UInt64) (fs : List Value) (hob : w x = some (.inr (3, fs))) (post : UInt64 → hp_M → Prop) (px : String → hp_M → Prop) (oa : Nat) (fo : Nat → UInt64) (hoa : ∀ v u, post v u → u oa = some (aD1 G fo)) (hcon : vx_Met l y_Ea_around w_Ea_around (rl 22 40 200) (eP G S0 w [.ref x, .int a1, .int a2, .double a3]) (va_Qd post (eW G S0) (hp_A S0)) (eX G S0 px) 40 200 (hp_A S0)) (hpx : ∀ E z, px E z → E = iae ∨ E = nse) : Met l y_La_around w_La_around (rl 23 40 200) (eP2 G S0 w [.ref x, .int a1, .int a2, .double a3, .ref oa]) (va_Qi (fun r z => (r = 0 ∧ ∃ v u, post v u ∧ z = hp_set u oa (aD1 G (vf_upd fo 0 v))) ∨ (r = 1 ∧ px iae z) ∨ (r = 2 ∧ px nse z)) (eW G S0) (hp_A S0)) 40 200 (hp_A S0) := by
  refine mt_ofWH (cc := b_La_around) (maxL := 7) (ret := (some .int)) (hh := h_La_around) (by decide) rfl ?_
  intro p e s m args below meth c s₁ B hml hv
  obtain ⟨rfl, ⟨hE, hI, hz⟩, hNc⟩ := hv
  have htab := vx_table (x := y_La_around) B (atoms_spec (ws := w_La_around) B.pre _ List.mem_cons_self)
  have hx := B.exec
  have hb := B.bytes
  have hr := B.returns
  have hts := atoms_spec (ws := w_La_around) B.pre
  have hg : ∀ w ∈ gw, w.before _ s = true := fun w h => hts w (List.mem_cons_of_mem _ h)
  have hown : s.vm.findClass "SceneEaselLaw" = some m.cls := findClass_of_methodNamed B.named
  have hlocks := B.notSynchronized
  have hK := hE.K
  have hS : va_S (hp_A S0) s.heap s.heap [] := va_S.rf
  have hl := lv_entry ([.ref x, .int a1, .int a2, .double a3, .ref oa]) (n := 7) (Nat.le_of_ble_eq_true rfl)
  rw [lg_entry_eq]
  generalize (lg_sl ([.ref x, .int a1, .int a2, .double a3, .ref oa]) ++ List.replicate (7 - (lg_sl ([.ref x, .int a1, .int a2, .double a3, .ref oa])).length) Slot.unset).toArray = ls at hl ⊢
  have hl : lv_has ls 7 [(0, .ref x), (1, .int a1), (2, .int a2), (3, .double a3), (5, .ref oa)] := hl
  refine lv_aload hx hb d_La_around_0 (lv_at hl 4 rfl) ?_
  refine lv_iconst (v := 0) hx hb d_La_around_2 (by decide) ?_
  refine lv_aload_n hx hb d_La_around_3 rfl (lv_at hl 0 rfl) ?_
  refine lv_iload_n hx hb d_La_around_4 rfl (lv_at hl 1 rfl) ?_
  refine lv_iload_n hx hb d_La_around_5 rfl (lv_at hl 2 rfl) ?_
  refine lv_dload_n hx hb d_La_around_6 rfl (lv_at hl 3 rfl) ?_
  refine xc_d (vx_runV (As := [.int a1, .int a2, .double a3]) (rest := [.int 0, .ref oa]) ⟨hx, hb, hml, hown, hts⟩ (hcon) (cwV 3 hts (gw_V k_706 k_707 k_708 k_60 k_709) rfl rfl rfl (by decide +kernel) ⟨Nat.le_of_ble_eq_true rfl, Nat.le_of_ble_eq_true rfl⟩) (eB.preV hE hI hS hz rfl hob) rfl rfl hl.1 rfl (lv_room (Nat.le_of_ble_eq_true rfl)) d_La_around_7 ⟨Nat.le_of_ble_eq_true rfl, Nat.le_of_ble_eq_true rfl⟩) hS ?_ (fun rv9 w9 H locs ew9 hI hsz hS => ?_)
  · intro E9 ce9 q9 u9 H9 locs9 hpx9 hI hsz9 hS g1 g2 g3
    rcases hpx E9 u9 hpx9 with eE | eE
    · subst eE
      refine vx_catch hown [] (⟨0, 11, 14, 13⟩) [⟨0, 11, 18, 44⟩] htab (fun z hz => absurd hz List.not_mem_nil) rfl (by decide) (hg _ k_290) (hE.N q_306) g1 g2 g3 ?_
      dsimp only
      refine lv_astore (lv' := [(6, .ref q9), (0, .ref x), (1, .int a1), (2, .int a2), (3, .double a3), (5, .ref oa)]) hx hb d_La_around_14 hl (by decide) rfl (fun ls hl => ?_)
      refine lv_iconst (v := 1) hx hb d_La_around_16 (by decide) ?_
      refine W.widen (k := 40) (n := 200) (Nat.le_of_ble_eq_true rfl) (Nat.le_of_ble_eq_true rfl) ?_
      exact W.iret (v := 1) hx hb hr (fun t9 ht9 hW9 => ⟨⟨1, u9, rfl, Or.inr (Or.inl ⟨rfl, hpx9⟩), eWo ht9 hI⟩, hS.F ht9⟩) hS.2.2 d_La_around_17
    · subst eE
      refine vx_catch hown [⟨0, 11, 14, 13⟩] (⟨0, 11, 18, 44⟩) [] htab (fun z hz => by rw [List.mem_singleton.mp hz]; exact Or.inr ⟨by decide, iae, hg _ k_290, hNc.2⟩) rfl (by decide) (hg _ k_547) (hE.N q_554) g1 g2 g3 ?_
      dsimp only
      refine lv_astore (lv' := [(6, .ref q9), (0, .ref x), (1, .int a1), (2, .int a2), (3, .double a3), (5, .ref oa)]) hx hb d_La_around_18 hl (by decide) rfl (fun ls hl => ?_)
      refine lv_iconst (v := 2) hx hb d_La_around_20 (by decide) ?_
      refine W.widen (k := 40) (n := 200) (Nat.le_of_ble_eq_true rfl) (Nat.le_of_ble_eq_true rfl) ?_
      exact W.iret (v := 2) hx hb hr (fun t9 ht9 hW9 => ⟨⟨2, u9, rfl, Or.inr (Or.inr ⟨rfl, hpx9⟩), eWo ht9 hI⟩, hS.F ht9⟩) hS.2.2 d_La_around_21
  · have hoa0 := hoa _ _ ew9
    refine hp_dast hx hb hK hI hS 1 hoa0 rfl (vp_in_nI (n := 0) (by decide) (by decide)) d_La_around_10 (fun H locs hI hS hsz => ?_)
    obtain ⟨f_1, ef_1⟩ : ∃ z9, z9 = vf_upd fo (0 : Int32).toNatClampNeg rv9 := ⟨_, rfl⟩
    rw [← ef_1] at hI
    obtain ⟨w_2, ew_2⟩ : ∃ z9, z9 = hp_set w9 oa (.inl (G.2.2.1 1, 1, .inr (.inr (.inr (.inl f_1))))) := ⟨_, rfl⟩
    have hI : eI G S0 w_2 H := by rw [ew_2]; exact hI
    have hoa0 : w_2 oa = some (.inl (G.2.2.1 1, 1, .inr (.inr (.inr (.inl f_1))))) := by rw [ew_2]; exact hp_set_eq _ _ _
    refine lv_goto (tgt := 22) hx hb d_La_around_11 (by decide) ?_
    refine lv_iconst (v := 0) hx hb d_La_around_22 (by decide) ?_
    refine W.widen (k := 40) (n := 200) (Nat.le_of_ble_eq_true rfl) (Nat.le_of_ble_eq_true rfl) ?_
    exact W.iret (v := 0) hx hb hr (fun t9 ht9 hW9 => ⟨⟨0, w_2, rfl, Or.inl ⟨rfl, rv9, w9, ew9, by rw [ew_2, ef_1]; rfl⟩, eWo ht9 hI⟩, hS.F ht9⟩) hS.2.2 d_La_around_23
set_option maxHeartbeats 4000000 in
set_option maxRecDepth 100000 in
theorem m_La_cell (l : Launch) (G : EG) (S0 : Nat) (w : hp_M) (x : Nat) (a1 : Int32) (a2 : Int32) (fs : List Value) (hob : w x = some (.inr (3, fs))) (post : Int32 → hp_M → Prop) (px : String → hp_M → Prop) (oa : Nat) (fo : Nat → Int64) (hoa : ∀ v u, post v u → u oa = some (aJ G fo)) (hcon : vx_Met l y_Ea_cell w_Ea_cell (rl 22 40 200) (eP G S0 w [.ref x, .int a1, .int a2]) (va_Qi post (eW G S0) (hp_A S0)) (eX G S0 px) 40 200 (hp_A S0)) (hpx : ∀ E z, px E z → E = iae) : Met l y_La_cell w_La_cell (rl 23 40 200) (eP2 G S0 w [.ref x, .int a1, .int a2, .ref oa]) (va_Qi (fun r z => (r = 0 ∧ ∃ v u, post v u ∧ z = hp_set u oa (aJ G (vp_updL fo 0 v.toInt64))) ∨ (r = 1 ∧ px iae z)) (eW G S0) (hp_A S0)) 40 200 (hp_A S0) := by
  refine mt_ofWH (cc := b_La_cell) (maxL := 5) (ret := (some .int)) (hh := h_La_cell) (by decide) rfl ?_
  intro p e s m args below meth c s₁ B hml hv
  obtain ⟨rfl, ⟨hE, hI, hz⟩, hNc⟩ := hv
  have htab := vx_table (x := y_La_cell) B (atoms_spec (ws := w_La_cell) B.pre _ List.mem_cons_self)
  have hx := B.exec
  have hb := B.bytes
  have hr := B.returns
  have hts := atoms_spec (ws := w_La_cell) B.pre
  have hg : ∀ w ∈ gw, w.before _ s = true := fun w h => hts w (List.mem_cons_of_mem _ h)
  have hown : s.vm.findClass "SceneEaselLaw" = some m.cls := findClass_of_methodNamed B.named
  have hlocks := B.notSynchronized
  have hK := hE.K
  have hS : va_S (hp_A S0) s.heap s.heap [] := va_S.rf
  have hl := lv_entry ([.ref x, .int a1, .int a2, .ref oa]) (n := 5) (Nat.le_of_ble_eq_true rfl)
  rw [lg_entry_eq]
  generalize (lg_sl ([.ref x, .int a1, .int a2, .ref oa]) ++ List.replicate (5 - (lg_sl ([.ref x, .int a1, .int a2, .ref oa])).length) Slot.unset).toArray = ls at hl ⊢
  have hl : lv_has ls 5 [(0, .ref x), (1, .int a1), (2, .int a2), (3, .ref oa)] := hl
  refine lv_aload_n hx hb d_La_cell_0 rfl (lv_at hl 3 rfl) ?_
  refine lv_iconst (v := 0) hx hb d_La_cell_1 (by decide) ?_
  refine lv_aload_n hx hb d_La_cell_2 rfl (lv_at hl 0 rfl) ?_
  refine lv_iload_n hx hb d_La_cell_3 rfl (lv_at hl 1 rfl) ?_
  refine lv_iload_n hx hb d_La_cell_4 rfl (lv_at hl 2 rfl) ?_
  refine xc_i (vx_runV (As := [.int a1, .int a2]) (rest := [.int 0, .ref oa]) ⟨hx, hb, hml, hown, hts⟩ (hcon) (cwV 2 hts (gw_V k_690 k_691 k_692 k_60 k_693) rfl rfl rfl (by decide +kernel) ⟨Nat.le_of_ble_eq_true rfl, Nat.le_of_ble_eq_true rfl⟩) (eB.preV hE hI hS hz rfl hob) rfl rfl hl.1 rfl (lv_room (Nat.le_of_ble_eq_true rfl)) d_La_cell_5 ⟨Nat.le_of_ble_eq_true rfl, Nat.le_of_ble_eq_true rfl⟩) hS ?_ (fun rv9 w9 H locs ew9 hI hsz hS => ?_)
  · intro E9 ce9 q9 u9 H9 locs9 hpx9 hI hsz9 hS g1 g2 g3
    have eE := hpx E9 u9 hpx9
    subst eE
    refine vx_catch hown [] (⟨0, 10, 13, 13⟩) [] htab (fun z hz => absurd hz List.not_mem_nil) rfl (by decide) (hg _ k_290) (hE.N q_306) g1 g2 g3 ?_
    dsimp only
    refine lv_astore (lv' := [(4, .ref q9), (0, .ref x), (1, .int a1), (2, .int a2), (3, .ref oa)]) hx hb d_La_cell_13 hl (by decide) rfl (fun ls hl => ?_)
    refine lv_iconst (v := 1) hx hb d_La_cell_15 (by decide) ?_
    refine W.widen (k := 40) (n := 200) (Nat.le_of_ble_eq_true rfl) (Nat.le_of_ble_eq_true rfl) ?_
    exact W.iret (v := 1) hx hb hr (fun t9 ht9 hW9 => ⟨⟨1, u9, rfl, Or.inr ⟨rfl, hpx9⟩, eWo ht9 hI⟩, hS.F ht9⟩) hS.2.2 d_La_cell_16
  · have hoa0 := hoa _ _ ew9
    refine lv_i2l hx hb d_La_cell_8 rfl ?_
    refine hp_last hx hb hK hI hS 3 hoa0 rfl (vp_in_nI (n := 0) (by decide) (by decide)) d_La_cell_9 (fun H locs hI hS hsz => ?_)
    obtain ⟨f_1, ef_1⟩ : ∃ z9, z9 = vp_updL fo (0 : Int32).toNatClampNeg (rv9).toInt64 := ⟨_, rfl⟩
    rw [← ef_1] at hI
    obtain ⟨w_2, ew_2⟩ : ∃ z9, z9 = hp_set w9 oa (.inl (G.2.2.1 3, 1, .inr (.inl f_1))) := ⟨_, rfl⟩
    have hI : eI G S0 w_2 H := by rw [ew_2]; exact hI
    have hoa0 : w_2 oa = some (.inl (G.2.2.1 3, 1, .inr (.inl f_1))) := by rw [ew_2]; exact hp_set_eq _ _ _
    refine lv_goto (tgt := 17) hx hb d_La_cell_10 (by decide) ?_
    refine lv_iconst (v := 0) hx hb d_La_cell_17 (by decide) ?_
    refine W.widen (k := 40) (n := 200) (Nat.le_of_ble_eq_true rfl) (Nat.le_of_ble_eq_true rfl) ?_
    exact W.iret (v := 0) hx hb hr (fun t9 ht9 hW9 => ⟨⟨0, w_2, rfl, Or.inl ⟨rfl, rv9, w9, ew9, by rw [ew_2, ef_1]; rfl⟩, eWo ht9 hI⟩, hS.F ht9⟩) hS.2.2 d_La_cell_18
set_option maxHeartbeats 4000000 in
set_option maxRecDepth 100000 in
theorem m_La_hide (l : Launch) (G : EG) (S0 : Nat) (w : hp_M) (x : Nat) (a1 : Int32) (a2 : Int32) (fs : List Value) (hob : w x = some (.inr (3, fs))) (post : hp_M → Prop) (px : String → hp_M → Prop) (hcon : vx_Met l y_Ea_hide w_Ea_hide (rl 22 40 200) (eP G S0 w [.ref x, .int a1, .int a2]) (va_Qv post (eW G S0) (hp_A S0)) (eX G S0 px) 40 200 (hp_A S0)) (hpx : ∀ E z, px E z → E = iae) : Met l y_La_hide w_La_hide (rl 23 40 200) (eP2 G S0 w [.ref x, .int a1, .int a2]) (va_Qi (fun r z => (r = 0 ∧ post z) ∨ (r = 1 ∧ px iae z)) (eW G S0) (hp_A S0)) 40 200 (hp_A S0) := by
  refine mt_ofWH (cc := b_La_hide) (maxL := 4) (ret := (some .int)) (hh := h_La_hide) (by decide) rfl ?_
  intro p e s m args below meth c s₁ B hml hv
  obtain ⟨rfl, ⟨hE, hI, hz⟩, hNc⟩ := hv
  have htab := vx_table (x := y_La_hide) B (atoms_spec (ws := w_La_hide) B.pre _ List.mem_cons_self)
  have hx := B.exec
  have hb := B.bytes
  have hr := B.returns
  have hts := atoms_spec (ws := w_La_hide) B.pre
  have hg : ∀ w ∈ gw, w.before _ s = true := fun w h => hts w (List.mem_cons_of_mem _ h)
  have hown : s.vm.findClass "SceneEaselLaw" = some m.cls := findClass_of_methodNamed B.named
  have hlocks := B.notSynchronized
  have hK := hE.K
  have hS : va_S (hp_A S0) s.heap s.heap [] := va_S.rf
  have hl := lv_entry ([.ref x, .int a1, .int a2]) (n := 4) (Nat.le_of_ble_eq_true rfl)
  rw [lg_entry_eq]
  generalize (lg_sl ([.ref x, .int a1, .int a2]) ++ List.replicate (4 - (lg_sl ([.ref x, .int a1, .int a2])).length) Slot.unset).toArray = ls at hl ⊢
  have hl : lv_has ls 4 [(0, .ref x), (1, .int a1), (2, .int a2)] := hl
  refine lv_aload_n hx hb d_La_hide_0 rfl (lv_at hl 0 rfl) ?_
  refine lv_iload_n hx hb d_La_hide_1 rfl (lv_at hl 1 rfl) ?_
  refine lv_iload_n hx hb d_La_hide_2 rfl (lv_at hl 2 rfl) ?_
  refine xc_v (vx_runV (As := [.int a1, .int a2]) (rest := []) ⟨hx, hb, hml, hown, hts⟩ (hcon) (cwV 2 hts (gw_V k_514 k_515 k_516 k_60 k_517) rfl rfl rfl (by decide +kernel) ⟨Nat.le_of_ble_eq_true rfl, Nat.le_of_ble_eq_true rfl⟩) (eB.preV hE hI hS hz rfl hob) rfl rfl hl.1 rfl (lv_room (Nat.le_of_ble_eq_true rfl)) d_La_hide_3 ⟨Nat.le_of_ble_eq_true rfl, Nat.le_of_ble_eq_true rfl⟩) hS ?_ (fun w9 H locs ew9 hI hsz hS => ?_)
  · intro E9 ce9 q9 u9 H9 locs9 hpx9 hI hsz9 hS g1 g2 g3
    have eE := hpx E9 u9 hpx9
    subst eE
    refine vx_catch hown [] (⟨0, 6, 9, 13⟩) [] htab (fun z hz => absurd hz List.not_mem_nil) rfl (by decide) (hg _ k_290) (hE.N q_306) g1 g2 g3 ?_
    dsimp only
    refine lv_astore_n (lv' := [(3, .ref q9), (0, .ref x), (1, .int a1), (2, .int a2)]) hx hb d_La_hide_9 rfl hl (by decide) rfl (fun ls hl => ?_)
    refine lv_iconst (v := 1) hx hb d_La_hide_10 (by decide) ?_
    refine W.widen (k := 40) (n := 200) (Nat.le_of_ble_eq_true rfl) (Nat.le_of_ble_eq_true rfl) ?_
    exact W.iret (v := 1) hx hb hr (fun t9 ht9 hW9 => ⟨⟨1, u9, rfl, Or.inr ⟨rfl, hpx9⟩, eWo ht9 hI⟩, hS.F ht9⟩) hS.2.2 d_La_hide_11
  · refine lv_goto (tgt := 12) hx hb d_La_hide_6 (by decide) ?_
    refine lv_iconst (v := 0) hx hb d_La_hide_12 (by decide) ?_
    refine W.widen (k := 40) (n := 200) (Nat.le_of_ble_eq_true rfl) (Nat.le_of_ble_eq_true rfl) ?_
    exact W.iret (v := 0) hx hb hr (fun t9 ht9 hW9 => ⟨⟨0, w9, rfl, Or.inl ⟨rfl, ew9⟩, eWo ht9 hI⟩, hS.F ht9⟩) hS.2.2 d_La_hide_13
set_option maxHeartbeats 4000000 in
set_option maxRecDepth 100000 in
theorem m_La_into (l : Launch) (G : EG) (S0 : Nat) (w : hp_M) (x : Nat) (a1 : Int32) (a2 : Int32) (fs : List Value) (hob : w x = some (.inr (3, fs))) (post : hp_M → Prop) (px : String → hp_M → Prop) (hcon : vx_Met l y_Ea_into w_Ea_into (rl 22 40 200) (eP G S0 w [.ref x, .int a1, .int a2]) (va_Qv post (eW G S0) (hp_A S0)) (eX G S0 px) 40 200 (hp_A S0)) (hpx : ∀ E z, px E z → E = iae ∨ E = ise) : Met l y_La_into w_La_into (rl 23 40 200) (eP2 G S0 w [.ref x, .int a1, .int a2]) (va_Qi (fun r z => (r = 0 ∧ post z) ∨ (r = 1 ∧ px iae z) ∨ (r = 2 ∧ px ise z)) (eW G S0) (hp_A S0)) 40 200 (hp_A S0) := by
  refine mt_ofWH (cc := b_La_into) (maxL := 4) (ret := (some .int)) (hh := h_La_into) (by decide) rfl ?_
  intro p e s m args below meth c s₁ B hml hv
  obtain ⟨rfl, ⟨hE, hI, hz⟩, hNc⟩ := hv
  have htab := vx_table (x := y_La_into) B (atoms_spec (ws := w_La_into) B.pre _ List.mem_cons_self)
  have hx := B.exec
  have hb := B.bytes
  have hr := B.returns
  have hts := atoms_spec (ws := w_La_into) B.pre
  have hg : ∀ w ∈ gw, w.before _ s = true := fun w h => hts w (List.mem_cons_of_mem _ h)
  have hown : s.vm.findClass "SceneEaselLaw" = some m.cls := findClass_of_methodNamed B.named
  have hlocks := B.notSynchronized
  have hK := hE.K
  have hS : va_S (hp_A S0) s.heap s.heap [] := va_S.rf
  have hl := lv_entry ([.ref x, .int a1, .int a2]) (n := 4) (Nat.le_of_ble_eq_true rfl)
  rw [lg_entry_eq]
  generalize (lg_sl ([.ref x, .int a1, .int a2]) ++ List.replicate (4 - (lg_sl ([.ref x, .int a1, .int a2])).length) Slot.unset).toArray = ls at hl ⊢
  have hl : lv_has ls 4 [(0, .ref x), (1, .int a1), (2, .int a2)] := hl
  refine lv_aload_n hx hb d_La_into_0 rfl (lv_at hl 0 rfl) ?_
  refine lv_iload_n hx hb d_La_into_1 rfl (lv_at hl 1 rfl) ?_
  refine lv_iload_n hx hb d_La_into_2 rfl (lv_at hl 2 rfl) ?_
  refine xc_v (vx_runV (As := [.int a1, .int a2]) (rest := []) ⟨hx, hb, hml, hown, hts⟩ (hcon) (cwV 2 hts (gw_V k_571 k_572 k_573 k_60 k_574) rfl rfl rfl (by decide +kernel) ⟨Nat.le_of_ble_eq_true rfl, Nat.le_of_ble_eq_true rfl⟩) (eB.preV hE hI hS hz rfl hob) rfl rfl hl.1 rfl (lv_room (Nat.le_of_ble_eq_true rfl)) d_La_into_3 ⟨Nat.le_of_ble_eq_true rfl, Nat.le_of_ble_eq_true rfl⟩) hS ?_ (fun w9 H locs ew9 hI hsz hS => ?_)
  · intro E9 ce9 q9 u9 H9 locs9 hpx9 hI hsz9 hS g1 g2 g3
    rcases hpx E9 u9 hpx9 with eE | eE
    · subst eE
      refine vx_catch hown [] (⟨0, 6, 9, 13⟩) [⟨0, 6, 12, 15⟩] htab (fun z hz => absurd hz List.not_mem_nil) rfl (by decide) (hg _ k_290) (hE.N q_306) g1 g2 g3 ?_
      dsimp only
      refine lv_astore_n (lv' := [(3, .ref q9), (0, .ref x), (1, .int a1), (2, .int a2)]) hx hb d_La_into_9 rfl hl (by decide) rfl (fun ls hl => ?_)
      refine lv_iconst (v := 1) hx hb d_La_into_10 (by decide) ?_
      refine W.widen (k := 40) (n := 200) (Nat.le_of_ble_eq_true rfl) (Nat.le_of_ble_eq_true rfl) ?_
      exact W.iret (v := 1) hx hb hr (fun t9 ht9 hW9 => ⟨⟨1, u9, rfl, Or.inr (Or.inl ⟨rfl, hpx9⟩), eWo ht9 hI⟩, hS.F ht9⟩) hS.2.2 d_La_into_11
    · subst eE
      refine vx_catch hown [⟨0, 6, 9, 13⟩] (⟨0, 6, 12, 15⟩) [] htab (fun z hz => by rw [List.mem_singleton.mp hz]; exact Or.inr ⟨by decide, iae, hg _ k_290, hNc.1⟩) rfl (by decide) (hg _ k_291) (hE.N q_383) g1 g2 g3 ?_
      dsimp only
      refine lv_astore_n (lv' := [(3, .ref q9), (0, .ref x), (1, .int a1), (2, .int a2)]) hx hb d_La_into_12 rfl hl (by decide) rfl (fun ls hl => ?_)
      refine lv_iconst (v := 2) hx hb d_La_into_13 (by decide) ?_
      refine W.widen (k := 40) (n := 200) (Nat.le_of_ble_eq_true rfl) (Nat.le_of_ble_eq_true rfl) ?_
      exact W.iret (v := 2) hx hb hr (fun t9 ht9 hW9 => ⟨⟨2, u9, rfl, Or.inr (Or.inr ⟨rfl, hpx9⟩), eWo ht9 hI⟩, hS.F ht9⟩) hS.2.2 d_La_into_14
  · refine lv_goto (tgt := 15) hx hb d_La_into_6 (by decide) ?_
    refine lv_iconst (v := 0) hx hb d_La_into_15 (by decide) ?_
    refine W.widen (k := 40) (n := 200) (Nat.le_of_ble_eq_true rfl) (Nat.le_of_ble_eq_true rfl) ?_
    exact W.iret (v := 0) hx hb hr (fun t9 ht9 hW9 => ⟨⟨0, w9, rfl, Or.inl ⟨rfl, ew9⟩, eWo ht9 hI⟩, hS.F ht9⟩) hS.2.2 d_La_into_16
set_option maxHeartbeats 4000000 in
set_option maxRecDepth 100000 in
theorem m_La_key (l : Launch) (G : EG) (S0 : Nat) (w : hp_M) (x : Nat) (a1 : Int32) (a2 : Int32) (a3 : UInt64) (a4 : UInt64) (fs : List Value) (hob : w x = some (.inr (3, fs))) (post : Int32 → hp_M → Prop) (px : String → hp_M → Prop) (oa : Nat) (fo : Nat → Int64) (hoa : ∀ v u, post v u → u oa = some (aJ G fo)) (hcon : vx_Met l y_Ea_key w_Ea_key (rl 22 40 200) (eP G S0 w [.ref x, .int a1, .int a2, .double a3, .double a4]) (va_Qi post (eW G S0) (hp_A S0)) (eX G S0 px) 40 200 (hp_A S0)) (hpx : ∀ E z, px E z → E = iae ∨ E = ise) : Met l y_La_key w_La_key (rl 23 40 200) (eP2 G S0 w [.ref x, .int a1, .int a2, .double a3, .double a4, .ref oa]) (va_Qi (fun r z => (r = 0 ∧ ∃ v u, post v u ∧ z = hp_set u oa (aJ G (vp_updL fo 0 v.toInt64))) ∨ (r = 1 ∧ px iae z) ∨ (r = 2 ∧ px ise z)) (eW G S0) (hp_A S0)) 40 200 (hp_A S0) := by
  refine mt_ofWH (cc := b_La_key) (maxL := 9) (ret := (some .int)) (hh := h_La_key) (by decide) rfl ?_
  intro p e s m args below meth c s₁ B hml hv
  obtain ⟨rfl, ⟨hE, hI, hz⟩, hNc⟩ := hv
  have htab := vx_table (x := y_La_key) B (atoms_spec (ws := w_La_key) B.pre _ List.mem_cons_self)
  have hx := B.exec
  have hb := B.bytes
  have hr := B.returns
  have hts := atoms_spec (ws := w_La_key) B.pre
  have hg : ∀ w ∈ gw, w.before _ s = true := fun w h => hts w (List.mem_cons_of_mem _ h)
  have hown : s.vm.findClass "SceneEaselLaw" = some m.cls := findClass_of_methodNamed B.named
  have hlocks := B.notSynchronized
  have hK := hE.K
  have hS : va_S (hp_A S0) s.heap s.heap [] := va_S.rf
  have hl := lv_entry ([.ref x, .int a1, .int a2, .double a3, .double a4, .ref oa]) (n := 9) (Nat.le_of_ble_eq_true rfl)
  rw [lg_entry_eq]
  generalize (lg_sl ([.ref x, .int a1, .int a2, .double a3, .double a4, .ref oa]) ++ List.replicate (9 - (lg_sl ([.ref x, .int a1, .int a2, .double a3, .double a4, .ref oa])).length) Slot.unset).toArray = ls at hl ⊢
  have hl : lv_has ls 9 [(0, .ref x), (1, .int a1), (2, .int a2), (3, .double a3), (5, .double a4), (7, .ref oa)] := hl
  refine lv_aload hx hb d_La_key_0 (lv_at hl 5 rfl) ?_
  refine lv_iconst (v := 0) hx hb d_La_key_2 (by decide) ?_
  refine lv_aload_n hx hb d_La_key_3 rfl (lv_at hl 0 rfl) ?_
  refine lv_iload_n hx hb d_La_key_4 rfl (lv_at hl 1 rfl) ?_
  refine lv_iload_n hx hb d_La_key_5 rfl (lv_at hl 2 rfl) ?_
  refine lv_dload_n hx hb d_La_key_6 rfl (lv_at hl 3 rfl) ?_
  refine lv_dload hx hb d_La_key_7 (lv_at hl 4 rfl) ?_
  refine xc_i (vx_runV (As := [.int a1, .int a2, .double a3, .double a4]) (rest := [.int 0, .ref oa]) ⟨hx, hb, hml, hown, hts⟩ (hcon) (cwV 4 hts (gw_V k_521 k_522 k_523 k_60 k_524) rfl rfl rfl (by decide +kernel) ⟨Nat.le_of_ble_eq_true rfl, Nat.le_of_ble_eq_true rfl⟩) (eB.preV hE hI hS hz rfl hob) rfl rfl hl.1 rfl (lv_room (Nat.le_of_ble_eq_true rfl)) d_La_key_9 ⟨Nat.le_of_ble_eq_true rfl, Nat.le_of_ble_eq_true rfl⟩) hS ?_ (fun rv9 w9 H locs ew9 hI hsz hS => ?_)
  · intro E9 ce9 q9 u9 H9 locs9 hpx9 hI hsz9 hS g1 g2 g3
    rcases hpx E9 u9 hpx9 with eE | eE
    · subst eE
      refine vx_catch hown [] (⟨0, 14, 17, 13⟩) [⟨0, 14, 21, 15⟩] htab (fun z hz => absurd hz List.not_mem_nil) rfl (by decide) (hg _ k_290) (hE.N q_306) g1 g2 g3 ?_
      dsimp only
      refine lv_astore (lv' := [(8, .ref q9), (0, .ref x), (1, .int a1), (2, .int a2), (3, .double a3), (5, .double a4), (7, .ref oa)]) hx hb d_La_key_17 hl (by decide) rfl (fun ls hl => ?_)
      refine lv_iconst (v := 1) hx hb d_La_key_19 (by decide) ?_
      refine W.widen (k := 40) (n := 200) (Nat.le_of_ble_eq_true rfl) (Nat.le_of_ble_eq_true rfl) ?_
      exact W.iret (v := 1) hx hb hr (fun t9 ht9 hW9 => ⟨⟨1, u9, rfl, Or.inr (Or.inl ⟨rfl, hpx9⟩), eWo ht9 hI⟩, hS.F ht9⟩) hS.2.2 d_La_key_20
    · subst eE
      refine vx_catch hown [⟨0, 14, 17, 13⟩] (⟨0, 14, 21, 15⟩) [] htab (fun z hz => by rw [List.mem_singleton.mp hz]; exact Or.inr ⟨by decide, iae, hg _ k_290, hNc.1⟩) rfl (by decide) (hg _ k_291) (hE.N q_383) g1 g2 g3 ?_
      dsimp only
      refine lv_astore (lv' := [(8, .ref q9), (0, .ref x), (1, .int a1), (2, .int a2), (3, .double a3), (5, .double a4), (7, .ref oa)]) hx hb d_La_key_21 hl (by decide) rfl (fun ls hl => ?_)
      refine lv_iconst (v := 2) hx hb d_La_key_23 (by decide) ?_
      refine W.widen (k := 40) (n := 200) (Nat.le_of_ble_eq_true rfl) (Nat.le_of_ble_eq_true rfl) ?_
      exact W.iret (v := 2) hx hb hr (fun t9 ht9 hW9 => ⟨⟨2, u9, rfl, Or.inr (Or.inr ⟨rfl, hpx9⟩), eWo ht9 hI⟩, hS.F ht9⟩) hS.2.2 d_La_key_24
  · have hoa0 := hoa _ _ ew9
    refine lv_i2l hx hb d_La_key_12 rfl ?_
    refine hp_last hx hb hK hI hS 3 hoa0 rfl (vp_in_nI (n := 0) (by decide) (by decide)) d_La_key_13 (fun H locs hI hS hsz => ?_)
    obtain ⟨f_1, ef_1⟩ : ∃ z9, z9 = vp_updL fo (0 : Int32).toNatClampNeg (rv9).toInt64 := ⟨_, rfl⟩
    rw [← ef_1] at hI
    obtain ⟨w_2, ew_2⟩ : ∃ z9, z9 = hp_set w9 oa (.inl (G.2.2.1 3, 1, .inr (.inl f_1))) := ⟨_, rfl⟩
    have hI : eI G S0 w_2 H := by rw [ew_2]; exact hI
    have hoa0 : w_2 oa = some (.inl (G.2.2.1 3, 1, .inr (.inl f_1))) := by rw [ew_2]; exact hp_set_eq _ _ _
    refine lv_goto (tgt := 25) hx hb d_La_key_14 (by decide) ?_
    refine lv_iconst (v := 0) hx hb d_La_key_25 (by decide) ?_
    refine W.widen (k := 40) (n := 200) (Nat.le_of_ble_eq_true rfl) (Nat.le_of_ble_eq_true rfl) ?_
    exact W.iret (v := 0) hx hb hr (fun t9 ht9 hW9 => ⟨⟨0, w_2, rfl, Or.inl ⟨rfl, rv9, w9, ew9, by rw [ew_2, ef_1]; rfl⟩, eWo ht9 hI⟩, hS.F ht9⟩) hS.2.2 d_La_key_26
set_option maxHeartbeats 4000000 in
set_option maxRecDepth 100000 in
theorem m_La_lay (l : Launch) (G : EG) (S0 : Nat) (w : hp_M) (x : Nat) (a1 : Int32) (a2 : Int32) (a3 : Int32) (fs : List Value) (hob : w x = some (.inr (3, fs))) (post : hp_M → Prop) (px : String → hp_M → Prop) (hcon : vx_Met l y_Ea_lay w_Ea_lay (rl 22 40 200) (eP G S0 w [.ref x, .int a1, .int a2, .int a3]) (va_Qv post (eW G S0) (hp_A S0)) (eX G S0 px) 40 200 (hp_A S0)) (hpx : ∀ E z, px E z → E = iae) : Met l y_La_lay w_La_lay (rl 23 40 200) (eP2 G S0 w [.ref x, .int a1, .int a2, .int a3]) (va_Qi (fun r z => (r = 0 ∧ post z) ∨ (r = 1 ∧ px iae z)) (eW G S0) (hp_A S0)) 40 200 (hp_A S0) := by
  refine mt_ofWH (cc := b_La_lay) (maxL := 5) (ret := (some .int)) (hh := h_La_lay) (by decide) rfl ?_
  intro p e s m args below meth c s₁ B hml hv
  obtain ⟨rfl, ⟨hE, hI, hz⟩, hNc⟩ := hv
  have htab := vx_table (x := y_La_lay) B (atoms_spec (ws := w_La_lay) B.pre _ List.mem_cons_self)
  have hx := B.exec
  have hb := B.bytes
  have hr := B.returns
  have hts := atoms_spec (ws := w_La_lay) B.pre
  have hg : ∀ w ∈ gw, w.before _ s = true := fun w h => hts w (List.mem_cons_of_mem _ h)
  have hown : s.vm.findClass "SceneEaselLaw" = some m.cls := findClass_of_methodNamed B.named
  have hlocks := B.notSynchronized
  have hK := hE.K
  have hS : va_S (hp_A S0) s.heap s.heap [] := va_S.rf
  have hl := lv_entry ([.ref x, .int a1, .int a2, .int a3]) (n := 5) (Nat.le_of_ble_eq_true rfl)
  rw [lg_entry_eq]
  generalize (lg_sl ([.ref x, .int a1, .int a2, .int a3]) ++ List.replicate (5 - (lg_sl ([.ref x, .int a1, .int a2, .int a3])).length) Slot.unset).toArray = ls at hl ⊢
  have hl : lv_has ls 5 [(0, .ref x), (1, .int a1), (2, .int a2), (3, .int a3)] := hl
  refine lv_aload_n hx hb d_La_lay_0 rfl (lv_at hl 0 rfl) ?_
  refine lv_iload_n hx hb d_La_lay_1 rfl (lv_at hl 1 rfl) ?_
  refine lv_iload_n hx hb d_La_lay_2 rfl (lv_at hl 2 rfl) ?_
  refine lv_iload_n hx hb d_La_lay_3 rfl (lv_at hl 3 rfl) ?_
  refine xc_v (vx_runV (As := [.int a1, .int a2, .int a3]) (rest := []) ⟨hx, hb, hml, hown, hts⟩ (hcon) (cwV 3 hts (gw_V k_499 k_500 k_501 k_60 k_502) rfl rfl rfl (by decide +kernel) ⟨Nat.le_of_ble_eq_true rfl, Nat.le_of_ble_eq_true rfl⟩) (eB.preV hE hI hS hz rfl hob) rfl rfl hl.1 rfl (lv_room (Nat.le_of_ble_eq_true rfl)) d_La_lay_4 ⟨Nat.le_of_ble_eq_true rfl, Nat.le_of_ble_eq_true rfl⟩) hS ?_ (fun w9 H locs ew9 hI hsz hS => ?_)
  · intro E9 ce9 q9 u9 H9 locs9 hpx9 hI hsz9 hS g1 g2 g3
    have eE := hpx E9 u9 hpx9
    subst eE
    refine vx_catch hown [] (⟨0, 7, 10, 13⟩) [] htab (fun z hz => absurd hz List.not_mem_nil) rfl (by decide) (hg _ k_290) (hE.N q_306) g1 g2 g3 ?_
    dsimp only
    refine lv_astore (lv' := [(4, .ref q9), (0, .ref x), (1, .int a1), (2, .int a2), (3, .int a3)]) hx hb d_La_lay_10 hl (by decide) rfl (fun ls hl => ?_)
    refine lv_iconst (v := 1) hx hb d_La_lay_12 (by decide) ?_
    refine W.widen (k := 40) (n := 200) (Nat.le_of_ble_eq_true rfl) (Nat.le_of_ble_eq_true rfl) ?_
    exact W.iret (v := 1) hx hb hr (fun t9 ht9 hW9 => ⟨⟨1, u9, rfl, Or.inr ⟨rfl, hpx9⟩, eWo ht9 hI⟩, hS.F ht9⟩) hS.2.2 d_La_lay_13
  · refine lv_goto (tgt := 14) hx hb d_La_lay_7 (by decide) ?_
    refine lv_iconst (v := 0) hx hb d_La_lay_14 (by decide) ?_
    refine W.widen (k := 40) (n := 200) (Nat.le_of_ble_eq_true rfl) (Nat.le_of_ble_eq_true rfl) ?_
    exact W.iret (v := 0) hx hb hr (fun t9 ht9 hW9 => ⟨⟨0, w9, rfl, Or.inl ⟨rfl, ew9⟩, eWo ht9 hI⟩, hS.F ht9⟩) hS.2.2 d_La_lay_15
set_option maxHeartbeats 4000000 in
set_option maxRecDepth 100000 in
theorem m_La_lengths (l : Launch) (G : EG) (S0 : Nat) (w : hp_M) (x : Nat) (a1 : Int32) (a2 : UInt64) (a3 : UInt64) (fs : List Value) (hob : w x = some (.inr (3, fs))) (post : hp_M → Prop) (px : String → hp_M → Prop) (hcon : vx_Met l y_Ea_lengths w_Ea_lengths (rl 22 40 200) (eP G S0 w [.ref x, .int a1, .double a2, .double a3]) (va_Qv post (eW G S0) (hp_A S0)) (eX G S0 px) 40 200 (hp_A S0)) (hpx : ∀ E z, px E z → E = iae) : Met l y_La_lengths w_La_lengths (rl 23 40 200) (eP2 G S0 w [.ref x, .int a1, .double a2, .double a3]) (va_Qi (fun r z => (r = 0 ∧ post z) ∨ (r = 1 ∧ px iae z)) (eW G S0) (hp_A S0)) 40 200 (hp_A S0) := by
  refine mt_ofWH (cc := b_La_lengths) (maxL := 7) (ret := (some .int)) (hh := h_La_lengths) (by decide) rfl ?_
  intro p e s m args below meth c s₁ B hml hv
  obtain ⟨rfl, ⟨hE, hI, hz⟩, hNc⟩ := hv
  have htab := vx_table (x := y_La_lengths) B (atoms_spec (ws := w_La_lengths) B.pre _ List.mem_cons_self)
  have hx := B.exec
  have hb := B.bytes
  have hr := B.returns
  have hts := atoms_spec (ws := w_La_lengths) B.pre
  have hg : ∀ w ∈ gw, w.before _ s = true := fun w h => hts w (List.mem_cons_of_mem _ h)
  have hown : s.vm.findClass "SceneEaselLaw" = some m.cls := findClass_of_methodNamed B.named
  have hlocks := B.notSynchronized
  have hK := hE.K
  have hS : va_S (hp_A S0) s.heap s.heap [] := va_S.rf
  have hl := lv_entry ([.ref x, .int a1, .double a2, .double a3]) (n := 7) (Nat.le_of_ble_eq_true rfl)
  rw [lg_entry_eq]
  generalize (lg_sl ([.ref x, .int a1, .double a2, .double a3]) ++ List.replicate (7 - (lg_sl ([.ref x, .int a1, .double a2, .double a3])).length) Slot.unset).toArray = ls at hl ⊢
  have hl : lv_has ls 7 [(0, .ref x), (1, .int a1), (2, .double a2), (4, .double a3)] := hl
  refine lv_aload_n hx hb d_La_lengths_0 rfl (lv_at hl 0 rfl) ?_
  refine lv_iload_n hx hb d_La_lengths_1 rfl (lv_at hl 1 rfl) ?_
  refine lv_dload_n hx hb d_La_lengths_2 rfl (lv_at hl 2 rfl) ?_
  refine lv_dload hx hb d_La_lengths_3 (lv_at hl 3 rfl) ?_
  refine xc_v (vx_runV (As := [.int a1, .double a2, .double a3]) (rest := []) ⟨hx, hb, hml, hown, hts⟩ (hcon) (cwV 3 hts (gw_V k_459 k_460 k_461 k_60 k_462) rfl rfl rfl (by decide +kernel) ⟨Nat.le_of_ble_eq_true rfl, Nat.le_of_ble_eq_true rfl⟩) (eB.preV hE hI hS hz rfl hob) rfl rfl hl.1 rfl (lv_room (Nat.le_of_ble_eq_true rfl)) d_La_lengths_5 ⟨Nat.le_of_ble_eq_true rfl, Nat.le_of_ble_eq_true rfl⟩) hS ?_ (fun w9 H locs ew9 hI hsz hS => ?_)
  · intro E9 ce9 q9 u9 H9 locs9 hpx9 hI hsz9 hS g1 g2 g3
    have eE := hpx E9 u9 hpx9
    subst eE
    refine vx_catch hown [] (⟨0, 8, 11, 13⟩) [] htab (fun z hz => absurd hz List.not_mem_nil) rfl (by decide) (hg _ k_290) (hE.N q_306) g1 g2 g3 ?_
    dsimp only
    refine lv_astore (lv' := [(6, .ref q9), (0, .ref x), (1, .int a1), (2, .double a2), (4, .double a3)]) hx hb d_La_lengths_11 hl (by decide) rfl (fun ls hl => ?_)
    refine lv_iconst (v := 1) hx hb d_La_lengths_13 (by decide) ?_
    refine W.widen (k := 40) (n := 200) (Nat.le_of_ble_eq_true rfl) (Nat.le_of_ble_eq_true rfl) ?_
    exact W.iret (v := 1) hx hb hr (fun t9 ht9 hW9 => ⟨⟨1, u9, rfl, Or.inr ⟨rfl, hpx9⟩, eWo ht9 hI⟩, hS.F ht9⟩) hS.2.2 d_La_lengths_14
  · refine lv_goto (tgt := 15) hx hb d_La_lengths_8 (by decide) ?_
    refine lv_iconst (v := 0) hx hb d_La_lengths_15 (by decide) ?_
    refine W.widen (k := 40) (n := 200) (Nat.le_of_ble_eq_true rfl) (Nat.le_of_ble_eq_true rfl) ?_
    exact W.iret (v := 0) hx hb hr (fun t9 ht9 hW9 => ⟨⟨0, w9, rfl, Or.inl ⟨rfl, ew9⟩, eWo ht9 hI⟩, hS.F ht9⟩) hS.2.2 d_La_lengths_16
set_option maxHeartbeats 4000000 in
set_option maxRecDepth 100000 in
theorem m_La_mode (l : Launch) (G : EG) (S0 : Nat) (w : hp_M) (x : Nat) (a1 : Int32) (a2 : Int32) (a3 : UInt64) (fs : List Value) (hob : w x = some (.inr (3, fs))) (post : hp_M → Prop) (px : String → hp_M → Prop) (hcon : vx_Met l y_Ea_mode w_Ea_mode (rl 22 40 200) (eP G S0 w [.ref x, .int a1, .int a2, .double a3]) (va_Qv post (eW G S0) (hp_A S0)) (eX G S0 px) 40 200 (hp_A S0)) (hpx : ∀ E z, px E z → E = iae) : Met l y_La_mode w_La_mode (rl 23 40 200) (eP2 G S0 w [.ref x, .int a1, .int a2, .double a3]) (va_Qi (fun r z => (r = 0 ∧ post z) ∨ (r = 1 ∧ px iae z)) (eW G S0) (hp_A S0)) 40 200 (hp_A S0) := by
  refine mt_ofWH (cc := b_La_mode) (maxL := 6) (ret := (some .int)) (hh := h_La_mode) (by decide) rfl ?_
  intro p e s m args below meth c s₁ B hml hv
  obtain ⟨rfl, ⟨hE, hI, hz⟩, hNc⟩ := hv
  have htab := vx_table (x := y_La_mode) B (atoms_spec (ws := w_La_mode) B.pre _ List.mem_cons_self)
  have hx := B.exec
  have hb := B.bytes
  have hr := B.returns
  have hts := atoms_spec (ws := w_La_mode) B.pre
  have hg : ∀ w ∈ gw, w.before _ s = true := fun w h => hts w (List.mem_cons_of_mem _ h)
  have hown : s.vm.findClass "SceneEaselLaw" = some m.cls := findClass_of_methodNamed B.named
  have hlocks := B.notSynchronized
  have hK := hE.K
  have hS : va_S (hp_A S0) s.heap s.heap [] := va_S.rf
  have hl := lv_entry ([.ref x, .int a1, .int a2, .double a3]) (n := 6) (Nat.le_of_ble_eq_true rfl)
  rw [lg_entry_eq]
  generalize (lg_sl ([.ref x, .int a1, .int a2, .double a3]) ++ List.replicate (6 - (lg_sl ([.ref x, .int a1, .int a2, .double a3])).length) Slot.unset).toArray = ls at hl ⊢
  have hl : lv_has ls 6 [(0, .ref x), (1, .int a1), (2, .int a2), (3, .double a3)] := hl
  refine lv_aload_n hx hb d_La_mode_0 rfl (lv_at hl 0 rfl) ?_
  refine lv_iload_n hx hb d_La_mode_1 rfl (lv_at hl 1 rfl) ?_
  refine lv_iload_n hx hb d_La_mode_2 rfl (lv_at hl 2 rfl) ?_
  refine lv_dload_n hx hb d_La_mode_3 rfl (lv_at hl 3 rfl) ?_
  refine xc_v (vx_runV (As := [.int a1, .int a2, .double a3]) (rest := []) ⟨hx, hb, hml, hown, hts⟩ (hcon) (cwV 3 hts (gw_V k_506 k_507 k_508 k_60 k_509) rfl rfl rfl (by decide +kernel) ⟨Nat.le_of_ble_eq_true rfl, Nat.le_of_ble_eq_true rfl⟩) (eB.preV hE hI hS hz rfl hob) rfl rfl hl.1 rfl (lv_room (Nat.le_of_ble_eq_true rfl)) d_La_mode_4 ⟨Nat.le_of_ble_eq_true rfl, Nat.le_of_ble_eq_true rfl⟩) hS ?_ (fun w9 H locs ew9 hI hsz hS => ?_)
  · intro E9 ce9 q9 u9 H9 locs9 hpx9 hI hsz9 hS g1 g2 g3
    have eE := hpx E9 u9 hpx9
    subst eE
    refine vx_catch hown [] (⟨0, 7, 10, 13⟩) [] htab (fun z hz => absurd hz List.not_mem_nil) rfl (by decide) (hg _ k_290) (hE.N q_306) g1 g2 g3 ?_
    dsimp only
    refine lv_astore (lv' := [(5, .ref q9), (0, .ref x), (1, .int a1), (2, .int a2), (3, .double a3)]) hx hb d_La_mode_10 hl (by decide) rfl (fun ls hl => ?_)
    refine lv_iconst (v := 1) hx hb d_La_mode_12 (by decide) ?_
    refine W.widen (k := 40) (n := 200) (Nat.le_of_ble_eq_true rfl) (Nat.le_of_ble_eq_true rfl) ?_
    exact W.iret (v := 1) hx hb hr (fun t9 ht9 hW9 => ⟨⟨1, u9, rfl, Or.inr ⟨rfl, hpx9⟩, eWo ht9 hI⟩, hS.F ht9⟩) hS.2.2 d_La_mode_13
  · refine lv_goto (tgt := 14) hx hb d_La_mode_7 (by decide) ?_
    refine lv_iconst (v := 0) hx hb d_La_mode_14 (by decide) ?_
    refine W.widen (k := 40) (n := 200) (Nat.le_of_ble_eq_true rfl) (Nat.le_of_ble_eq_true rfl) ?_
    exact W.iret (v := 0) hx hb hr (fun t9 ht9 hW9 => ⟨⟨0, w9, rfl, Or.inl ⟨rfl, ew9⟩, eWo ht9 hI⟩, hS.F ht9⟩) hS.2.2 d_La_mode_15
set_option maxHeartbeats 4000000 in
set_option maxRecDepth 100000 in
theorem m_La_node (l : Launch) (G : EG) (S0 : Nat) (w : hp_M) (x : Nat) (a1 : Int32) (a2 : Int32) (a3 : Int32) (fs : List Value) (hob : w x = some (.inr (3, fs))) (post : Int32 → hp_M → Prop) (px : String → hp_M → Prop) (oa : Nat) (fo : Nat → Int64) (hoa : ∀ v u, post v u → u oa = some (aJ G fo)) (hcon : vx_Met l y_Ea_node w_Ea_node (rl 22 40 200) (eP G S0 w [.ref x, .int a1, .int a2, .int a3]) (va_Qi post (eW G S0) (hp_A S0)) (eX G S0 px) 40 200 (hp_A S0)) (hpx : ∀ E z, px E z → E = iae ∨ E = ise) : Met l y_La_node w_La_node (rl 23 40 200) (eP2 G S0 w [.ref x, .int a1, .int a2, .int a3, .ref oa]) (va_Qi (fun r z => (r = 0 ∧ ∃ v u, post v u ∧ z = hp_set u oa (aJ G (vp_updL fo 0 v.toInt64))) ∨ (r = 1 ∧ px iae z) ∨ (r = 2 ∧ px ise z)) (eW G S0) (hp_A S0)) 40 200 (hp_A S0) := by
  refine mt_ofWH (cc := b_La_node) (maxL := 6) (ret := (some .int)) (hh := h_La_node) (by decide) rfl ?_
  intro p e s m args below meth c s₁ B hml hv
  obtain ⟨rfl, ⟨hE, hI, hz⟩, hNc⟩ := hv
  have htab := vx_table (x := y_La_node) B (atoms_spec (ws := w_La_node) B.pre _ List.mem_cons_self)
  have hx := B.exec
  have hb := B.bytes
  have hr := B.returns
  have hts := atoms_spec (ws := w_La_node) B.pre
  have hg : ∀ w ∈ gw, w.before _ s = true := fun w h => hts w (List.mem_cons_of_mem _ h)
  have hown : s.vm.findClass "SceneEaselLaw" = some m.cls := findClass_of_methodNamed B.named
  have hlocks := B.notSynchronized
  have hK := hE.K
  have hS : va_S (hp_A S0) s.heap s.heap [] := va_S.rf
  have hl := lv_entry ([.ref x, .int a1, .int a2, .int a3, .ref oa]) (n := 6) (Nat.le_of_ble_eq_true rfl)
  rw [lg_entry_eq]
  generalize (lg_sl ([.ref x, .int a1, .int a2, .int a3, .ref oa]) ++ List.replicate (6 - (lg_sl ([.ref x, .int a1, .int a2, .int a3, .ref oa])).length) Slot.unset).toArray = ls at hl ⊢
  have hl : lv_has ls 6 [(0, .ref x), (1, .int a1), (2, .int a2), (3, .int a3), (4, .ref oa)] := hl
  refine lv_aload hx hb d_La_node_0 (lv_at hl 4 rfl) ?_
  refine lv_iconst (v := 0) hx hb d_La_node_2 (by decide) ?_
  refine lv_aload_n hx hb d_La_node_3 rfl (lv_at hl 0 rfl) ?_
  refine lv_iload_n hx hb d_La_node_4 rfl (lv_at hl 1 rfl) ?_
  refine lv_iload_n hx hb d_La_node_5 rfl (lv_at hl 2 rfl) ?_
  refine lv_iload_n hx hb d_La_node_6 rfl (lv_at hl 3 rfl) ?_
  refine xc_i (vx_runV (As := [.int a1, .int a2, .int a3]) (rest := [.int 0, .ref oa]) ⟨hx, hb, hml, hown, hts⟩ (hcon) (cwV 3 hts (gw_V k_292 k_293 k_294 k_60 k_295) rfl rfl rfl (by decide +kernel) ⟨Nat.le_of_ble_eq_true rfl, Nat.le_of_ble_eq_true rfl⟩) (eB.preV hE hI hS hz rfl hob) rfl rfl hl.1 rfl (lv_room (Nat.le_of_ble_eq_true rfl)) d_La_node_7 ⟨Nat.le_of_ble_eq_true rfl, Nat.le_of_ble_eq_true rfl⟩) hS ?_ (fun rv9 w9 H locs ew9 hI hsz hS => ?_)
  · intro E9 ce9 q9 u9 H9 locs9 hpx9 hI hsz9 hS g1 g2 g3
    rcases hpx E9 u9 hpx9 with eE | eE
    · subst eE
      refine vx_catch hown [] (⟨0, 12, 15, 13⟩) [⟨0, 12, 19, 15⟩] htab (fun z hz => absurd hz List.not_mem_nil) rfl (by decide) (hg _ k_290) (hE.N q_306) g1 g2 g3 ?_
      dsimp only
      refine lv_astore (lv' := [(5, .ref q9), (0, .ref x), (1, .int a1), (2, .int a2), (3, .int a3), (4, .ref oa)]) hx hb d_La_node_15 hl (by decide) rfl (fun ls hl => ?_)
      refine lv_iconst (v := 1) hx hb d_La_node_17 (by decide) ?_
      refine W.widen (k := 40) (n := 200) (Nat.le_of_ble_eq_true rfl) (Nat.le_of_ble_eq_true rfl) ?_
      exact W.iret (v := 1) hx hb hr (fun t9 ht9 hW9 => ⟨⟨1, u9, rfl, Or.inr (Or.inl ⟨rfl, hpx9⟩), eWo ht9 hI⟩, hS.F ht9⟩) hS.2.2 d_La_node_18
    · subst eE
      refine vx_catch hown [⟨0, 12, 15, 13⟩] (⟨0, 12, 19, 15⟩) [] htab (fun z hz => by rw [List.mem_singleton.mp hz]; exact Or.inr ⟨by decide, iae, hg _ k_290, hNc.1⟩) rfl (by decide) (hg _ k_291) (hE.N q_383) g1 g2 g3 ?_
      dsimp only
      refine lv_astore (lv' := [(5, .ref q9), (0, .ref x), (1, .int a1), (2, .int a2), (3, .int a3), (4, .ref oa)]) hx hb d_La_node_19 hl (by decide) rfl (fun ls hl => ?_)
      refine lv_iconst (v := 2) hx hb d_La_node_21 (by decide) ?_
      refine W.widen (k := 40) (n := 200) (Nat.le_of_ble_eq_true rfl) (Nat.le_of_ble_eq_true rfl) ?_
      exact W.iret (v := 2) hx hb hr (fun t9 ht9 hW9 => ⟨⟨2, u9, rfl, Or.inr (Or.inr ⟨rfl, hpx9⟩), eWo ht9 hI⟩, hS.F ht9⟩) hS.2.2 d_La_node_22
  · have hoa0 := hoa _ _ ew9
    refine lv_i2l hx hb d_La_node_10 rfl ?_
    refine hp_last hx hb hK hI hS 3 hoa0 rfl (vp_in_nI (n := 0) (by decide) (by decide)) d_La_node_11 (fun H locs hI hS hsz => ?_)
    obtain ⟨f_1, ef_1⟩ : ∃ z9, z9 = vp_updL fo (0 : Int32).toNatClampNeg (rv9).toInt64 := ⟨_, rfl⟩
    rw [← ef_1] at hI
    obtain ⟨w_2, ew_2⟩ : ∃ z9, z9 = hp_set w9 oa (.inl (G.2.2.1 3, 1, .inr (.inl f_1))) := ⟨_, rfl⟩
    have hI : eI G S0 w_2 H := by rw [ew_2]; exact hI
    have hoa0 : w_2 oa = some (.inl (G.2.2.1 3, 1, .inr (.inl f_1))) := by rw [ew_2]; exact hp_set_eq _ _ _
    refine lv_goto (tgt := 23) hx hb d_La_node_12 (by decide) ?_
    refine lv_iconst (v := 0) hx hb d_La_node_23 (by decide) ?_
    refine W.widen (k := 40) (n := 200) (Nat.le_of_ble_eq_true rfl) (Nat.le_of_ble_eq_true rfl) ?_
    exact W.iret (v := 0) hx hb hr (fun t9 ht9 hW9 => ⟨⟨0, w_2, rfl, Or.inl ⟨rfl, rv9, w9, ew9, by rw [ew_2, ef_1]; rfl⟩, eWo ht9 hI⟩, hS.F ht9⟩) hS.2.2 d_La_node_24
set_option maxHeartbeats 4000000 in
set_option maxRecDepth 100000 in
theorem m_La_paint (l : Launch) (G : EG) (S0 : Nat) (w : hp_M) (x : Nat) (a1 : UInt64) (fs : List Value) (hob : w x = some (.inr (3, fs))) (post : Int32 → hp_M → Prop) (px : String → hp_M → Prop) (oa : Nat) (fo : Nat → Int64) (hoa : ∀ v u, post v u → u oa = some (aJ G fo)) (hcon : vx_Met l y_Ea_paint w_Ea_paint (rl 22 40 200) (eP G S0 w [.ref x, .double a1]) (va_Qi post (eW G S0) (hp_A S0)) (eX G S0 px) 40 200 (hp_A S0)) (hpx : ∀ E z, px E z → E = iae) : Met l y_La_paint w_La_paint (rl 23 40 200) (eP2 G S0 w [.ref x, .double a1, .ref oa]) (va_Qi (fun r z => (r = 0 ∧ ∃ v u, post v u ∧ z = hp_set u oa (aJ G (vp_updL fo 0 v.toInt64))) ∨ (r = 1 ∧ px iae z)) (eW G S0) (hp_A S0)) 40 200 (hp_A S0) := by
  refine mt_ofWH (cc := b_La_paint) (maxL := 5) (ret := (some .int)) (hh := h_La_paint) (by decide) rfl ?_
  intro p e s m args below meth c s₁ B hml hv
  obtain ⟨rfl, ⟨hE, hI, hz⟩, hNc⟩ := hv
  have htab := vx_table (x := y_La_paint) B (atoms_spec (ws := w_La_paint) B.pre _ List.mem_cons_self)
  have hx := B.exec
  have hb := B.bytes
  have hr := B.returns
  have hts := atoms_spec (ws := w_La_paint) B.pre
  have hg : ∀ w ∈ gw, w.before _ s = true := fun w h => hts w (List.mem_cons_of_mem _ h)
  have hown : s.vm.findClass "SceneEaselLaw" = some m.cls := findClass_of_methodNamed B.named
  have hlocks := B.notSynchronized
  have hK := hE.K
  have hS : va_S (hp_A S0) s.heap s.heap [] := va_S.rf
  have hl := lv_entry ([.ref x, .double a1, .ref oa]) (n := 5) (Nat.le_of_ble_eq_true rfl)
  rw [lg_entry_eq]
  generalize (lg_sl ([.ref x, .double a1, .ref oa]) ++ List.replicate (5 - (lg_sl ([.ref x, .double a1, .ref oa])).length) Slot.unset).toArray = ls at hl ⊢
  have hl : lv_has ls 5 [(0, .ref x), (1, .double a1), (3, .ref oa)] := hl
  refine lv_aload_n hx hb d_La_paint_0 rfl (lv_at hl 2 rfl) ?_
  refine lv_iconst (v := 0) hx hb d_La_paint_1 (by decide) ?_
  refine lv_aload_n hx hb d_La_paint_2 rfl (lv_at hl 0 rfl) ?_
  refine lv_dload_n hx hb d_La_paint_3 rfl (lv_at hl 1 rfl) ?_
  refine xc_i (vx_runV (As := [.double a1]) (rest := [.int 0, .ref oa]) ⟨hx, hb, hml, hown, hts⟩ (hcon) (cwV 1 hts (gw_V k_625 k_626 k_627 k_60 k_628) rfl rfl rfl (by decide +kernel) ⟨Nat.le_of_ble_eq_true rfl, Nat.le_of_ble_eq_true rfl⟩) (eB.preV hE hI hS hz rfl hob) rfl rfl hl.1 rfl (lv_room (Nat.le_of_ble_eq_true rfl)) d_La_paint_4 ⟨Nat.le_of_ble_eq_true rfl, Nat.le_of_ble_eq_true rfl⟩) hS ?_ (fun rv9 w9 H locs ew9 hI hsz hS => ?_)
  · intro E9 ce9 q9 u9 H9 locs9 hpx9 hI hsz9 hS g1 g2 g3
    have eE := hpx E9 u9 hpx9
    subst eE
    refine vx_catch hown [] (⟨0, 9, 12, 13⟩) [] htab (fun z hz => absurd hz List.not_mem_nil) rfl (by decide) (hg _ k_290) (hE.N q_306) g1 g2 g3 ?_
    dsimp only
    refine lv_astore (lv' := [(4, .ref q9), (0, .ref x), (1, .double a1), (3, .ref oa)]) hx hb d_La_paint_12 hl (by decide) rfl (fun ls hl => ?_)
    refine lv_iconst (v := 1) hx hb d_La_paint_14 (by decide) ?_
    refine W.widen (k := 40) (n := 200) (Nat.le_of_ble_eq_true rfl) (Nat.le_of_ble_eq_true rfl) ?_
    exact W.iret (v := 1) hx hb hr (fun t9 ht9 hW9 => ⟨⟨1, u9, rfl, Or.inr ⟨rfl, hpx9⟩, eWo ht9 hI⟩, hS.F ht9⟩) hS.2.2 d_La_paint_15
  · have hoa0 := hoa _ _ ew9
    refine lv_i2l hx hb d_La_paint_7 rfl ?_
    refine hp_last hx hb hK hI hS 3 hoa0 rfl (vp_in_nI (n := 0) (by decide) (by decide)) d_La_paint_8 (fun H locs hI hS hsz => ?_)
    obtain ⟨f_1, ef_1⟩ : ∃ z9, z9 = vp_updL fo (0 : Int32).toNatClampNeg (rv9).toInt64 := ⟨_, rfl⟩
    rw [← ef_1] at hI
    obtain ⟨w_2, ew_2⟩ : ∃ z9, z9 = hp_set w9 oa (.inl (G.2.2.1 3, 1, .inr (.inl f_1))) := ⟨_, rfl⟩
    have hI : eI G S0 w_2 H := by rw [ew_2]; exact hI
    have hoa0 : w_2 oa = some (.inl (G.2.2.1 3, 1, .inr (.inl f_1))) := by rw [ew_2]; exact hp_set_eq _ _ _
    refine lv_goto (tgt := 16) hx hb d_La_paint_9 (by decide) ?_
    refine lv_iconst (v := 0) hx hb d_La_paint_16 (by decide) ?_
    refine W.widen (k := 40) (n := 200) (Nat.le_of_ble_eq_true rfl) (Nat.le_of_ble_eq_true rfl) ?_
    exact W.iret (v := 0) hx hb hr (fun t9 ht9 hW9 => ⟨⟨0, w_2, rfl, Or.inl ⟨rfl, rv9, w9, ew9, by rw [ew_2, ef_1]; rfl⟩, eWo ht9 hI⟩, hS.F ht9⟩) hS.2.2 d_La_paint_17
set_option maxHeartbeats 4000000 in
set_option maxRecDepth 100000 in
theorem m_La_place (l : Launch) (G : EG) (S0 : Nat) (w : hp_M) (x : Nat) (a1 : Int32) (a2 : UInt64) (a3 : UInt64) (fs : List Value) (hob : w x = some (.inr (3, fs))) (post : hp_M → Prop) (px : String → hp_M → Prop) (hcon : vx_Met l y_Ea_place w_Ea_place (rl 22 40 200) (eP G S0 w [.ref x, .int a1, .double a2, .double a3]) (va_Qv post (eW G S0) (hp_A S0)) (eX G S0 px) 40 200 (hp_A S0)) (hpx : ∀ E z, px E z → E = iae) : Met l y_La_place w_La_place (rl 23 40 200) (eP2 G S0 w [.ref x, .int a1, .double a2, .double a3]) (va_Qi (fun r z => (r = 0 ∧ post z) ∨ (r = 1 ∧ px iae z)) (eW G S0) (hp_A S0)) 40 200 (hp_A S0) := by
  refine mt_ofWH (cc := b_La_place) (maxL := 7) (ret := (some .int)) (hh := h_La_place) (by decide) rfl ?_
  intro p e s m args below meth c s₁ B hml hv
  obtain ⟨rfl, ⟨hE, hI, hz⟩, hNc⟩ := hv
  have htab := vx_table (x := y_La_place) B (atoms_spec (ws := w_La_place) B.pre _ List.mem_cons_self)
  have hx := B.exec
  have hb := B.bytes
  have hr := B.returns
  have hts := atoms_spec (ws := w_La_place) B.pre
  have hg : ∀ w ∈ gw, w.before _ s = true := fun w h => hts w (List.mem_cons_of_mem _ h)
  have hown : s.vm.findClass "SceneEaselLaw" = some m.cls := findClass_of_methodNamed B.named
  have hlocks := B.notSynchronized
  have hK := hE.K
  have hS : va_S (hp_A S0) s.heap s.heap [] := va_S.rf
  have hl := lv_entry ([.ref x, .int a1, .double a2, .double a3]) (n := 7) (Nat.le_of_ble_eq_true rfl)
  rw [lg_entry_eq]
  generalize (lg_sl ([.ref x, .int a1, .double a2, .double a3]) ++ List.replicate (7 - (lg_sl ([.ref x, .int a1, .double a2, .double a3])).length) Slot.unset).toArray = ls at hl ⊢
  have hl : lv_has ls 7 [(0, .ref x), (1, .int a1), (2, .double a2), (4, .double a3)] := hl
  refine lv_aload_n hx hb d_La_place_0 rfl (lv_at hl 0 rfl) ?_
  refine lv_iload_n hx hb d_La_place_1 rfl (lv_at hl 1 rfl) ?_
  refine lv_dload_n hx hb d_La_place_2 rfl (lv_at hl 2 rfl) ?_
  refine lv_dload hx hb d_La_place_3 (lv_at hl 3 rfl) ?_
  refine xc_v (vx_runV (As := [.int a1, .double a2, .double a3]) (rest := []) ⟨hx, hb, hml, hown, hts⟩ (hcon) (cwV 3 hts (gw_V k_483 k_484 k_485 k_60 k_486) rfl rfl rfl (by decide +kernel) ⟨Nat.le_of_ble_eq_true rfl, Nat.le_of_ble_eq_true rfl⟩) (eB.preV hE hI hS hz rfl hob) rfl rfl hl.1 rfl (lv_room (Nat.le_of_ble_eq_true rfl)) d_La_place_5 ⟨Nat.le_of_ble_eq_true rfl, Nat.le_of_ble_eq_true rfl⟩) hS ?_ (fun w9 H locs ew9 hI hsz hS => ?_)
  · intro E9 ce9 q9 u9 H9 locs9 hpx9 hI hsz9 hS g1 g2 g3
    have eE := hpx E9 u9 hpx9
    subst eE
    refine vx_catch hown [] (⟨0, 8, 11, 13⟩) [] htab (fun z hz => absurd hz List.not_mem_nil) rfl (by decide) (hg _ k_290) (hE.N q_306) g1 g2 g3 ?_
    dsimp only
    refine lv_astore (lv' := [(6, .ref q9), (0, .ref x), (1, .int a1), (2, .double a2), (4, .double a3)]) hx hb d_La_place_11 hl (by decide) rfl (fun ls hl => ?_)
    refine lv_iconst (v := 1) hx hb d_La_place_13 (by decide) ?_
    refine W.widen (k := 40) (n := 200) (Nat.le_of_ble_eq_true rfl) (Nat.le_of_ble_eq_true rfl) ?_
    exact W.iret (v := 1) hx hb hr (fun t9 ht9 hW9 => ⟨⟨1, u9, rfl, Or.inr ⟨rfl, hpx9⟩, eWo ht9 hI⟩, hS.F ht9⟩) hS.2.2 d_La_place_14
  · refine lv_goto (tgt := 15) hx hb d_La_place_8 (by decide) ?_
    refine lv_iconst (v := 0) hx hb d_La_place_15 (by decide) ?_
    refine W.widen (k := 40) (n := 200) (Nat.le_of_ble_eq_true rfl) (Nat.le_of_ble_eq_true rfl) ?_
    exact W.iret (v := 0) hx hb hr (fun t9 ht9 hW9 => ⟨⟨0, w9, rfl, Or.inl ⟨rfl, ew9⟩, eWo ht9 hI⟩, hS.F ht9⟩) hS.2.2 d_La_place_16
set_option maxHeartbeats 4000000 in
set_option maxRecDepth 100000 in
theorem m_La_remove (l : Launch) (G : EG) (S0 : Nat) (w : hp_M) (x : Nat) (a1 : Int32) (fs : List Value) (hob : w x = some (.inr (3, fs))) (post : Int32 → hp_M → Prop) (px : String → hp_M → Prop) (oa : Nat) (fo : Nat → Int64) (hoa : ∀ v u, post v u → u oa = some (aJ G fo)) (hcon : vx_Met l y_Ea_remove w_Ea_remove (rl 22 40 200) (eP G S0 w [.ref x, .int a1]) (va_Qi post (eW G S0) (hp_A S0)) (eX G S0 px) 40 200 (hp_A S0)) (hpx : ∀ E z, px E z → E = iae) : Met l y_La_remove w_La_remove (rl 23 40 200) (eP2 G S0 w [.ref x, .int a1, .ref oa]) (va_Qi (fun r z => (r = 0 ∧ ∃ v u, post v u ∧ z = hp_set u oa (aJ G (vp_updL fo 0 v.toInt64))) ∨ (r = 1 ∧ px iae z)) (eW G S0) (hp_A S0)) 40 200 (hp_A S0) := by
  refine mt_ofWH (cc := b_La_remove) (maxL := 4) (ret := (some .int)) (hh := h_La_remove) (by decide) rfl ?_
  intro p e s m args below meth c s₁ B hml hv
  obtain ⟨rfl, ⟨hE, hI, hz⟩, hNc⟩ := hv
  have htab := vx_table (x := y_La_remove) B (atoms_spec (ws := w_La_remove) B.pre _ List.mem_cons_self)
  have hx := B.exec
  have hb := B.bytes
  have hr := B.returns
  have hts := atoms_spec (ws := w_La_remove) B.pre
  have hg : ∀ w ∈ gw, w.before _ s = true := fun w h => hts w (List.mem_cons_of_mem _ h)
  have hown : s.vm.findClass "SceneEaselLaw" = some m.cls := findClass_of_methodNamed B.named
  have hlocks := B.notSynchronized
  have hK := hE.K
  have hS : va_S (hp_A S0) s.heap s.heap [] := va_S.rf
  have hl := lv_entry ([.ref x, .int a1, .ref oa]) (n := 4) (Nat.le_of_ble_eq_true rfl)
  rw [lg_entry_eq]
  generalize (lg_sl ([.ref x, .int a1, .ref oa]) ++ List.replicate (4 - (lg_sl ([.ref x, .int a1, .ref oa])).length) Slot.unset).toArray = ls at hl ⊢
  have hl : lv_has ls 4 [(0, .ref x), (1, .int a1), (2, .ref oa)] := hl
  refine lv_aload_n hx hb d_La_remove_0 rfl (lv_at hl 2 rfl) ?_
  refine lv_iconst (v := 0) hx hb d_La_remove_1 (by decide) ?_
  refine lv_aload_n hx hb d_La_remove_2 rfl (lv_at hl 0 rfl) ?_
  refine lv_iload_n hx hb d_La_remove_3 rfl (lv_at hl 1 rfl) ?_
  refine xc_i (vx_runV (As := [.int a1]) (rest := [.int 0, .ref oa]) ⟨hx, hb, hml, hown, hts⟩ (hcon) (cwV 1 hts (gw_V k_618 k_619 k_620 k_60 k_621) rfl rfl rfl (by decide +kernel) ⟨Nat.le_of_ble_eq_true rfl, Nat.le_of_ble_eq_true rfl⟩) (eB.preV hE hI hS hz rfl hob) rfl rfl hl.1 rfl (lv_room (Nat.le_of_ble_eq_true rfl)) d_La_remove_4 ⟨Nat.le_of_ble_eq_true rfl, Nat.le_of_ble_eq_true rfl⟩) hS ?_ (fun rv9 w9 H locs ew9 hI hsz hS => ?_)
  · intro E9 ce9 q9 u9 H9 locs9 hpx9 hI hsz9 hS g1 g2 g3
    have eE := hpx E9 u9 hpx9
    subst eE
    refine vx_catch hown [] (⟨0, 9, 12, 13⟩) [] htab (fun z hz => absurd hz List.not_mem_nil) rfl (by decide) (hg _ k_290) (hE.N q_306) g1 g2 g3 ?_
    dsimp only
    refine lv_astore_n (lv' := [(3, .ref q9), (0, .ref x), (1, .int a1), (2, .ref oa)]) hx hb d_La_remove_12 rfl hl (by decide) rfl (fun ls hl => ?_)
    refine lv_iconst (v := 1) hx hb d_La_remove_13 (by decide) ?_
    refine W.widen (k := 40) (n := 200) (Nat.le_of_ble_eq_true rfl) (Nat.le_of_ble_eq_true rfl) ?_
    exact W.iret (v := 1) hx hb hr (fun t9 ht9 hW9 => ⟨⟨1, u9, rfl, Or.inr ⟨rfl, hpx9⟩, eWo ht9 hI⟩, hS.F ht9⟩) hS.2.2 d_La_remove_14
  · have hoa0 := hoa _ _ ew9
    refine lv_i2l hx hb d_La_remove_7 rfl ?_
    refine hp_last hx hb hK hI hS 3 hoa0 rfl (vp_in_nI (n := 0) (by decide) (by decide)) d_La_remove_8 (fun H locs hI hS hsz => ?_)
    obtain ⟨f_1, ef_1⟩ : ∃ z9, z9 = vp_updL fo (0 : Int32).toNatClampNeg (rv9).toInt64 := ⟨_, rfl⟩
    rw [← ef_1] at hI
    obtain ⟨w_2, ew_2⟩ : ∃ z9, z9 = hp_set w9 oa (.inl (G.2.2.1 3, 1, .inr (.inl f_1))) := ⟨_, rfl⟩
    have hI : eI G S0 w_2 H := by rw [ew_2]; exact hI
    have hoa0 : w_2 oa = some (.inl (G.2.2.1 3, 1, .inr (.inl f_1))) := by rw [ew_2]; exact hp_set_eq _ _ _
    refine lv_goto (tgt := 15) hx hb d_La_remove_9 (by decide) ?_
    refine lv_iconst (v := 0) hx hb d_La_remove_15 (by decide) ?_
    refine W.widen (k := 40) (n := 200) (Nat.le_of_ble_eq_true rfl) (Nat.le_of_ble_eq_true rfl) ?_
    exact W.iret (v := 0) hx hb hr (fun t9 ht9 hW9 => ⟨⟨0, w_2, rfl, Or.inl ⟨rfl, rv9, w9, ew9, by rw [ew_2, ef_1]; rfl⟩, eWo ht9 hI⟩, hS.F ht9⟩) hS.2.2 d_La_remove_16
set_option maxHeartbeats 4000000 in
set_option maxRecDepth 100000 in
theorem m_La_told (l : Launch) (G : EG) (S0 : Nat) (w : hp_M) (x : Nat) (a1 : Int32) (a2 : Int32) (fs : List Value) (hob : w x = some (.inr (3, fs))) (post : Int32 → hp_M → Prop) (px : String → hp_M → Prop) (oa : Nat) (fo : Nat → Int64) (hoa : ∀ v u, post v u → u oa = some (aJ G fo)) (hcon : vx_Met l y_Ea_told w_Ea_told (rl 22 40 200) (eP G S0 w [.ref x, .int a1, .int a2]) (va_Qi post (eW G S0) (hp_A S0)) (eX G S0 px) 40 200 (hp_A S0)) (hpx : ∀ E z, px E z → E = iae) : Met l y_La_told w_La_told (rl 23 40 200) (eP2 G S0 w [.ref x, .int a1, .int a2, .ref oa]) (va_Qi (fun r z => (r = 0 ∧ ∃ v u, post v u ∧ z = hp_set u oa (aJ G (vp_updL fo 0 v.toInt64))) ∨ (r = 1 ∧ px iae z)) (eW G S0) (hp_A S0)) 40 200 (hp_A S0) := by
  refine mt_ofWH (cc := b_La_told) (maxL := 5) (ret := (some .int)) (hh := h_La_told) (by decide) rfl ?_
  intro p e s m args below meth c s₁ B hml hv
  obtain ⟨rfl, ⟨hE, hI, hz⟩, hNc⟩ := hv
  have htab := vx_table (x := y_La_told) B (atoms_spec (ws := w_La_told) B.pre _ List.mem_cons_self)
  have hx := B.exec
  have hb := B.bytes
  have hr := B.returns
  have hts := atoms_spec (ws := w_La_told) B.pre
  have hg : ∀ w ∈ gw, w.before _ s = true := fun w h => hts w (List.mem_cons_of_mem _ h)
  have hown : s.vm.findClass "SceneEaselLaw" = some m.cls := findClass_of_methodNamed B.named
  have hlocks := B.notSynchronized
  have hK := hE.K
  have hS : va_S (hp_A S0) s.heap s.heap [] := va_S.rf
  have hl := lv_entry ([.ref x, .int a1, .int a2, .ref oa]) (n := 5) (Nat.le_of_ble_eq_true rfl)
  rw [lg_entry_eq]
  generalize (lg_sl ([.ref x, .int a1, .int a2, .ref oa]) ++ List.replicate (5 - (lg_sl ([.ref x, .int a1, .int a2, .ref oa])).length) Slot.unset).toArray = ls at hl ⊢
  have hl : lv_has ls 5 [(0, .ref x), (1, .int a1), (2, .int a2), (3, .ref oa)] := hl
  refine lv_aload_n hx hb d_La_told_0 rfl (lv_at hl 3 rfl) ?_
  refine lv_iconst (v := 0) hx hb d_La_told_1 (by decide) ?_
  refine lv_aload_n hx hb d_La_told_2 rfl (lv_at hl 0 rfl) ?_
  refine lv_iload_n hx hb d_La_told_3 rfl (lv_at hl 1 rfl) ?_
  refine lv_iload_n hx hb d_La_told_4 rfl (lv_at hl 2 rfl) ?_
  refine xc_i (vx_runV (As := [.int a1, .int a2]) (rest := [.int 0, .ref oa]) ⟨hx, hb, hml, hown, hts⟩ (hcon) (cwV 2 hts (gw_V k_757 k_758 k_759 k_60 k_760) rfl rfl rfl (by decide +kernel) ⟨Nat.le_of_ble_eq_true rfl, Nat.le_of_ble_eq_true rfl⟩) (eB.preV hE hI hS hz rfl hob) rfl rfl hl.1 rfl (lv_room (Nat.le_of_ble_eq_true rfl)) d_La_told_5 ⟨Nat.le_of_ble_eq_true rfl, Nat.le_of_ble_eq_true rfl⟩) hS ?_ (fun rv9 w9 H locs ew9 hI hsz hS => ?_)
  · intro E9 ce9 q9 u9 H9 locs9 hpx9 hI hsz9 hS g1 g2 g3
    have eE := hpx E9 u9 hpx9
    subst eE
    refine vx_catch hown [] (⟨0, 10, 13, 13⟩) [] htab (fun z hz => absurd hz List.not_mem_nil) rfl (by decide) (hg _ k_290) (hE.N q_306) g1 g2 g3 ?_
    dsimp only
    refine lv_astore (lv' := [(4, .ref q9), (0, .ref x), (1, .int a1), (2, .int a2), (3, .ref oa)]) hx hb d_La_told_13 hl (by decide) rfl (fun ls hl => ?_)
    refine lv_iconst (v := 1) hx hb d_La_told_15 (by decide) ?_
    refine W.widen (k := 40) (n := 200) (Nat.le_of_ble_eq_true rfl) (Nat.le_of_ble_eq_true rfl) ?_
    exact W.iret (v := 1) hx hb hr (fun t9 ht9 hW9 => ⟨⟨1, u9, rfl, Or.inr ⟨rfl, hpx9⟩, eWo ht9 hI⟩, hS.F ht9⟩) hS.2.2 d_La_told_16
  · have hoa0 := hoa _ _ ew9
    refine lv_i2l hx hb d_La_told_8 rfl ?_
    refine hp_last hx hb hK hI hS 3 hoa0 rfl (vp_in_nI (n := 0) (by decide) (by decide)) d_La_told_9 (fun H locs hI hS hsz => ?_)
    obtain ⟨f_1, ef_1⟩ : ∃ z9, z9 = vp_updL fo (0 : Int32).toNatClampNeg (rv9).toInt64 := ⟨_, rfl⟩
    rw [← ef_1] at hI
    obtain ⟨w_2, ew_2⟩ : ∃ z9, z9 = hp_set w9 oa (.inl (G.2.2.1 3, 1, .inr (.inl f_1))) := ⟨_, rfl⟩
    have hI : eI G S0 w_2 H := by rw [ew_2]; exact hI
    have hoa0 : w_2 oa = some (.inl (G.2.2.1 3, 1, .inr (.inl f_1))) := by rw [ew_2]; exact hp_set_eq _ _ _
    refine lv_goto (tgt := 17) hx hb d_La_told_10 (by decide) ?_
    refine lv_iconst (v := 0) hx hb d_La_told_17 (by decide) ?_
    refine W.widen (k := 40) (n := 200) (Nat.le_of_ble_eq_true rfl) (Nat.le_of_ble_eq_true rfl) ?_
    exact W.iret (v := 0) hx hb hr (fun t9 ht9 hW9 => ⟨⟨0, w_2, rfl, Or.inl ⟨rfl, rv9, w9, ew9, by rw [ew_2, ef_1]; rfl⟩, eWo ht9 hI⟩, hS.F ht9⟩) hS.2.2 d_La_told_18
set_option maxHeartbeats 4000000 in
set_option maxRecDepth 100000 in
theorem m_La_top (l : Launch) (G : EG) (S0 : Nat) (w : hp_M) (x : Nat) (a1 : UInt64) (a2 : UInt64) (a3 : UInt64) (fs : List Value) (hob : w x = some (.inr (3, fs))) (post : Int32 → hp_M → Prop) (px : String → hp_M → Prop) (oa : Nat) (fo : Nat → Int64) (hoa : ∀ v u, post v u → u oa = some (aJ G fo)) (hcon : vx_Met l y_Ea_top w_Ea_top (rl 22 40 200) (eP G S0 w [.ref x, .double a1, .double a2, .double a3]) (va_Qi post (eW G S0) (hp_A S0)) (eX G S0 px) 40 200 (hp_A S0)) (hpx : ∀ E z, px E z → E = iae ∨ E = nse) : Met l y_La_top w_La_top (rl 23 40 200) (eP2 G S0 w [.ref x, .double a1, .double a2, .double a3, .ref oa]) (va_Qi (fun r z => (r = 0 ∧ ∃ v u, post v u ∧ z = hp_set u oa (aJ G (vp_updL fo 0 v.toInt64))) ∨ (r = 1 ∧ px iae z) ∨ (r = 2 ∧ px nse z)) (eW G S0) (hp_A S0)) 40 200 (hp_A S0) := by
  refine mt_ofWH (cc := b_La_top) (maxL := 9) (ret := (some .int)) (hh := h_La_top) (by decide) rfl ?_
  intro p e s m args below meth c s₁ B hml hv
  obtain ⟨rfl, ⟨hE, hI, hz⟩, hNc⟩ := hv
  have htab := vx_table (x := y_La_top) B (atoms_spec (ws := w_La_top) B.pre _ List.mem_cons_self)
  have hx := B.exec
  have hb := B.bytes
  have hr := B.returns
  have hts := atoms_spec (ws := w_La_top) B.pre
  have hg : ∀ w ∈ gw, w.before _ s = true := fun w h => hts w (List.mem_cons_of_mem _ h)
  have hown : s.vm.findClass "SceneEaselLaw" = some m.cls := findClass_of_methodNamed B.named
  have hlocks := B.notSynchronized
  have hK := hE.K
  have hS : va_S (hp_A S0) s.heap s.heap [] := va_S.rf
  have hl := lv_entry ([.ref x, .double a1, .double a2, .double a3, .ref oa]) (n := 9) (Nat.le_of_ble_eq_true rfl)
  rw [lg_entry_eq]
  generalize (lg_sl ([.ref x, .double a1, .double a2, .double a3, .ref oa]) ++ List.replicate (9 - (lg_sl ([.ref x, .double a1, .double a2, .double a3, .ref oa])).length) Slot.unset).toArray = ls at hl ⊢
  have hl : lv_has ls 9 [(0, .ref x), (1, .double a1), (3, .double a2), (5, .double a3), (7, .ref oa)] := hl
  refine lv_aload hx hb d_La_top_0 (lv_at hl 4 rfl) ?_
  refine lv_iconst (v := 0) hx hb d_La_top_2 (by decide) ?_
  refine lv_aload_n hx hb d_La_top_3 rfl (lv_at hl 0 rfl) ?_
  refine lv_dload_n hx hb d_La_top_4 rfl (lv_at hl 1 rfl) ?_
  refine lv_dload_n hx hb d_La_top_5 rfl (lv_at hl 2 rfl) ?_
  refine lv_dload hx hb d_La_top_6 (lv_at hl 3 rfl) ?_
  refine xc_i (vx_runV (As := [.double a1, .double a2, .double a3]) (rest := [.int 0, .ref oa]) ⟨hx, hb, hml, hown, hts⟩ (hcon) (cwV 3 hts (gw_V k_697 k_698 k_699 k_60 k_700) rfl rfl rfl (by decide +kernel) ⟨Nat.le_of_ble_eq_true rfl, Nat.le_of_ble_eq_true rfl⟩) (eB.preV hE hI hS hz rfl hob) rfl rfl hl.1 rfl (lv_room (Nat.le_of_ble_eq_true rfl)) d_La_top_8 ⟨Nat.le_of_ble_eq_true rfl, Nat.le_of_ble_eq_true rfl⟩) hS ?_ (fun rv9 w9 H locs ew9 hI hsz hS => ?_)
  · intro E9 ce9 q9 u9 H9 locs9 hpx9 hI hsz9 hS g1 g2 g3
    rcases hpx E9 u9 hpx9 with eE | eE
    · subst eE
      refine vx_catch hown [] (⟨0, 13, 16, 13⟩) [⟨0, 13, 20, 44⟩] htab (fun z hz => absurd hz List.not_mem_nil) rfl (by decide) (hg _ k_290) (hE.N q_306) g1 g2 g3 ?_
      dsimp only
      refine lv_astore (lv' := [(8, .ref q9), (0, .ref x), (1, .double a1), (3, .double a2), (5, .double a3), (7, .ref oa)]) hx hb d_La_top_16 hl (by decide) rfl (fun ls hl => ?_)
      refine lv_iconst (v := 1) hx hb d_La_top_18 (by decide) ?_
      refine W.widen (k := 40) (n := 200) (Nat.le_of_ble_eq_true rfl) (Nat.le_of_ble_eq_true rfl) ?_
      exact W.iret (v := 1) hx hb hr (fun t9 ht9 hW9 => ⟨⟨1, u9, rfl, Or.inr (Or.inl ⟨rfl, hpx9⟩), eWo ht9 hI⟩, hS.F ht9⟩) hS.2.2 d_La_top_19
    · subst eE
      refine vx_catch hown [⟨0, 13, 16, 13⟩] (⟨0, 13, 20, 44⟩) [] htab (fun z hz => by rw [List.mem_singleton.mp hz]; exact Or.inr ⟨by decide, iae, hg _ k_290, hNc.2⟩) rfl (by decide) (hg _ k_547) (hE.N q_554) g1 g2 g3 ?_
      dsimp only
      refine lv_astore (lv' := [(8, .ref q9), (0, .ref x), (1, .double a1), (3, .double a2), (5, .double a3), (7, .ref oa)]) hx hb d_La_top_20 hl (by decide) rfl (fun ls hl => ?_)
      refine lv_iconst (v := 2) hx hb d_La_top_22 (by decide) ?_
      refine W.widen (k := 40) (n := 200) (Nat.le_of_ble_eq_true rfl) (Nat.le_of_ble_eq_true rfl) ?_
      exact W.iret (v := 2) hx hb hr (fun t9 ht9 hW9 => ⟨⟨2, u9, rfl, Or.inr (Or.inr ⟨rfl, hpx9⟩), eWo ht9 hI⟩, hS.F ht9⟩) hS.2.2 d_La_top_23
  · have hoa0 := hoa _ _ ew9
    refine lv_i2l hx hb d_La_top_11 rfl ?_
    refine hp_last hx hb hK hI hS 3 hoa0 rfl (vp_in_nI (n := 0) (by decide) (by decide)) d_La_top_12 (fun H locs hI hS hsz => ?_)
    obtain ⟨f_1, ef_1⟩ : ∃ z9, z9 = vp_updL fo (0 : Int32).toNatClampNeg (rv9).toInt64 := ⟨_, rfl⟩
    rw [← ef_1] at hI
    obtain ⟨w_2, ew_2⟩ : ∃ z9, z9 = hp_set w9 oa (.inl (G.2.2.1 3, 1, .inr (.inl f_1))) := ⟨_, rfl⟩
    have hI : eI G S0 w_2 H := by rw [ew_2]; exact hI
    have hoa0 : w_2 oa = some (.inl (G.2.2.1 3, 1, .inr (.inl f_1))) := by rw [ew_2]; exact hp_set_eq _ _ _
    refine lv_goto (tgt := 24) hx hb d_La_top_13 (by decide) ?_
    refine lv_iconst (v := 0) hx hb d_La_top_24 (by decide) ?_
    refine W.widen (k := 40) (n := 200) (Nat.le_of_ble_eq_true rfl) (Nat.le_of_ble_eq_true rfl) ?_
    exact W.iret (v := 0) hx hb hr (fun t9 ht9 hW9 => ⟨⟨0, w_2, rfl, Or.inl ⟨rfl, rv9, w9, ew9, by rw [ew_2, ef_1]; rfl⟩, eWo ht9 hI⟩, hS.F ht9⟩) hS.2.2 d_La_top_25
set_option maxHeartbeats 4000000 in
set_option maxRecDepth 100000 in
theorem m_La_unkey (l : Launch) (G : EG) (S0 : Nat) (w : hp_M) (x : Nat) (a1 : Int32) (a2 : Int32) (fs : List Value) (hob : w x = some (.inr (3, fs))) (post : hp_M → Prop) (px : String → hp_M → Prop) (hcon : vx_Met l y_Ea_unkey w_Ea_unkey (rl 22 40 200) (eP G S0 w [.ref x, .int a1, .int a2]) (va_Qv post (eW G S0) (hp_A S0)) (eX G S0 px) 40 200 (hp_A S0)) (hpx : ∀ E z, px E z → E = iae ∨ E = nse) : Met l y_La_unkey w_La_unkey (rl 23 40 200) (eP2 G S0 w [.ref x, .int a1, .int a2]) (va_Qi (fun r z => (r = 0 ∧ post z) ∨ (r = 1 ∧ px iae z) ∨ (r = 2 ∧ px nse z)) (eW G S0) (hp_A S0)) 40 200 (hp_A S0) := by
  refine mt_ofWH (cc := b_La_unkey) (maxL := 4) (ret := (some .int)) (hh := h_La_unkey) (by decide) rfl ?_
  intro p e s m args below meth c s₁ B hml hv
  obtain ⟨rfl, ⟨hE, hI, hz⟩, hNc⟩ := hv
  have htab := vx_table (x := y_La_unkey) B (atoms_spec (ws := w_La_unkey) B.pre _ List.mem_cons_self)
  have hx := B.exec
  have hb := B.bytes
  have hr := B.returns
  have hts := atoms_spec (ws := w_La_unkey) B.pre
  have hg : ∀ w ∈ gw, w.before _ s = true := fun w h => hts w (List.mem_cons_of_mem _ h)
  have hown : s.vm.findClass "SceneEaselLaw" = some m.cls := findClass_of_methodNamed B.named
  have hlocks := B.notSynchronized
  have hK := hE.K
  have hS : va_S (hp_A S0) s.heap s.heap [] := va_S.rf
  have hl := lv_entry ([.ref x, .int a1, .int a2]) (n := 4) (Nat.le_of_ble_eq_true rfl)
  rw [lg_entry_eq]
  generalize (lg_sl ([.ref x, .int a1, .int a2]) ++ List.replicate (4 - (lg_sl ([.ref x, .int a1, .int a2])).length) Slot.unset).toArray = ls at hl ⊢
  have hl : lv_has ls 4 [(0, .ref x), (1, .int a1), (2, .int a2)] := hl
  refine lv_aload_n hx hb d_La_unkey_0 rfl (lv_at hl 0 rfl) ?_
  refine lv_iload_n hx hb d_La_unkey_1 rfl (lv_at hl 1 rfl) ?_
  refine lv_iload_n hx hb d_La_unkey_2 rfl (lv_at hl 2 rfl) ?_
  refine xc_v (vx_runV (As := [.int a1, .int a2]) (rest := []) ⟨hx, hb, hml, hown, hts⟩ (hcon) (cwV 2 hts (gw_V k_548 k_549 k_550 k_60 k_551) rfl rfl rfl (by decide +kernel) ⟨Nat.le_of_ble_eq_true rfl, Nat.le_of_ble_eq_true rfl⟩) (eB.preV hE hI hS hz rfl hob) rfl rfl hl.1 rfl (lv_room (Nat.le_of_ble_eq_true rfl)) d_La_unkey_3 ⟨Nat.le_of_ble_eq_true rfl, Nat.le_of_ble_eq_true rfl⟩) hS ?_ (fun w9 H locs ew9 hI hsz hS => ?_)
  · intro E9 ce9 q9 u9 H9 locs9 hpx9 hI hsz9 hS g1 g2 g3
    rcases hpx E9 u9 hpx9 with eE | eE
    · subst eE
      refine vx_catch hown [] (⟨0, 6, 9, 13⟩) [⟨0, 6, 12, 44⟩] htab (fun z hz => absurd hz List.not_mem_nil) rfl (by decide) (hg _ k_290) (hE.N q_306) g1 g2 g3 ?_
      dsimp only
      refine lv_astore_n (lv' := [(3, .ref q9), (0, .ref x), (1, .int a1), (2, .int a2)]) hx hb d_La_unkey_9 rfl hl (by decide) rfl (fun ls hl => ?_)
      refine lv_iconst (v := 1) hx hb d_La_unkey_10 (by decide) ?_
      refine W.widen (k := 40) (n := 200) (Nat.le_of_ble_eq_true rfl) (Nat.le_of_ble_eq_true rfl) ?_
      exact W.iret (v := 1) hx hb hr (fun t9 ht9 hW9 => ⟨⟨1, u9, rfl, Or.inr (Or.inl ⟨rfl, hpx9⟩), eWo ht9 hI⟩, hS.F ht9⟩) hS.2.2 d_La_unkey_11
    · subst eE
      refine vx_catch hown [⟨0, 6, 9, 13⟩] (⟨0, 6, 12, 44⟩) [] htab (fun z hz => by rw [List.mem_singleton.mp hz]; exact Or.inr ⟨by decide, iae, hg _ k_290, hNc.2⟩) rfl (by decide) (hg _ k_547) (hE.N q_554) g1 g2 g3 ?_
      dsimp only
      refine lv_astore_n (lv' := [(3, .ref q9), (0, .ref x), (1, .int a1), (2, .int a2)]) hx hb d_La_unkey_12 rfl hl (by decide) rfl (fun ls hl => ?_)
      refine lv_iconst (v := 2) hx hb d_La_unkey_13 (by decide) ?_
      refine W.widen (k := 40) (n := 200) (Nat.le_of_ble_eq_true rfl) (Nat.le_of_ble_eq_true rfl) ?_
      exact W.iret (v := 2) hx hb hr (fun t9 ht9 hW9 => ⟨⟨2, u9, rfl, Or.inr (Or.inr ⟨rfl, hpx9⟩), eWo ht9 hI⟩, hS.F ht9⟩) hS.2.2 d_La_unkey_14
  · refine lv_goto (tgt := 15) hx hb d_La_unkey_6 (by decide) ?_
    refine lv_iconst (v := 0) hx hb d_La_unkey_15 (by decide) ?_
    refine W.widen (k := 40) (n := 200) (Nat.le_of_ble_eq_true rfl) (Nat.le_of_ble_eq_true rfl) ?_
    exact W.iret (v := 0) hx hb hr (fun t9 ht9 hW9 => ⟨⟨0, w9, rfl, Or.inl ⟨rfl, ew9⟩, eWo ht9 hI⟩, hS.F ht9⟩) hS.2.2 d_La_unkey_16

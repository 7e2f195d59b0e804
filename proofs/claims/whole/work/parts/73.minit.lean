/-! a new model -/
def dp0 : Nat → Nat := fun _ => 0
def x0 : XS := (fun _ _ => 0, fun _ _ => FP.dconst0, 0, 0, 0)
theorem t0_ok : tOk d0 dp0 := d0_ok
def qL (L : List Nat) : Nat → Nat := fun j => L.getD j 0
theorem qL_inj {L : List Nat} (hn : L.Nodup) (hl : L.length = 26) : qInj (qL L) := by
  intro i j hi hj e
  have e : L.getD i 0 = L.getD j 0 := e
  rw [List.getD_eq_getElem?_getD, List.getD_eq_getElem?_getD, List.getElem?_eq_getElem (by omega), List.getElem?_eq_getElem (by omega)] at e
  exact (List.getElem?_inj (by omega) hn).mp (by rw [List.getElem?_eq_getElem (by omega), List.getElem?_eq_getElem (by omega)]; exact congrArg some e)
theorem not_in {x y : Nat} {L : List Nat} (h1 : x ≠ y) (h2 : x ∉ L) : x ∉ y :: L := fun h => (List.mem_cons.mp h).elim h1 h2
theorem mN.d0 {f0 f6 : Nat → Int32} {f14 : Nat → UInt64} (h0 : f0 = upd (fun _ => 0) 0 1) (h6 : f6 = upd (fun _ => 0) 0 (-1)) (h14 : f14 = vf_upd (fun _ => FP.dconst0) 0 FP.dconst1) : mN (xsD (xsI (xsI x0 0 f0) 6 f6) 14 f14) d0 := by
  refine ⟨fun k hk => ?_, fun k hk ht => ?_⟩
  · show f0 k = _
    rw [h0]
    by_cases e : k = 0
    · rw [e]; rfl
    · rw [upd_n e]
      show 0 = bI (decide (k = 0))
      rw [decide_eq_false e]
      rfl
  · have e : k = 0 := of_decide_eq_true ht
    subst e
    refine ⟨rfl, rfl, rfl, rfl, ?_, rfl, fun i h => absurd h (Nat.not_lt_zero i), fun i hi => ⟨rfl, Nat.zero_le _⟩, ?_, fun h => absurd rfl h, fun i j _ h => absurd h (Nat.not_lt_zero j)⟩
    · show f6 0 = _
      rw [h6]
      exact upd_y
    · show f14 0 = _
      rw [h14]
      exact vup_y
set_option maxHeartbeats 16000000 in
set_option maxRecDepth 100000 in
theorem m_Mo_init (l : Launch) (G : EG) (S0 : Nat) (w : hp_M) (a : Nat) (ha : w a = some (.inr (5, [.null, .null, .null, .null, .null, .null, .null, .null, .null, .null, .null, .null, .null, .null, .null, .null, .null, .null, .null, .null, .null, .null, .null, .null, .null, .int 0, .int 0, .int 0]))) : Met l y_Mo_init w_Mo_init (rl 1 25 1300) (eP G S0 w [.ref a]) (va_Qv (fun z => ∃ Q X, Q 25 = a ∧ qInj Q ∧ z = mW G Q X w ∧ mP X d0 dp0 ∧ ∀ j, j < 25 → w (Q j) = none) (eW G S0) (hp_A S0)) 25 1300 (hp_A S0) := by
  refine Met.ofW (cc := b_Mo_init) (maxL := 1) (ret := none) (by decide) rfl ?_
  intro p e s m args below meth c s₁ B hml hv
  obtain ⟨rfl, hE, hI, hz⟩ := hv
  have hx := B.exec
  have hb := B.bytes
  have hr := B.returns
  have hts := atoms_spec (ws := w_Mo_init) B.pre
  have hg : ∀ w ∈ gw, w.before _ s = true := fun w h => hts w (List.mem_cons_of_mem _ h)
  have hown : s.vm.findClass "SceneEaselModel" = some m.cls := findClass_of_methodNamed B.named
  have hlocks := B.notSynchronized
  have hK := hE.K
  have hin : meth.name = "<init>" := (name_of_methodNamed B.named B.method).1
  have hS : va_S (hp_A S0) s.heap s.heap [] := va_S.rf
  have hl := lv_entry ([.ref a]) (n := 1) (Nat.le_of_ble_eq_true rfl)
  rw [lg_entry_eq]
  generalize (lg_sl ([.ref a]) ++ List.replicate (1 - (lg_sl ([.ref a])).length) Slot.unset).toArray = ls at hl ⊢
  have hl : lv_has ls 1 [(0, .ref a)] := hl
  have fr0 : ∀ b x, w b = some x → b ≠ a → w b = some x := fun b x h _ => h
  refine lv_aload_n hx hb d_Mo_init_0 rfl (lv_at hl 0 rfl) ?_
  refine W.objInit hx hb hown (hg _ k_768) (hg _ k_86) (hg _ k_87) rfl (hl.1.trans hml.symm) rfl d_Mo_init_1 (Nat.le_of_ble_eq_true rfl) (Nat.le_of_ble_eq_true rfl) ?_
  refine lv_aload_n hx hb d_Mo_init_4 rfl (lv_at hl 0 rfl) ?_
  refine lv_bipush (v := 14) hx hb d_Mo_init_5 (by decide) ?_
  refine hp_newa (atype := .boolean) (N' := 14) (a0 := (14, .inl (fun _ => 0))) hx hb (hg _ k_858) rfl hK hI hS hz 2 rfl (fun _ h => by cases h) (fun _ => rfl) (by decide) (by decide) (by decide) (Nat.le_of_ble_eq_true rfl) (Nat.le_of_ble_eq_true rfl) d_Mo_init_7 (fun A0 H hn_A0 hs_A0 hz_A0 hI hS => ?_)
  obtain ⟨w_1, ew_1⟩ : ∃ z9, z9 = hp_set w A0 (.inl (G.2.2.1 2, 14, .inl (fun _ => 0))) := ⟨_, rfl⟩
  have hI : eI G S0 w_1 H := by rw [ew_1]; exact hI
  have ne_ha_A0 := hp_ne_n ha hn_A0
  have ha : w_1 a = some (.inr (5, [.null, .null, .null, .null, .null, .null, .null, .null, .null, .null, .null, .null, .null, .null, .null, .null, .null, .null, .null, .null, .null, .null, .null, .null, .null, .int 0, .int 0, .int 0])) := by rw [ew_1, hp_set_ne ne_ha_A0]; exact ha
  have hA0 : w_1 A0 = some (.inl (G.2.2.1 2, 14, .inl (fun _ => 0))) := by rw [ew_1]; exact hp_set_eq _ _ _
  have nA0 : a ≠ A0 := ne_ha_A0
  have wA0 : w A0 = none := by
    cases hw : w A0 with
    | none => rfl
    | some x => rw [fr0 A0 x hw (Ne.symm nA0)] at hn_A0; cases hn_A0
  refine hp_putF (ci := 5) (v := .ref A0) (ty := .array .boolean) (C := R_Mo) (T := F_Mo) (N := 28) hx hb hg i_Mo t_Mo t_Mo_ok n_Mo hown hK hI hS ha rfl 0 (by decide) (hg _ k_773) (fun _ h9 => h9) rfl hin rfl (by decide +kernel) rfl rfl (Nat.le_of_ble_eq_true rfl) d_Mo_init_9 (fun H locs hI hS hsz => ?_)
  obtain ⟨w_2, ew_2⟩ : ∃ z9, z9 = hp_set w_1 a (.inr (5, [.ref A0, .null, .null, .null, .null, .null, .null, .null, .null, .null, .null, .null, .null, .null, .null, .null, .null, .null, .null, .null, .null, .null, .null, .null, .null, .int 0, .int 0, .int 0])) := ⟨_, rfl⟩
  have hI : eI G S0 w_2 H := by rw [ew_2]; exact hI
  have hA0 : w_2 A0 = some (.inl (G.2.2.1 2, 14, .inl (fun _ => 0))) := by rw [ew_2, hp_set_ne (hp_ne_ao hA0 ha)]; exact hA0
  have ha : w_2 a = some (.inr (5, [.ref A0, .null, .null, .null, .null, .null, .null, .null, .null, .null, .null, .null, .null, .null, .null, .null, .null, .null, .null, .null, .null, .null, .null, .null, .null, .int 0, .int 0, .int 0])) := by rw [ew_2]; exact hp_set_eq _ _ _
  refine lv_aload_n hx hb d_Mo_init_12 rfl (lv_at hl 0 rfl) ?_
  refine lv_bipush (v := 14) hx hb d_Mo_init_13 (by decide) ?_
  have fr1 : ∀ b x, w b = some x → b ≠ a → w_2 b = some x := fun b x hb9 hba => by
    rw [ew_2, hp_set_ne hba, ew_1, hp_set_ne (hp_ne_n hb9 wA0)]
    exact fr0 b x hb9 hba
  refine hp_newa (atype := .boolean) (N' := 14) (a0 := (14, .inl (fun _ => 0))) hx hb (hg _ k_858) rfl hK hI hS hz 2 rfl (fun _ h => by cases h) (fun _ => rfl) (by decide) (by decide) (by decide) (Nat.le_of_ble_eq_true rfl) (Nat.le_of_ble_eq_true rfl) d_Mo_init_15 (fun A1 H hn_A1 hs_A1 hz_A1 hI hS => ?_)
  obtain ⟨w_3, ew_3⟩ : ∃ z9, z9 = hp_set w_2 A1 (.inl (G.2.2.1 2, 14, .inl (fun _ => 0))) := ⟨_, rfl⟩
  have hI : eI G S0 w_3 H := by rw [ew_3]; exact hI
  have ne_ha_A1 := hp_ne_n ha hn_A1
  have ha : w_3 a = some (.inr (5, [.ref A0, .null, .null, .null, .null, .null, .null, .null, .null, .null, .null, .null, .null, .null, .null, .null, .null, .null, .null, .null, .null, .null, .null, .null, .null, .int 0, .int 0, .int 0])) := by rw [ew_3, hp_set_ne ne_ha_A1]; exact ha
  have ne_hA0_A1 := hp_ne_n hA0 hn_A1
  have hA0 : w_3 A0 = some (.inl (G.2.2.1 2, 14, .inl (fun _ => 0))) := by rw [ew_3, hp_set_ne ne_hA0_A1]; exact hA0
  have hA1 : w_3 A1 = some (.inl (G.2.2.1 2, 14, .inl (fun _ => 0))) := by rw [ew_3]; exact hp_set_eq _ _ _
  have nA1 : a ≠ A1 := ne_ha_A1
  have n0_1 : A0 ≠ A1 := ne_hA0_A1
  have wA1 : w A1 = none := by
    cases hw : w A1 with
    | none => rfl
    | some x => rw [fr1 A1 x hw (Ne.symm nA1)] at hn_A1; cases hn_A1
  refine hp_putF (ci := 5) (v := .ref A1) (ty := .array .boolean) (C := R_Mo) (T := F_Mo) (N := 28) hx hb hg i_Mo t_Mo t_Mo_ok n_Mo hown hK hI hS ha rfl 1 (by decide) (hg _ k_774) (fun _ h9 => h9) rfl hin rfl (by decide +kernel) rfl rfl (Nat.le_of_ble_eq_true rfl) d_Mo_init_17 (fun H locs hI hS hsz => ?_)
  obtain ⟨w_4, ew_4⟩ : ∃ z9, z9 = hp_set w_3 a (.inr (5, [.ref A0, .ref A1, .null, .null, .null, .null, .null, .null, .null, .null, .null, .null, .null, .null, .null, .null, .null, .null, .null, .null, .null, .null, .null, .null, .null, .int 0, .int 0, .int 0])) := ⟨_, rfl⟩
  have hI : eI G S0 w_4 H := by rw [ew_4]; exact hI
  have hA0 : w_4 A0 = some (.inl (G.2.2.1 2, 14, .inl (fun _ => 0))) := by rw [ew_4, hp_set_ne (hp_ne_ao hA0 ha)]; exact hA0
  have hA1 : w_4 A1 = some (.inl (G.2.2.1 2, 14, .inl (fun _ => 0))) := by rw [ew_4, hp_set_ne (hp_ne_ao hA1 ha)]; exact hA1
  have ha : w_4 a = some (.inr (5, [.ref A0, .ref A1, .null, .null, .null, .null, .null, .null, .null, .null, .null, .null, .null, .null, .null, .null, .null, .null, .null, .null, .null, .null, .null, .null, .null, .int 0, .int 0, .int 0])) := by rw [ew_4]; exact hp_set_eq _ _ _
  refine lv_aload_n hx hb d_Mo_init_20 rfl (lv_at hl 0 rfl) ?_
  refine lv_bipush (v := 14) hx hb d_Mo_init_21 (by decide) ?_
  have fr2 : ∀ b x, w b = some x → b ≠ a → w_4 b = some x := fun b x hb9 hba => by
    rw [ew_4, hp_set_ne hba, ew_3, hp_set_ne (hp_ne_n hb9 wA1)]
    exact fr1 b x hb9 hba
  refine hp_newa (atype := .boolean) (N' := 14) (a0 := (14, .inl (fun _ => 0))) hx hb (hg _ k_858) rfl hK hI hS hz 2 rfl (fun _ h => by cases h) (fun _ => rfl) (by decide) (by decide) (by decide) (Nat.le_of_ble_eq_true rfl) (Nat.le_of_ble_eq_true rfl) d_Mo_init_23 (fun A2 H hn_A2 hs_A2 hz_A2 hI hS => ?_)
  obtain ⟨w_5, ew_5⟩ : ∃ z9, z9 = hp_set w_4 A2 (.inl (G.2.2.1 2, 14, .inl (fun _ => 0))) := ⟨_, rfl⟩
  have hI : eI G S0 w_5 H := by rw [ew_5]; exact hI
  have ne_ha_A2 := hp_ne_n ha hn_A2
  have ha : w_5 a = some (.inr (5, [.ref A0, .ref A1, .null, .null, .null, .null, .null, .null, .null, .null, .null, .null, .null, .null, .null, .null, .null, .null, .null, .null, .null, .null, .null, .null, .null, .int 0, .int 0, .int 0])) := by rw [ew_5, hp_set_ne ne_ha_A2]; exact ha
  have ne_hA0_A2 := hp_ne_n hA0 hn_A2
  have hA0 : w_5 A0 = some (.inl (G.2.2.1 2, 14, .inl (fun _ => 0))) := by rw [ew_5, hp_set_ne ne_hA0_A2]; exact hA0
  have ne_hA1_A2 := hp_ne_n hA1 hn_A2
  have hA1 : w_5 A1 = some (.inl (G.2.2.1 2, 14, .inl (fun _ => 0))) := by rw [ew_5, hp_set_ne ne_hA1_A2]; exact hA1
  have hA2 : w_5 A2 = some (.inl (G.2.2.1 2, 14, .inl (fun _ => 0))) := by rw [ew_5]; exact hp_set_eq _ _ _
  have nA2 : a ≠ A2 := ne_ha_A2
  have n0_2 : A0 ≠ A2 := ne_hA0_A2
  have n1_2 : A1 ≠ A2 := ne_hA1_A2
  have wA2 : w A2 = none := by
    cases hw : w A2 with
    | none => rfl
    | some x => rw [fr2 A2 x hw (Ne.symm nA2)] at hn_A2; cases hn_A2
  refine hp_putF (ci := 5) (v := .ref A2) (ty := .array .boolean) (C := R_Mo) (T := F_Mo) (N := 28) hx hb hg i_Mo t_Mo t_Mo_ok n_Mo hown hK hI hS ha rfl 2 (by decide) (hg _ k_775) (fun _ h9 => h9) rfl hin rfl (by decide +kernel) rfl rfl (Nat.le_of_ble_eq_true rfl) d_Mo_init_25 (fun H locs hI hS hsz => ?_)
  obtain ⟨w_6, ew_6⟩ : ∃ z9, z9 = hp_set w_5 a (.inr (5, [.ref A0, .ref A1, .ref A2, .null, .null, .null, .null, .null, .null, .null, .null, .null, .null, .null, .null, .null, .null, .null, .null, .null, .null, .null, .null, .null, .null, .int 0, .int 0, .int 0])) := ⟨_, rfl⟩
  have hI : eI G S0 w_6 H := by rw [ew_6]; exact hI
  have hA0 : w_6 A0 = some (.inl (G.2.2.1 2, 14, .inl (fun _ => 0))) := by rw [ew_6, hp_set_ne (hp_ne_ao hA0 ha)]; exact hA0
  have hA1 : w_6 A1 = some (.inl (G.2.2.1 2, 14, .inl (fun _ => 0))) := by rw [ew_6, hp_set_ne (hp_ne_ao hA1 ha)]; exact hA1
  have hA2 : w_6 A2 = some (.inl (G.2.2.1 2, 14, .inl (fun _ => 0))) := by rw [ew_6, hp_set_ne (hp_ne_ao hA2 ha)]; exact hA2
  have ha : w_6 a = some (.inr (5, [.ref A0, .ref A1, .ref A2, .null, .null, .null, .null, .null, .null, .null, .null, .null, .null, .null, .null, .null, .null, .null, .null, .null, .null, .null, .null, .null, .null, .int 0, .int 0, .int 0])) := by rw [ew_6]; exact hp_set_eq _ _ _
  refine lv_aload_n hx hb d_Mo_init_28 rfl (lv_at hl 0 rfl) ?_
  refine lv_bipush (v := 14) hx hb d_Mo_init_29 (by decide) ?_
  have fr3 : ∀ b x, w b = some x → b ≠ a → w_6 b = some x := fun b x hb9 hba => by
    rw [ew_6, hp_set_ne hba, ew_5, hp_set_ne (hp_ne_n hb9 wA2)]
    exact fr2 b x hb9 hba
  refine hp_newa (atype := .boolean) (N' := 14) (a0 := (14, .inl (fun _ => 0))) hx hb (hg _ k_858) rfl hK hI hS hz 2 rfl (fun _ h => by cases h) (fun _ => rfl) (by decide) (by decide) (by decide) (Nat.le_of_ble_eq_true rfl) (Nat.le_of_ble_eq_true rfl) d_Mo_init_31 (fun A3 H hn_A3 hs_A3 hz_A3 hI hS => ?_)
  obtain ⟨w_7, ew_7⟩ : ∃ z9, z9 = hp_set w_6 A3 (.inl (G.2.2.1 2, 14, .inl (fun _ => 0))) := ⟨_, rfl⟩
  have hI : eI G S0 w_7 H := by rw [ew_7]; exact hI
  have ne_ha_A3 := hp_ne_n ha hn_A3
  have ha : w_7 a = some (.inr (5, [.ref A0, .ref A1, .ref A2, .null, .null, .null, .null, .null, .null, .null, .null, .null, .null, .null, .null, .null, .null, .null, .null, .null, .null, .null, .null, .null, .null, .int 0, .int 0, .int 0])) := by rw [ew_7, hp_set_ne ne_ha_A3]; exact ha
  have ne_hA0_A3 := hp_ne_n hA0 hn_A3
  have hA0 : w_7 A0 = some (.inl (G.2.2.1 2, 14, .inl (fun _ => 0))) := by rw [ew_7, hp_set_ne ne_hA0_A3]; exact hA0
  have ne_hA1_A3 := hp_ne_n hA1 hn_A3
  have hA1 : w_7 A1 = some (.inl (G.2.2.1 2, 14, .inl (fun _ => 0))) := by rw [ew_7, hp_set_ne ne_hA1_A3]; exact hA1
  have ne_hA2_A3 := hp_ne_n hA2 hn_A3
  have hA2 : w_7 A2 = some (.inl (G.2.2.1 2, 14, .inl (fun _ => 0))) := by rw [ew_7, hp_set_ne ne_hA2_A3]; exact hA2
  have hA3 : w_7 A3 = some (.inl (G.2.2.1 2, 14, .inl (fun _ => 0))) := by rw [ew_7]; exact hp_set_eq _ _ _
  have nA3 : a ≠ A3 := ne_ha_A3
  have n0_3 : A0 ≠ A3 := ne_hA0_A3
  have n1_3 : A1 ≠ A3 := ne_hA1_A3
  have n2_3 : A2 ≠ A3 := ne_hA2_A3
  have wA3 : w A3 = none := by
    cases hw : w A3 with
    | none => rfl
    | some x => rw [fr3 A3 x hw (Ne.symm nA3)] at hn_A3; cases hn_A3
  refine hp_putF (ci := 5) (v := .ref A3) (ty := .array .boolean) (C := R_Mo) (T := F_Mo) (N := 28) hx hb hg i_Mo t_Mo t_Mo_ok n_Mo hown hK hI hS ha rfl 3 (by decide) (hg _ k_776) (fun _ h9 => h9) rfl hin rfl (by decide +kernel) rfl rfl (Nat.le_of_ble_eq_true rfl) d_Mo_init_33 (fun H locs hI hS hsz => ?_)
  obtain ⟨w_8, ew_8⟩ : ∃ z9, z9 = hp_set w_7 a (.inr (5, [.ref A0, .ref A1, .ref A2, .ref A3, .null, .null, .null, .null, .null, .null, .null, .null, .null, .null, .null, .null, .null, .null, .null, .null, .null, .null, .null, .null, .null, .int 0, .int 0, .int 0])) := ⟨_, rfl⟩
  have hI : eI G S0 w_8 H := by rw [ew_8]; exact hI
  have hA0 : w_8 A0 = some (.inl (G.2.2.1 2, 14, .inl (fun _ => 0))) := by rw [ew_8, hp_set_ne (hp_ne_ao hA0 ha)]; exact hA0
  have hA1 : w_8 A1 = some (.inl (G.2.2.1 2, 14, .inl (fun _ => 0))) := by rw [ew_8, hp_set_ne (hp_ne_ao hA1 ha)]; exact hA1
  have hA2 : w_8 A2 = some (.inl (G.2.2.1 2, 14, .inl (fun _ => 0))) := by rw [ew_8, hp_set_ne (hp_ne_ao hA2 ha)]; exact hA2
  have hA3 : w_8 A3 = some (.inl (G.2.2.1 2, 14, .inl (fun _ => 0))) := by rw [ew_8, hp_set_ne (hp_ne_ao hA3 ha)]; exact hA3
  have ha : w_8 a = some (.inr (5, [.ref A0, .ref A1, .ref A2, .ref A3, .null, .null, .null, .null, .null, .null, .null, .null, .null, .null, .null, .null, .null, .null, .null, .null, .null, .null, .null, .null, .null, .int 0, .int 0, .int 0])) := by rw [ew_8]; exact hp_set_eq _ _ _
  refine lv_aload_n hx hb d_Mo_init_36 rfl (lv_at hl 0 rfl) ?_
  refine lv_bipush (v := 14) hx hb d_Mo_init_37 (by decide) ?_
  have fr4 : ∀ b x, w b = some x → b ≠ a → w_8 b = some x := fun b x hb9 hba => by
    rw [ew_8, hp_set_ne hba, ew_7, hp_set_ne (hp_ne_n hb9 wA3)]
    exact fr3 b x hb9 hba
  refine hp_newa (atype := .int) (N' := 14) (a0 := (14, .inl (fun _ => 0))) hx hb (hg _ k_121) rfl hK hI hS hz 0 rfl (fun _ h => by cases h) (fun _ => rfl) (by decide) (by decide) (by decide) (Nat.le_of_ble_eq_true rfl) (Nat.le_of_ble_eq_true rfl) d_Mo_init_39 (fun A4 H hn_A4 hs_A4 hz_A4 hI hS => ?_)
  obtain ⟨w_9, ew_9⟩ : ∃ z9, z9 = hp_set w_8 A4 (.inl (G.2.2.1 0, 14, .inl (fun _ => 0))) := ⟨_, rfl⟩
  have hI : eI G S0 w_9 H := by rw [ew_9]; exact hI
  have ne_ha_A4 := hp_ne_n ha hn_A4
  have ha : w_9 a = some (.inr (5, [.ref A0, .ref A1, .ref A2, .ref A3, .null, .null, .null, .null, .null, .null, .null, .null, .null, .null, .null, .null, .null, .null, .null, .null, .null, .null, .null, .null, .null, .int 0, .int 0, .int 0])) := by rw [ew_9, hp_set_ne ne_ha_A4]; exact ha
  have ne_hA0_A4 := hp_ne_n hA0 hn_A4
  have hA0 : w_9 A0 = some (.inl (G.2.2.1 2, 14, .inl (fun _ => 0))) := by rw [ew_9, hp_set_ne ne_hA0_A4]; exact hA0
  have ne_hA1_A4 := hp_ne_n hA1 hn_A4
  have hA1 : w_9 A1 = some (.inl (G.2.2.1 2, 14, .inl (fun _ => 0))) := by rw [ew_9, hp_set_ne ne_hA1_A4]; exact hA1
  have ne_hA2_A4 := hp_ne_n hA2 hn_A4
  have hA2 : w_9 A2 = some (.inl (G.2.2.1 2, 14, .inl (fun _ => 0))) := by rw [ew_9, hp_set_ne ne_hA2_A4]; exact hA2
  have ne_hA3_A4 := hp_ne_n hA3 hn_A4
  have hA3 : w_9 A3 = some (.inl (G.2.2.1 2, 14, .inl (fun _ => 0))) := by rw [ew_9, hp_set_ne ne_hA3_A4]; exact hA3
  have hA4 : w_9 A4 = some (.inl (G.2.2.1 0, 14, .inl (fun _ => 0))) := by rw [ew_9]; exact hp_set_eq _ _ _
  have nA4 : a ≠ A4 := ne_ha_A4
  have n0_4 : A0 ≠ A4 := ne_hA0_A4
  have n1_4 : A1 ≠ A4 := ne_hA1_A4
  have n2_4 : A2 ≠ A4 := ne_hA2_A4
  have n3_4 : A3 ≠ A4 := ne_hA3_A4
  have wA4 : w A4 = none := by
    cases hw : w A4 with
    | none => rfl
    | some x => rw [fr4 A4 x hw (Ne.symm nA4)] at hn_A4; cases hn_A4
  refine hp_putF (ci := 5) (v := .ref A4) (ty := .array .int) (C := R_Mo) (T := F_Mo) (N := 28) hx hb hg i_Mo t_Mo t_Mo_ok n_Mo hown hK hI hS ha rfl 4 (by decide) (hg _ k_777) (fun _ h9 => h9) rfl hin rfl (by decide +kernel) rfl rfl (Nat.le_of_ble_eq_true rfl) d_Mo_init_41 (fun H locs hI hS hsz => ?_)
  obtain ⟨w_10, ew_10⟩ : ∃ z9, z9 = hp_set w_9 a (.inr (5, [.ref A0, .ref A1, .ref A2, .ref A3, .ref A4, .null, .null, .null, .null, .null, .null, .null, .null, .null, .null, .null, .null, .null, .null, .null, .null, .null, .null, .null, .null, .int 0, .int 0, .int 0])) := ⟨_, rfl⟩
  have hI : eI G S0 w_10 H := by rw [ew_10]; exact hI
  have hA0 : w_10 A0 = some (.inl (G.2.2.1 2, 14, .inl (fun _ => 0))) := by rw [ew_10, hp_set_ne (hp_ne_ao hA0 ha)]; exact hA0
  have hA1 : w_10 A1 = some (.inl (G.2.2.1 2, 14, .inl (fun _ => 0))) := by rw [ew_10, hp_set_ne (hp_ne_ao hA1 ha)]; exact hA1
  have hA2 : w_10 A2 = some (.inl (G.2.2.1 2, 14, .inl (fun _ => 0))) := by rw [ew_10, hp_set_ne (hp_ne_ao hA2 ha)]; exact hA2
  have hA3 : w_10 A3 = some (.inl (G.2.2.1 2, 14, .inl (fun _ => 0))) := by rw [ew_10, hp_set_ne (hp_ne_ao hA3 ha)]; exact hA3
  have hA4 : w_10 A4 = some (.inl (G.2.2.1 0, 14, .inl (fun _ => 0))) := by rw [ew_10, hp_set_ne (hp_ne_ao hA4 ha)]; exact hA4
  have ha : w_10 a = some (.inr (5, [.ref A0, .ref A1, .ref A2, .ref A3, .ref A4, .null, .null, .null, .null, .null, .null, .null, .null, .null, .null, .null, .null, .null, .null, .null, .null, .null, .null, .null, .null, .int 0, .int 0, .int 0])) := by rw [ew_10]; exact hp_set_eq _ _ _
  refine lv_aload_n hx hb d_Mo_init_44 rfl (lv_at hl 0 rfl) ?_
  refine lv_bipush (v := 14) hx hb d_Mo_init_45 (by decide) ?_
  have fr5 : ∀ b x, w b = some x → b ≠ a → w_10 b = some x := fun b x hb9 hba => by
    rw [ew_10, hp_set_ne hba, ew_9, hp_set_ne (hp_ne_n hb9 wA4)]
    exact fr4 b x hb9 hba
  refine hp_newa (atype := .int) (N' := 14) (a0 := (14, .inl (fun _ => 0))) hx hb (hg _ k_121) rfl hK hI hS hz 0 rfl (fun _ h => by cases h) (fun _ => rfl) (by decide) (by decide) (by decide) (Nat.le_of_ble_eq_true rfl) (Nat.le_of_ble_eq_true rfl) d_Mo_init_47 (fun A5 H hn_A5 hs_A5 hz_A5 hI hS => ?_)
  obtain ⟨w_11, ew_11⟩ : ∃ z9, z9 = hp_set w_10 A5 (.inl (G.2.2.1 0, 14, .inl (fun _ => 0))) := ⟨_, rfl⟩
  have hI : eI G S0 w_11 H := by rw [ew_11]; exact hI
  have ne_ha_A5 := hp_ne_n ha hn_A5
  have ha : w_11 a = some (.inr (5, [.ref A0, .ref A1, .ref A2, .ref A3, .ref A4, .null, .null, .null, .null, .null, .null, .null, .null, .null, .null, .null, .null, .null, .null, .null, .null, .null, .null, .null, .null, .int 0, .int 0, .int 0])) := by rw [ew_11, hp_set_ne ne_ha_A5]; exact ha
  have ne_hA0_A5 := hp_ne_n hA0 hn_A5
  have hA0 : w_11 A0 = some (.inl (G.2.2.1 2, 14, .inl (fun _ => 0))) := by rw [ew_11, hp_set_ne ne_hA0_A5]; exact hA0
  have ne_hA1_A5 := hp_ne_n hA1 hn_A5
  have hA1 : w_11 A1 = some (.inl (G.2.2.1 2, 14, .inl (fun _ => 0))) := by rw [ew_11, hp_set_ne ne_hA1_A5]; exact hA1
  have ne_hA2_A5 := hp_ne_n hA2 hn_A5
  have hA2 : w_11 A2 = some (.inl (G.2.2.1 2, 14, .inl (fun _ => 0))) := by rw [ew_11, hp_set_ne ne_hA2_A5]; exact hA2
  have ne_hA3_A5 := hp_ne_n hA3 hn_A5
  have hA3 : w_11 A3 = some (.inl (G.2.2.1 2, 14, .inl (fun _ => 0))) := by rw [ew_11, hp_set_ne ne_hA3_A5]; exact hA3
  have ne_hA4_A5 := hp_ne_n hA4 hn_A5
  have hA4 : w_11 A4 = some (.inl (G.2.2.1 0, 14, .inl (fun _ => 0))) := by rw [ew_11, hp_set_ne ne_hA4_A5]; exact hA4
  have hA5 : w_11 A5 = some (.inl (G.2.2.1 0, 14, .inl (fun _ => 0))) := by rw [ew_11]; exact hp_set_eq _ _ _
  have nA5 : a ≠ A5 := ne_ha_A5
  have n0_5 : A0 ≠ A5 := ne_hA0_A5
  have n1_5 : A1 ≠ A5 := ne_hA1_A5
  have n2_5 : A2 ≠ A5 := ne_hA2_A5
  have n3_5 : A3 ≠ A5 := ne_hA3_A5
  have n4_5 : A4 ≠ A5 := ne_hA4_A5
  have wA5 : w A5 = none := by
    cases hw : w A5 with
    | none => rfl
    | some x => rw [fr5 A5 x hw (Ne.symm nA5)] at hn_A5; cases hn_A5
  refine hp_putF (ci := 5) (v := .ref A5) (ty := .array .int) (C := R_Mo) (T := F_Mo) (N := 28) hx hb hg i_Mo t_Mo t_Mo_ok n_Mo hown hK hI hS ha rfl 5 (by decide) (hg _ k_778) (fun _ h9 => h9) rfl hin rfl (by decide +kernel) rfl rfl (Nat.le_of_ble_eq_true rfl) d_Mo_init_49 (fun H locs hI hS hsz => ?_)
  obtain ⟨w_12, ew_12⟩ : ∃ z9, z9 = hp_set w_11 a (.inr (5, [.ref A0, .ref A1, .ref A2, .ref A3, .ref A4, .ref A5, .null, .null, .null, .null, .null, .null, .null, .null, .null, .null, .null, .null, .null, .null, .null, .null, .null, .null, .null, .int 0, .int 0, .int 0])) := ⟨_, rfl⟩
  have hI : eI G S0 w_12 H := by rw [ew_12]; exact hI
  have hA0 : w_12 A0 = some (.inl (G.2.2.1 2, 14, .inl (fun _ => 0))) := by rw [ew_12, hp_set_ne (hp_ne_ao hA0 ha)]; exact hA0
  have hA1 : w_12 A1 = some (.inl (G.2.2.1 2, 14, .inl (fun _ => 0))) := by rw [ew_12, hp_set_ne (hp_ne_ao hA1 ha)]; exact hA1
  have hA2 : w_12 A2 = some (.inl (G.2.2.1 2, 14, .inl (fun _ => 0))) := by rw [ew_12, hp_set_ne (hp_ne_ao hA2 ha)]; exact hA2
  have hA3 : w_12 A3 = some (.inl (G.2.2.1 2, 14, .inl (fun _ => 0))) := by rw [ew_12, hp_set_ne (hp_ne_ao hA3 ha)]; exact hA3
  have hA4 : w_12 A4 = some (.inl (G.2.2.1 0, 14, .inl (fun _ => 0))) := by rw [ew_12, hp_set_ne (hp_ne_ao hA4 ha)]; exact hA4
  have hA5 : w_12 A5 = some (.inl (G.2.2.1 0, 14, .inl (fun _ => 0))) := by rw [ew_12, hp_set_ne (hp_ne_ao hA5 ha)]; exact hA5
  have ha : w_12 a = some (.inr (5, [.ref A0, .ref A1, .ref A2, .ref A3, .ref A4, .ref A5, .null, .null, .null, .null, .null, .null, .null, .null, .null, .null, .null, .null, .null, .null, .null, .null, .null, .null, .null, .int 0, .int 0, .int 0])) := by rw [ew_12]; exact hp_set_eq _ _ _
  refine lv_aload_n hx hb d_Mo_init_52 rfl (lv_at hl 0 rfl) ?_
  refine lv_bipush (v := 14) hx hb d_Mo_init_53 (by decide) ?_
  have fr6 : ∀ b x, w b = some x → b ≠ a → w_12 b = some x := fun b x hb9 hba => by
    rw [ew_12, hp_set_ne hba, ew_11, hp_set_ne (hp_ne_n hb9 wA5)]
    exact fr5 b x hb9 hba
  refine hp_newa (atype := .int) (N' := 14) (a0 := (14, .inl (fun _ => 0))) hx hb (hg _ k_121) rfl hK hI hS hz 0 rfl (fun _ h => by cases h) (fun _ => rfl) (by decide) (by decide) (by decide) (Nat.le_of_ble_eq_true rfl) (Nat.le_of_ble_eq_true rfl) d_Mo_init_55 (fun A6 H hn_A6 hs_A6 hz_A6 hI hS => ?_)
  obtain ⟨w_13, ew_13⟩ : ∃ z9, z9 = hp_set w_12 A6 (.inl (G.2.2.1 0, 14, .inl (fun _ => 0))) := ⟨_, rfl⟩
  have hI : eI G S0 w_13 H := by rw [ew_13]; exact hI
  have ne_ha_A6 := hp_ne_n ha hn_A6
  have ha : w_13 a = some (.inr (5, [.ref A0, .ref A1, .ref A2, .ref A3, .ref A4, .ref A5, .null, .null, .null, .null, .null, .null, .null, .null, .null, .null, .null, .null, .null, .null, .null, .null, .null, .null, .null, .int 0, .int 0, .int 0])) := by rw [ew_13, hp_set_ne ne_ha_A6]; exact ha
  have ne_hA0_A6 := hp_ne_n hA0 hn_A6
  have hA0 : w_13 A0 = some (.inl (G.2.2.1 2, 14, .inl (fun _ => 0))) := by rw [ew_13, hp_set_ne ne_hA0_A6]; exact hA0
  have ne_hA1_A6 := hp_ne_n hA1 hn_A6
  have hA1 : w_13 A1 = some (.inl (G.2.2.1 2, 14, .inl (fun _ => 0))) := by rw [ew_13, hp_set_ne ne_hA1_A6]; exact hA1
  have ne_hA2_A6 := hp_ne_n hA2 hn_A6
  have hA2 : w_13 A2 = some (.inl (G.2.2.1 2, 14, .inl (fun _ => 0))) := by rw [ew_13, hp_set_ne ne_hA2_A6]; exact hA2
  have ne_hA3_A6 := hp_ne_n hA3 hn_A6
  have hA3 : w_13 A3 = some (.inl (G.2.2.1 2, 14, .inl (fun _ => 0))) := by rw [ew_13, hp_set_ne ne_hA3_A6]; exact hA3
  have ne_hA4_A6 := hp_ne_n hA4 hn_A6
  have hA4 : w_13 A4 = some (.inl (G.2.2.1 0, 14, .inl (fun _ => 0))) := by rw [ew_13, hp_set_ne ne_hA4_A6]; exact hA4
  have ne_hA5_A6 := hp_ne_n hA5 hn_A6
  have hA5 : w_13 A5 = some (.inl (G.2.2.1 0, 14, .inl (fun _ => 0))) := by rw [ew_13, hp_set_ne ne_hA5_A6]; exact hA5
  have hA6 : w_13 A6 = some (.inl (G.2.2.1 0, 14, .inl (fun _ => 0))) := by rw [ew_13]; exact hp_set_eq _ _ _
  have nA6 : a ≠ A6 := ne_ha_A6
  have n0_6 : A0 ≠ A6 := ne_hA0_A6
  have n1_6 : A1 ≠ A6 := ne_hA1_A6
  have n2_6 : A2 ≠ A6 := ne_hA2_A6
  have n3_6 : A3 ≠ A6 := ne_hA3_A6
  have n4_6 : A4 ≠ A6 := ne_hA4_A6
  have n5_6 : A5 ≠ A6 := ne_hA5_A6
  have wA6 : w A6 = none := by
    cases hw : w A6 with
    | none => rfl
    | some x => rw [fr6 A6 x hw (Ne.symm nA6)] at hn_A6; cases hn_A6
  refine hp_putF (ci := 5) (v := .ref A6) (ty := .array .int) (C := R_Mo) (T := F_Mo) (N := 28) hx hb hg i_Mo t_Mo t_Mo_ok n_Mo hown hK hI hS ha rfl 6 (by decide) (hg _ k_779) (fun _ h9 => h9) rfl hin rfl (by decide +kernel) rfl rfl (Nat.le_of_ble_eq_true rfl) d_Mo_init_57 (fun H locs hI hS hsz => ?_)
  obtain ⟨w_14, ew_14⟩ : ∃ z9, z9 = hp_set w_13 a (.inr (5, [.ref A0, .ref A1, .ref A2, .ref A3, .ref A4, .ref A5, .ref A6, .null, .null, .null, .null, .null, .null, .null, .null, .null, .null, .null, .null, .null, .null, .null, .null, .null, .null, .int 0, .int 0, .int 0])) := ⟨_, rfl⟩
  have hI : eI G S0 w_14 H := by rw [ew_14]; exact hI
  have hA0 : w_14 A0 = some (.inl (G.2.2.1 2, 14, .inl (fun _ => 0))) := by rw [ew_14, hp_set_ne (hp_ne_ao hA0 ha)]; exact hA0
  have hA1 : w_14 A1 = some (.inl (G.2.2.1 2, 14, .inl (fun _ => 0))) := by rw [ew_14, hp_set_ne (hp_ne_ao hA1 ha)]; exact hA1
  have hA2 : w_14 A2 = some (.inl (G.2.2.1 2, 14, .inl (fun _ => 0))) := by rw [ew_14, hp_set_ne (hp_ne_ao hA2 ha)]; exact hA2
  have hA3 : w_14 A3 = some (.inl (G.2.2.1 2, 14, .inl (fun _ => 0))) := by rw [ew_14, hp_set_ne (hp_ne_ao hA3 ha)]; exact hA3
  have hA4 : w_14 A4 = some (.inl (G.2.2.1 0, 14, .inl (fun _ => 0))) := by rw [ew_14, hp_set_ne (hp_ne_ao hA4 ha)]; exact hA4
  have hA5 : w_14 A5 = some (.inl (G.2.2.1 0, 14, .inl (fun _ => 0))) := by rw [ew_14, hp_set_ne (hp_ne_ao hA5 ha)]; exact hA5
  have hA6 : w_14 A6 = some (.inl (G.2.2.1 0, 14, .inl (fun _ => 0))) := by rw [ew_14, hp_set_ne (hp_ne_ao hA6 ha)]; exact hA6
  have ha : w_14 a = some (.inr (5, [.ref A0, .ref A1, .ref A2, .ref A3, .ref A4, .ref A5, .ref A6, .null, .null, .null, .null, .null, .null, .null, .null, .null, .null, .null, .null, .null, .null, .null, .null, .null, .null, .int 0, .int 0, .int 0])) := by rw [ew_14]; exact hp_set_eq _ _ _
  refine lv_aload_n hx hb d_Mo_init_60 rfl (lv_at hl 0 rfl) ?_
  refine lv_bipush (v := 14) hx hb d_Mo_init_61 (by decide) ?_
  have fr7 : ∀ b x, w b = some x → b ≠ a → w_14 b = some x := fun b x hb9 hba => by
    rw [ew_14, hp_set_ne hba, ew_13, hp_set_ne (hp_ne_n hb9 wA6)]
    exact fr6 b x hb9 hba
  refine hp_newa (atype := .int) (N' := 14) (a0 := (14, .inl (fun _ => 0))) hx hb (hg _ k_121) rfl hK hI hS hz 0 rfl (fun _ h => by cases h) (fun _ => rfl) (by decide) (by decide) (by decide) (Nat.le_of_ble_eq_true rfl) (Nat.le_of_ble_eq_true rfl) d_Mo_init_63 (fun A7 H hn_A7 hs_A7 hz_A7 hI hS => ?_)
  obtain ⟨w_15, ew_15⟩ : ∃ z9, z9 = hp_set w_14 A7 (.inl (G.2.2.1 0, 14, .inl (fun _ => 0))) := ⟨_, rfl⟩
  have hI : eI G S0 w_15 H := by rw [ew_15]; exact hI
  have ne_ha_A7 := hp_ne_n ha hn_A7
  have ha : w_15 a = some (.inr (5, [.ref A0, .ref A1, .ref A2, .ref A3, .ref A4, .ref A5, .ref A6, .null, .null, .null, .null, .null, .null, .null, .null, .null, .null, .null, .null, .null, .null, .null, .null, .null, .null, .int 0, .int 0, .int 0])) := by rw [ew_15, hp_set_ne ne_ha_A7]; exact ha
  have ne_hA0_A7 := hp_ne_n hA0 hn_A7
  have hA0 : w_15 A0 = some (.inl (G.2.2.1 2, 14, .inl (fun _ => 0))) := by rw [ew_15, hp_set_ne ne_hA0_A7]; exact hA0
  have ne_hA1_A7 := hp_ne_n hA1 hn_A7
  have hA1 : w_15 A1 = some (.inl (G.2.2.1 2, 14, .inl (fun _ => 0))) := by rw [ew_15, hp_set_ne ne_hA1_A7]; exact hA1
  have ne_hA2_A7 := hp_ne_n hA2 hn_A7
  have hA2 : w_15 A2 = some (.inl (G.2.2.1 2, 14, .inl (fun _ => 0))) := by rw [ew_15, hp_set_ne ne_hA2_A7]; exact hA2
  have ne_hA3_A7 := hp_ne_n hA3 hn_A7
  have hA3 : w_15 A3 = some (.inl (G.2.2.1 2, 14, .inl (fun _ => 0))) := by rw [ew_15, hp_set_ne ne_hA3_A7]; exact hA3
  have ne_hA4_A7 := hp_ne_n hA4 hn_A7
  have hA4 : w_15 A4 = some (.inl (G.2.2.1 0, 14, .inl (fun _ => 0))) := by rw [ew_15, hp_set_ne ne_hA4_A7]; exact hA4
  have ne_hA5_A7 := hp_ne_n hA5 hn_A7
  have hA5 : w_15 A5 = some (.inl (G.2.2.1 0, 14, .inl (fun _ => 0))) := by rw [ew_15, hp_set_ne ne_hA5_A7]; exact hA5
  have ne_hA6_A7 := hp_ne_n hA6 hn_A7
  have hA6 : w_15 A6 = some (.inl (G.2.2.1 0, 14, .inl (fun _ => 0))) := by rw [ew_15, hp_set_ne ne_hA6_A7]; exact hA6
  have hA7 : w_15 A7 = some (.inl (G.2.2.1 0, 14, .inl (fun _ => 0))) := by rw [ew_15]; exact hp_set_eq _ _ _
  have nA7 : a ≠ A7 := ne_ha_A7
  have n0_7 : A0 ≠ A7 := ne_hA0_A7
  have n1_7 : A1 ≠ A7 := ne_hA1_A7
  have n2_7 : A2 ≠ A7 := ne_hA2_A7
  have n3_7 : A3 ≠ A7 := ne_hA3_A7
  have n4_7 : A4 ≠ A7 := ne_hA4_A7
  have n5_7 : A5 ≠ A7 := ne_hA5_A7
  have n6_7 : A6 ≠ A7 := ne_hA6_A7
  have wA7 : w A7 = none := by
    cases hw : w A7 with
    | none => rfl
    | some x => rw [fr7 A7 x hw (Ne.symm nA7)] at hn_A7; cases hn_A7
  refine hp_putF (ci := 5) (v := .ref A7) (ty := .array .int) (C := R_Mo) (T := F_Mo) (N := 28) hx hb hg i_Mo t_Mo t_Mo_ok n_Mo hown hK hI hS ha rfl 7 (by decide) (hg _ k_780) (fun _ h9 => h9) rfl hin rfl (by decide +kernel) rfl rfl (Nat.le_of_ble_eq_true rfl) d_Mo_init_65 (fun H locs hI hS hsz => ?_)
  obtain ⟨w_16, ew_16⟩ : ∃ z9, z9 = hp_set w_15 a (.inr (5, [.ref A0, .ref A1, .ref A2, .ref A3, .ref A4, .ref A5, .ref A6, .ref A7, .null, .null, .null, .null, .null, .null, .null, .null, .null, .null, .null, .null, .null, .null, .null, .null, .null, .int 0, .int 0, .int 0])) := ⟨_, rfl⟩
  have hI : eI G S0 w_16 H := by rw [ew_16]; exact hI
  have hA0 : w_16 A0 = some (.inl (G.2.2.1 2, 14, .inl (fun _ => 0))) := by rw [ew_16, hp_set_ne (hp_ne_ao hA0 ha)]; exact hA0
  have hA1 : w_16 A1 = some (.inl (G.2.2.1 2, 14, .inl (fun _ => 0))) := by rw [ew_16, hp_set_ne (hp_ne_ao hA1 ha)]; exact hA1
  have hA2 : w_16 A2 = some (.inl (G.2.2.1 2, 14, .inl (fun _ => 0))) := by rw [ew_16, hp_set_ne (hp_ne_ao hA2 ha)]; exact hA2
  have hA3 : w_16 A3 = some (.inl (G.2.2.1 2, 14, .inl (fun _ => 0))) := by rw [ew_16, hp_set_ne (hp_ne_ao hA3 ha)]; exact hA3
  have hA4 : w_16 A4 = some (.inl (G.2.2.1 0, 14, .inl (fun _ => 0))) := by rw [ew_16, hp_set_ne (hp_ne_ao hA4 ha)]; exact hA4
  have hA5 : w_16 A5 = some (.inl (G.2.2.1 0, 14, .inl (fun _ => 0))) := by rw [ew_16, hp_set_ne (hp_ne_ao hA5 ha)]; exact hA5
  have hA6 : w_16 A6 = some (.inl (G.2.2.1 0, 14, .inl (fun _ => 0))) := by rw [ew_16, hp_set_ne (hp_ne_ao hA6 ha)]; exact hA6
  have hA7 : w_16 A7 = some (.inl (G.2.2.1 0, 14, .inl (fun _ => 0))) := by rw [ew_16, hp_set_ne (hp_ne_ao hA7 ha)]; exact hA7
  have ha : w_16 a = some (.inr (5, [.ref A0, .ref A1, .ref A2, .ref A3, .ref A4, .ref A5, .ref A6, .ref A7, .null, .null, .null, .null, .null, .null, .null, .null, .null, .null, .null, .null, .null, .null, .null, .null, .null, .int 0, .int 0, .int 0])) := by rw [ew_16]; exact hp_set_eq _ _ _
  refine lv_aload_n hx hb d_Mo_init_68 rfl (lv_at hl 0 rfl) ?_
  refine lv_sipush (v := 196) hx hb d_Mo_init_69 (by decide) ?_
  have fr8 : ∀ b x, w b = some x → b ≠ a → w_16 b = some x := fun b x hb9 hba => by
    rw [ew_16, hp_set_ne hba, ew_15, hp_set_ne (hp_ne_n hb9 wA7)]
    exact fr7 b x hb9 hba
  refine hp_newa (atype := .int) (N' := 196) (a0 := (196, .inl (fun _ => 0))) hx hb (hg _ k_121) rfl hK hI hS hz 0 rfl (fun _ h => by cases h) (fun _ => rfl) (by decide) (by decide) (by decide) (Nat.le_of_ble_eq_true rfl) (Nat.le_of_ble_eq_true rfl) d_Mo_init_72 (fun A8 H hn_A8 hs_A8 hz_A8 hI hS => ?_)
  obtain ⟨w_17, ew_17⟩ : ∃ z9, z9 = hp_set w_16 A8 (.inl (G.2.2.1 0, 196, .inl (fun _ => 0))) := ⟨_, rfl⟩
  have hI : eI G S0 w_17 H := by rw [ew_17]; exact hI
  have ne_ha_A8 := hp_ne_n ha hn_A8
  have ha : w_17 a = some (.inr (5, [.ref A0, .ref A1, .ref A2, .ref A3, .ref A4, .ref A5, .ref A6, .ref A7, .null, .null, .null, .null, .null, .null, .null, .null, .null, .null, .null, .null, .null, .null, .null, .null, .null, .int 0, .int 0, .int 0])) := by rw [ew_17, hp_set_ne ne_ha_A8]; exact ha
  have ne_hA0_A8 := hp_ne_n hA0 hn_A8
  have hA0 : w_17 A0 = some (.inl (G.2.2.1 2, 14, .inl (fun _ => 0))) := by rw [ew_17, hp_set_ne ne_hA0_A8]; exact hA0
  have ne_hA1_A8 := hp_ne_n hA1 hn_A8
  have hA1 : w_17 A1 = some (.inl (G.2.2.1 2, 14, .inl (fun _ => 0))) := by rw [ew_17, hp_set_ne ne_hA1_A8]; exact hA1
  have ne_hA2_A8 := hp_ne_n hA2 hn_A8
  have hA2 : w_17 A2 = some (.inl (G.2.2.1 2, 14, .inl (fun _ => 0))) := by rw [ew_17, hp_set_ne ne_hA2_A8]; exact hA2
  have ne_hA3_A8 := hp_ne_n hA3 hn_A8
  have hA3 : w_17 A3 = some (.inl (G.2.2.1 2, 14, .inl (fun _ => 0))) := by rw [ew_17, hp_set_ne ne_hA3_A8]; exact hA3
  have ne_hA4_A8 := hp_ne_n hA4 hn_A8
  have hA4 : w_17 A4 = some (.inl (G.2.2.1 0, 14, .inl (fun _ => 0))) := by rw [ew_17, hp_set_ne ne_hA4_A8]; exact hA4
  have ne_hA5_A8 := hp_ne_n hA5 hn_A8
  have hA5 : w_17 A5 = some (.inl (G.2.2.1 0, 14, .inl (fun _ => 0))) := by rw [ew_17, hp_set_ne ne_hA5_A8]; exact hA5
  have ne_hA6_A8 := hp_ne_n hA6 hn_A8
  have hA6 : w_17 A6 = some (.inl (G.2.2.1 0, 14, .inl (fun _ => 0))) := by rw [ew_17, hp_set_ne ne_hA6_A8]; exact hA6
  have ne_hA7_A8 := hp_ne_n hA7 hn_A8
  have hA7 : w_17 A7 = some (.inl (G.2.2.1 0, 14, .inl (fun _ => 0))) := by rw [ew_17, hp_set_ne ne_hA7_A8]; exact hA7
  have hA8 : w_17 A8 = some (.inl (G.2.2.1 0, 196, .inl (fun _ => 0))) := by rw [ew_17]; exact hp_set_eq _ _ _
  have nA8 : a ≠ A8 := ne_ha_A8
  have n0_8 : A0 ≠ A8 := ne_hA0_A8
  have n1_8 : A1 ≠ A8 := ne_hA1_A8
  have n2_8 : A2 ≠ A8 := ne_hA2_A8
  have n3_8 : A3 ≠ A8 := ne_hA3_A8
  have n4_8 : A4 ≠ A8 := ne_hA4_A8
  have n5_8 : A5 ≠ A8 := ne_hA5_A8
  have n6_8 : A6 ≠ A8 := ne_hA6_A8
  have n7_8 : A7 ≠ A8 := ne_hA7_A8
  have wA8 : w A8 = none := by
    cases hw : w A8 with
    | none => rfl
    | some x => rw [fr8 A8 x hw (Ne.symm nA8)] at hn_A8; cases hn_A8
  refine hp_putF (ci := 5) (v := .ref A8) (ty := .array .int) (C := R_Mo) (T := F_Mo) (N := 28) hx hb hg i_Mo t_Mo t_Mo_ok n_Mo hown hK hI hS ha rfl 8 (by decide) (hg _ k_781) (fun _ h9 => h9) rfl hin rfl (by decide +kernel) rfl rfl (Nat.le_of_ble_eq_true rfl) d_Mo_init_74 (fun H locs hI hS hsz => ?_)
  obtain ⟨w_18, ew_18⟩ : ∃ z9, z9 = hp_set w_17 a (.inr (5, [.ref A0, .ref A1, .ref A2, .ref A3, .ref A4, .ref A5, .ref A6, .ref A7, .ref A8, .null, .null, .null, .null, .null, .null, .null, .null, .null, .null, .null, .null, .null, .null, .null, .null, .int 0, .int 0, .int 0])) := ⟨_, rfl⟩
  have hI : eI G S0 w_18 H := by rw [ew_18]; exact hI
  have hA0 : w_18 A0 = some (.inl (G.2.2.1 2, 14, .inl (fun _ => 0))) := by rw [ew_18, hp_set_ne (hp_ne_ao hA0 ha)]; exact hA0
  have hA1 : w_18 A1 = some (.inl (G.2.2.1 2, 14, .inl (fun _ => 0))) := by rw [ew_18, hp_set_ne (hp_ne_ao hA1 ha)]; exact hA1
  have hA2 : w_18 A2 = some (.inl (G.2.2.1 2, 14, .inl (fun _ => 0))) := by rw [ew_18, hp_set_ne (hp_ne_ao hA2 ha)]; exact hA2
  have hA3 : w_18 A3 = some (.inl (G.2.2.1 2, 14, .inl (fun _ => 0))) := by rw [ew_18, hp_set_ne (hp_ne_ao hA3 ha)]; exact hA3
  have hA4 : w_18 A4 = some (.inl (G.2.2.1 0, 14, .inl (fun _ => 0))) := by rw [ew_18, hp_set_ne (hp_ne_ao hA4 ha)]; exact hA4
  have hA5 : w_18 A5 = some (.inl (G.2.2.1 0, 14, .inl (fun _ => 0))) := by rw [ew_18, hp_set_ne (hp_ne_ao hA5 ha)]; exact hA5
  have hA6 : w_18 A6 = some (.inl (G.2.2.1 0, 14, .inl (fun _ => 0))) := by rw [ew_18, hp_set_ne (hp_ne_ao hA6 ha)]; exact hA6
  have hA7 : w_18 A7 = some (.inl (G.2.2.1 0, 14, .inl (fun _ => 0))) := by rw [ew_18, hp_set_ne (hp_ne_ao hA7 ha)]; exact hA7
  have hA8 : w_18 A8 = some (.inl (G.2.2.1 0, 196, .inl (fun _ => 0))) := by rw [ew_18, hp_set_ne (hp_ne_ao hA8 ha)]; exact hA8
  have ha : w_18 a = some (.inr (5, [.ref A0, .ref A1, .ref A2, .ref A3, .ref A4, .ref A5, .ref A6, .ref A7, .ref A8, .null, .null, .null, .null, .null, .null, .null, .null, .null, .null, .null, .null, .null, .null, .null, .null, .int 0, .int 0, .int 0])) := by rw [ew_18]; exact hp_set_eq _ _ _
  refine lv_aload_n hx hb d_Mo_init_77 rfl (lv_at hl 0 rfl) ?_
  refine lv_bipush (v := 14) hx hb d_Mo_init_78 (by decide) ?_
  have fr9 : ∀ b x, w b = some x → b ≠ a → w_18 b = some x := fun b x hb9 hba => by
    rw [ew_18, hp_set_ne hba, ew_17, hp_set_ne (hp_ne_n hb9 wA8)]
    exact fr8 b x hb9 hba
  refine hp_newa (atype := .int) (N' := 14) (a0 := (14, .inl (fun _ => 0))) hx hb (hg _ k_121) rfl hK hI hS hz 0 rfl (fun _ h => by cases h) (fun _ => rfl) (by decide) (by decide) (by decide) (Nat.le_of_ble_eq_true rfl) (Nat.le_of_ble_eq_true rfl) d_Mo_init_80 (fun A9 H hn_A9 hs_A9 hz_A9 hI hS => ?_)
  obtain ⟨w_19, ew_19⟩ : ∃ z9, z9 = hp_set w_18 A9 (.inl (G.2.2.1 0, 14, .inl (fun _ => 0))) := ⟨_, rfl⟩
  have hI : eI G S0 w_19 H := by rw [ew_19]; exact hI
  have ne_ha_A9 := hp_ne_n ha hn_A9
  have ha : w_19 a = some (.inr (5, [.ref A0, .ref A1, .ref A2, .ref A3, .ref A4, .ref A5, .ref A6, .ref A7, .ref A8, .null, .null, .null, .null, .null, .null, .null, .null, .null, .null, .null, .null, .null, .null, .null, .null, .int 0, .int 0, .int 0])) := by rw [ew_19, hp_set_ne ne_ha_A9]; exact ha
  have ne_hA0_A9 := hp_ne_n hA0 hn_A9
  have hA0 : w_19 A0 = some (.inl (G.2.2.1 2, 14, .inl (fun _ => 0))) := by rw [ew_19, hp_set_ne ne_hA0_A9]; exact hA0
  have ne_hA1_A9 := hp_ne_n hA1 hn_A9
  have hA1 : w_19 A1 = some (.inl (G.2.2.1 2, 14, .inl (fun _ => 0))) := by rw [ew_19, hp_set_ne ne_hA1_A9]; exact hA1
  have ne_hA2_A9 := hp_ne_n hA2 hn_A9
  have hA2 : w_19 A2 = some (.inl (G.2.2.1 2, 14, .inl (fun _ => 0))) := by rw [ew_19, hp_set_ne ne_hA2_A9]; exact hA2
  have ne_hA3_A9 := hp_ne_n hA3 hn_A9
  have hA3 : w_19 A3 = some (.inl (G.2.2.1 2, 14, .inl (fun _ => 0))) := by rw [ew_19, hp_set_ne ne_hA3_A9]; exact hA3
  have ne_hA4_A9 := hp_ne_n hA4 hn_A9
  have hA4 : w_19 A4 = some (.inl (G.2.2.1 0, 14, .inl (fun _ => 0))) := by rw [ew_19, hp_set_ne ne_hA4_A9]; exact hA4
  have ne_hA5_A9 := hp_ne_n hA5 hn_A9
  have hA5 : w_19 A5 = some (.inl (G.2.2.1 0, 14, .inl (fun _ => 0))) := by rw [ew_19, hp_set_ne ne_hA5_A9]; exact hA5
  have ne_hA6_A9 := hp_ne_n hA6 hn_A9
  have hA6 : w_19 A6 = some (.inl (G.2.2.1 0, 14, .inl (fun _ => 0))) := by rw [ew_19, hp_set_ne ne_hA6_A9]; exact hA6
  have ne_hA7_A9 := hp_ne_n hA7 hn_A9
  have hA7 : w_19 A7 = some (.inl (G.2.2.1 0, 14, .inl (fun _ => 0))) := by rw [ew_19, hp_set_ne ne_hA7_A9]; exact hA7
  have ne_hA8_A9 := hp_ne_n hA8 hn_A9
  have hA8 : w_19 A8 = some (.inl (G.2.2.1 0, 196, .inl (fun _ => 0))) := by rw [ew_19, hp_set_ne ne_hA8_A9]; exact hA8
  have hA9 : w_19 A9 = some (.inl (G.2.2.1 0, 14, .inl (fun _ => 0))) := by rw [ew_19]; exact hp_set_eq _ _ _
  have nA9 : a ≠ A9 := ne_ha_A9
  have n0_9 : A0 ≠ A9 := ne_hA0_A9
  have n1_9 : A1 ≠ A9 := ne_hA1_A9
  have n2_9 : A2 ≠ A9 := ne_hA2_A9
  have n3_9 : A3 ≠ A9 := ne_hA3_A9
  have n4_9 : A4 ≠ A9 := ne_hA4_A9
  have n5_9 : A5 ≠ A9 := ne_hA5_A9
  have n6_9 : A6 ≠ A9 := ne_hA6_A9
  have n7_9 : A7 ≠ A9 := ne_hA7_A9
  have n8_9 : A8 ≠ A9 := ne_hA8_A9
  have wA9 : w A9 = none := by
    cases hw : w A9 with
    | none => rfl
    | some x => rw [fr9 A9 x hw (Ne.symm nA9)] at hn_A9; cases hn_A9
  refine hp_putF (ci := 5) (v := .ref A9) (ty := .array .int) (C := R_Mo) (T := F_Mo) (N := 28) hx hb hg i_Mo t_Mo t_Mo_ok n_Mo hown hK hI hS ha rfl 9 (by decide) (hg _ k_782) (fun _ h9 => h9) rfl hin rfl (by decide +kernel) rfl rfl (Nat.le_of_ble_eq_true rfl) d_Mo_init_82 (fun H locs hI hS hsz => ?_)
  obtain ⟨w_20, ew_20⟩ : ∃ z9, z9 = hp_set w_19 a (.inr (5, [.ref A0, .ref A1, .ref A2, .ref A3, .ref A4, .ref A5, .ref A6, .ref A7, .ref A8, .ref A9, .null, .null, .null, .null, .null, .null, .null, .null, .null, .null, .null, .null, .null, .null, .null, .int 0, .int 0, .int 0])) := ⟨_, rfl⟩
  have hI : eI G S0 w_20 H := by rw [ew_20]; exact hI
  have hA0 : w_20 A0 = some (.inl (G.2.2.1 2, 14, .inl (fun _ => 0))) := by rw [ew_20, hp_set_ne (hp_ne_ao hA0 ha)]; exact hA0
  have hA1 : w_20 A1 = some (.inl (G.2.2.1 2, 14, .inl (fun _ => 0))) := by rw [ew_20, hp_set_ne (hp_ne_ao hA1 ha)]; exact hA1
  have hA2 : w_20 A2 = some (.inl (G.2.2.1 2, 14, .inl (fun _ => 0))) := by rw [ew_20, hp_set_ne (hp_ne_ao hA2 ha)]; exact hA2
  have hA3 : w_20 A3 = some (.inl (G.2.2.1 2, 14, .inl (fun _ => 0))) := by rw [ew_20, hp_set_ne (hp_ne_ao hA3 ha)]; exact hA3
  have hA4 : w_20 A4 = some (.inl (G.2.2.1 0, 14, .inl (fun _ => 0))) := by rw [ew_20, hp_set_ne (hp_ne_ao hA4 ha)]; exact hA4
  have hA5 : w_20 A5 = some (.inl (G.2.2.1 0, 14, .inl (fun _ => 0))) := by rw [ew_20, hp_set_ne (hp_ne_ao hA5 ha)]; exact hA5
  have hA6 : w_20 A6 = some (.inl (G.2.2.1 0, 14, .inl (fun _ => 0))) := by rw [ew_20, hp_set_ne (hp_ne_ao hA6 ha)]; exact hA6
  have hA7 : w_20 A7 = some (.inl (G.2.2.1 0, 14, .inl (fun _ => 0))) := by rw [ew_20, hp_set_ne (hp_ne_ao hA7 ha)]; exact hA7
  have hA8 : w_20 A8 = some (.inl (G.2.2.1 0, 196, .inl (fun _ => 0))) := by rw [ew_20, hp_set_ne (hp_ne_ao hA8 ha)]; exact hA8
  have hA9 : w_20 A9 = some (.inl (G.2.2.1 0, 14, .inl (fun _ => 0))) := by rw [ew_20, hp_set_ne (hp_ne_ao hA9 ha)]; exact hA9
  have ha : w_20 a = some (.inr (5, [.ref A0, .ref A1, .ref A2, .ref A3, .ref A4, .ref A5, .ref A6, .ref A7, .ref A8, .ref A9, .null, .null, .null, .null, .null, .null, .null, .null, .null, .null, .null, .null, .null, .null, .null, .int 0, .int 0, .int 0])) := by rw [ew_20]; exact hp_set_eq _ _ _
  refine lv_aload_n hx hb d_Mo_init_85 rfl (lv_at hl 0 rfl) ?_
  refine lv_bipush (v := 56) hx hb d_Mo_init_86 (by decide) ?_
  have fr10 : ∀ b x, w b = some x → b ≠ a → w_20 b = some x := fun b x hb9 hba => by
    rw [ew_20, hp_set_ne hba, ew_19, hp_set_ne (hp_ne_n hb9 wA9)]
    exact fr9 b x hb9 hba
  refine hp_newa (atype := .int) (N' := 56) (a0 := (56, .inl (fun _ => 0))) hx hb (hg _ k_121) rfl hK hI hS hz 0 rfl (fun _ h => by cases h) (fun _ => rfl) (by decide) (by decide) (by decide) (Nat.le_of_ble_eq_true rfl) (Nat.le_of_ble_eq_true rfl) d_Mo_init_88 (fun A10 H hn_A10 hs_A10 hz_A10 hI hS => ?_)
  obtain ⟨w_21, ew_21⟩ : ∃ z9, z9 = hp_set w_20 A10 (.inl (G.2.2.1 0, 56, .inl (fun _ => 0))) := ⟨_, rfl⟩
  have hI : eI G S0 w_21 H := by rw [ew_21]; exact hI
  have ne_ha_A10 := hp_ne_n ha hn_A10
  have ha : w_21 a = some (.inr (5, [.ref A0, .ref A1, .ref A2, .ref A3, .ref A4, .ref A5, .ref A6, .ref A7, .ref A8, .ref A9, .null, .null, .null, .null, .null, .null, .null, .null, .null, .null, .null, .null, .null, .null, .null, .int 0, .int 0, .int 0])) := by rw [ew_21, hp_set_ne ne_ha_A10]; exact ha
  have ne_hA0_A10 := hp_ne_n hA0 hn_A10
  have hA0 : w_21 A0 = some (.inl (G.2.2.1 2, 14, .inl (fun _ => 0))) := by rw [ew_21, hp_set_ne ne_hA0_A10]; exact hA0
  have ne_hA1_A10 := hp_ne_n hA1 hn_A10
  have hA1 : w_21 A1 = some (.inl (G.2.2.1 2, 14, .inl (fun _ => 0))) := by rw [ew_21, hp_set_ne ne_hA1_A10]; exact hA1
  have ne_hA2_A10 := hp_ne_n hA2 hn_A10
  have hA2 : w_21 A2 = some (.inl (G.2.2.1 2, 14, .inl (fun _ => 0))) := by rw [ew_21, hp_set_ne ne_hA2_A10]; exact hA2
  have ne_hA3_A10 := hp_ne_n hA3 hn_A10
  have hA3 : w_21 A3 = some (.inl (G.2.2.1 2, 14, .inl (fun _ => 0))) := by rw [ew_21, hp_set_ne ne_hA3_A10]; exact hA3
  have ne_hA4_A10 := hp_ne_n hA4 hn_A10
  have hA4 : w_21 A4 = some (.inl (G.2.2.1 0, 14, .inl (fun _ => 0))) := by rw [ew_21, hp_set_ne ne_hA4_A10]; exact hA4
  have ne_hA5_A10 := hp_ne_n hA5 hn_A10
  have hA5 : w_21 A5 = some (.inl (G.2.2.1 0, 14, .inl (fun _ => 0))) := by rw [ew_21, hp_set_ne ne_hA5_A10]; exact hA5
  have ne_hA6_A10 := hp_ne_n hA6 hn_A10
  have hA6 : w_21 A6 = some (.inl (G.2.2.1 0, 14, .inl (fun _ => 0))) := by rw [ew_21, hp_set_ne ne_hA6_A10]; exact hA6
  have ne_hA7_A10 := hp_ne_n hA7 hn_A10
  have hA7 : w_21 A7 = some (.inl (G.2.2.1 0, 14, .inl (fun _ => 0))) := by rw [ew_21, hp_set_ne ne_hA7_A10]; exact hA7
  have ne_hA8_A10 := hp_ne_n hA8 hn_A10
  have hA8 : w_21 A8 = some (.inl (G.2.2.1 0, 196, .inl (fun _ => 0))) := by rw [ew_21, hp_set_ne ne_hA8_A10]; exact hA8
  have ne_hA9_A10 := hp_ne_n hA9 hn_A10
  have hA9 : w_21 A9 = some (.inl (G.2.2.1 0, 14, .inl (fun _ => 0))) := by rw [ew_21, hp_set_ne ne_hA9_A10]; exact hA9
  have hA10 : w_21 A10 = some (.inl (G.2.2.1 0, 56, .inl (fun _ => 0))) := by rw [ew_21]; exact hp_set_eq _ _ _
  have nA10 : a ≠ A10 := ne_ha_A10
  have n0_10 : A0 ≠ A10 := ne_hA0_A10
  have n1_10 : A1 ≠ A10 := ne_hA1_A10
  have n2_10 : A2 ≠ A10 := ne_hA2_A10
  have n3_10 : A3 ≠ A10 := ne_hA3_A10
  have n4_10 : A4 ≠ A10 := ne_hA4_A10
  have n5_10 : A5 ≠ A10 := ne_hA5_A10
  have n6_10 : A6 ≠ A10 := ne_hA6_A10
  have n7_10 : A7 ≠ A10 := ne_hA7_A10
  have n8_10 : A8 ≠ A10 := ne_hA8_A10
  have n9_10 : A9 ≠ A10 := ne_hA9_A10
  have wA10 : w A10 = none := by
    cases hw : w A10 with
    | none => rfl
    | some x => rw [fr10 A10 x hw (Ne.symm nA10)] at hn_A10; cases hn_A10
  refine hp_putF (ci := 5) (v := .ref A10) (ty := .array .int) (C := R_Mo) (T := F_Mo) (N := 28) hx hb hg i_Mo t_Mo t_Mo_ok n_Mo hown hK hI hS ha rfl 10 (by decide) (hg _ k_783) (fun _ h9 => h9) rfl hin rfl (by decide +kernel) rfl rfl (Nat.le_of_ble_eq_true rfl) d_Mo_init_90 (fun H locs hI hS hsz => ?_)
  obtain ⟨w_22, ew_22⟩ : ∃ z9, z9 = hp_set w_21 a (.inr (5, [.ref A0, .ref A1, .ref A2, .ref A3, .ref A4, .ref A5, .ref A6, .ref A7, .ref A8, .ref A9, .ref A10, .null, .null, .null, .null, .null, .null, .null, .null, .null, .null, .null, .null, .null, .null, .int 0, .int 0, .int 0])) := ⟨_, rfl⟩
  have hI : eI G S0 w_22 H := by rw [ew_22]; exact hI
  have hA0 : w_22 A0 = some (.inl (G.2.2.1 2, 14, .inl (fun _ => 0))) := by rw [ew_22, hp_set_ne (hp_ne_ao hA0 ha)]; exact hA0
  have hA1 : w_22 A1 = some (.inl (G.2.2.1 2, 14, .inl (fun _ => 0))) := by rw [ew_22, hp_set_ne (hp_ne_ao hA1 ha)]; exact hA1
  have hA2 : w_22 A2 = some (.inl (G.2.2.1 2, 14, .inl (fun _ => 0))) := by rw [ew_22, hp_set_ne (hp_ne_ao hA2 ha)]; exact hA2
  have hA3 : w_22 A3 = some (.inl (G.2.2.1 2, 14, .inl (fun _ => 0))) := by rw [ew_22, hp_set_ne (hp_ne_ao hA3 ha)]; exact hA3
  have hA4 : w_22 A4 = some (.inl (G.2.2.1 0, 14, .inl (fun _ => 0))) := by rw [ew_22, hp_set_ne (hp_ne_ao hA4 ha)]; exact hA4
  have hA5 : w_22 A5 = some (.inl (G.2.2.1 0, 14, .inl (fun _ => 0))) := by rw [ew_22, hp_set_ne (hp_ne_ao hA5 ha)]; exact hA5
  have hA6 : w_22 A6 = some (.inl (G.2.2.1 0, 14, .inl (fun _ => 0))) := by rw [ew_22, hp_set_ne (hp_ne_ao hA6 ha)]; exact hA6
  have hA7 : w_22 A7 = some (.inl (G.2.2.1 0, 14, .inl (fun _ => 0))) := by rw [ew_22, hp_set_ne (hp_ne_ao hA7 ha)]; exact hA7
  have hA8 : w_22 A8 = some (.inl (G.2.2.1 0, 196, .inl (fun _ => 0))) := by rw [ew_22, hp_set_ne (hp_ne_ao hA8 ha)]; exact hA8
  have hA9 : w_22 A9 = some (.inl (G.2.2.1 0, 14, .inl (fun _ => 0))) := by rw [ew_22, hp_set_ne (hp_ne_ao hA9 ha)]; exact hA9
  have hA10 : w_22 A10 = some (.inl (G.2.2.1 0, 56, .inl (fun _ => 0))) := by rw [ew_22, hp_set_ne (hp_ne_ao hA10 ha)]; exact hA10
  have ha : w_22 a = some (.inr (5, [.ref A0, .ref A1, .ref A2, .ref A3, .ref A4, .ref A5, .ref A6, .ref A7, .ref A8, .ref A9, .ref A10, .null, .null, .null, .null, .null, .null, .null, .null, .null, .null, .null, .null, .null, .null, .int 0, .int 0, .int 0])) := by rw [ew_22]; exact hp_set_eq _ _ _
  refine lv_aload_n hx hb d_Mo_init_93 rfl (lv_at hl 0 rfl) ?_
  refine lv_bipush (v := 14) hx hb d_Mo_init_94 (by decide) ?_
  have fr11 : ∀ b x, w b = some x → b ≠ a → w_22 b = some x := fun b x hb9 hba => by
    rw [ew_22, hp_set_ne hba, ew_21, hp_set_ne (hp_ne_n hb9 wA10)]
    exact fr10 b x hb9 hba
  refine hp_newa (atype := .int) (N' := 14) (a0 := (14, .inl (fun _ => 0))) hx hb (hg _ k_121) rfl hK hI hS hz 0 rfl (fun _ h => by cases h) (fun _ => rfl) (by decide) (by decide) (by decide) (Nat.le_of_ble_eq_true rfl) (Nat.le_of_ble_eq_true rfl) d_Mo_init_96 (fun A11 H hn_A11 hs_A11 hz_A11 hI hS => ?_)
  obtain ⟨w_23, ew_23⟩ : ∃ z9, z9 = hp_set w_22 A11 (.inl (G.2.2.1 0, 14, .inl (fun _ => 0))) := ⟨_, rfl⟩
  have hI : eI G S0 w_23 H := by rw [ew_23]; exact hI
  have ne_ha_A11 := hp_ne_n ha hn_A11
  have ha : w_23 a = some (.inr (5, [.ref A0, .ref A1, .ref A2, .ref A3, .ref A4, .ref A5, .ref A6, .ref A7, .ref A8, .ref A9, .ref A10, .null, .null, .null, .null, .null, .null, .null, .null, .null, .null, .null, .null, .null, .null, .int 0, .int 0, .int 0])) := by rw [ew_23, hp_set_ne ne_ha_A11]; exact ha
  have ne_hA0_A11 := hp_ne_n hA0 hn_A11
  have hA0 : w_23 A0 = some (.inl (G.2.2.1 2, 14, .inl (fun _ => 0))) := by rw [ew_23, hp_set_ne ne_hA0_A11]; exact hA0
  have ne_hA1_A11 := hp_ne_n hA1 hn_A11
  have hA1 : w_23 A1 = some (.inl (G.2.2.1 2, 14, .inl (fun _ => 0))) := by rw [ew_23, hp_set_ne ne_hA1_A11]; exact hA1
  have ne_hA2_A11 := hp_ne_n hA2 hn_A11
  have hA2 : w_23 A2 = some (.inl (G.2.2.1 2, 14, .inl (fun _ => 0))) := by rw [ew_23, hp_set_ne ne_hA2_A11]; exact hA2
  have ne_hA3_A11 := hp_ne_n hA3 hn_A11
  have hA3 : w_23 A3 = some (.inl (G.2.2.1 2, 14, .inl (fun _ => 0))) := by rw [ew_23, hp_set_ne ne_hA3_A11]; exact hA3
  have ne_hA4_A11 := hp_ne_n hA4 hn_A11
  have hA4 : w_23 A4 = some (.inl (G.2.2.1 0, 14, .inl (fun _ => 0))) := by rw [ew_23, hp_set_ne ne_hA4_A11]; exact hA4
  have ne_hA5_A11 := hp_ne_n hA5 hn_A11
  have hA5 : w_23 A5 = some (.inl (G.2.2.1 0, 14, .inl (fun _ => 0))) := by rw [ew_23, hp_set_ne ne_hA5_A11]; exact hA5
  have ne_hA6_A11 := hp_ne_n hA6 hn_A11
  have hA6 : w_23 A6 = some (.inl (G.2.2.1 0, 14, .inl (fun _ => 0))) := by rw [ew_23, hp_set_ne ne_hA6_A11]; exact hA6
  have ne_hA7_A11 := hp_ne_n hA7 hn_A11
  have hA7 : w_23 A7 = some (.inl (G.2.2.1 0, 14, .inl (fun _ => 0))) := by rw [ew_23, hp_set_ne ne_hA7_A11]; exact hA7
  have ne_hA8_A11 := hp_ne_n hA8 hn_A11
  have hA8 : w_23 A8 = some (.inl (G.2.2.1 0, 196, .inl (fun _ => 0))) := by rw [ew_23, hp_set_ne ne_hA8_A11]; exact hA8
  have ne_hA9_A11 := hp_ne_n hA9 hn_A11
  have hA9 : w_23 A9 = some (.inl (G.2.2.1 0, 14, .inl (fun _ => 0))) := by rw [ew_23, hp_set_ne ne_hA9_A11]; exact hA9
  have ne_hA10_A11 := hp_ne_n hA10 hn_A11
  have hA10 : w_23 A10 = some (.inl (G.2.2.1 0, 56, .inl (fun _ => 0))) := by rw [ew_23, hp_set_ne ne_hA10_A11]; exact hA10
  have hA11 : w_23 A11 = some (.inl (G.2.2.1 0, 14, .inl (fun _ => 0))) := by rw [ew_23]; exact hp_set_eq _ _ _
  have nA11 : a ≠ A11 := ne_ha_A11
  have n0_11 : A0 ≠ A11 := ne_hA0_A11
  have n1_11 : A1 ≠ A11 := ne_hA1_A11
  have n2_11 : A2 ≠ A11 := ne_hA2_A11
  have n3_11 : A3 ≠ A11 := ne_hA3_A11
  have n4_11 : A4 ≠ A11 := ne_hA4_A11
  have n5_11 : A5 ≠ A11 := ne_hA5_A11
  have n6_11 : A6 ≠ A11 := ne_hA6_A11
  have n7_11 : A7 ≠ A11 := ne_hA7_A11
  have n8_11 : A8 ≠ A11 := ne_hA8_A11
  have n9_11 : A9 ≠ A11 := ne_hA9_A11
  have n10_11 : A10 ≠ A11 := ne_hA10_A11
  have wA11 : w A11 = none := by
    cases hw : w A11 with
    | none => rfl
    | some x => rw [fr11 A11 x hw (Ne.symm nA11)] at hn_A11; cases hn_A11
  refine hp_putF (ci := 5) (v := .ref A11) (ty := .array .int) (C := R_Mo) (T := F_Mo) (N := 28) hx hb hg i_Mo t_Mo t_Mo_ok n_Mo hown hK hI hS ha rfl 11 (by decide) (hg _ k_784) (fun _ h9 => h9) rfl hin rfl (by decide +kernel) rfl rfl (Nat.le_of_ble_eq_true rfl) d_Mo_init_98 (fun H locs hI hS hsz => ?_)
  obtain ⟨w_24, ew_24⟩ : ∃ z9, z9 = hp_set w_23 a (.inr (5, [.ref A0, .ref A1, .ref A2, .ref A3, .ref A4, .ref A5, .ref A6, .ref A7, .ref A8, .ref A9, .ref A10, .ref A11, .null, .null, .null, .null, .null, .null, .null, .null, .null, .null, .null, .null, .null, .int 0, .int 0, .int 0])) := ⟨_, rfl⟩
  have hI : eI G S0 w_24 H := by rw [ew_24]; exact hI
  have hA0 : w_24 A0 = some (.inl (G.2.2.1 2, 14, .inl (fun _ => 0))) := by rw [ew_24, hp_set_ne (hp_ne_ao hA0 ha)]; exact hA0
  have hA1 : w_24 A1 = some (.inl (G.2.2.1 2, 14, .inl (fun _ => 0))) := by rw [ew_24, hp_set_ne (hp_ne_ao hA1 ha)]; exact hA1
  have hA2 : w_24 A2 = some (.inl (G.2.2.1 2, 14, .inl (fun _ => 0))) := by rw [ew_24, hp_set_ne (hp_ne_ao hA2 ha)]; exact hA2
  have hA3 : w_24 A3 = some (.inl (G.2.2.1 2, 14, .inl (fun _ => 0))) := by rw [ew_24, hp_set_ne (hp_ne_ao hA3 ha)]; exact hA3
  have hA4 : w_24 A4 = some (.inl (G.2.2.1 0, 14, .inl (fun _ => 0))) := by rw [ew_24, hp_set_ne (hp_ne_ao hA4 ha)]; exact hA4
  have hA5 : w_24 A5 = some (.inl (G.2.2.1 0, 14, .inl (fun _ => 0))) := by rw [ew_24, hp_set_ne (hp_ne_ao hA5 ha)]; exact hA5
  have hA6 : w_24 A6 = some (.inl (G.2.2.1 0, 14, .inl (fun _ => 0))) := by rw [ew_24, hp_set_ne (hp_ne_ao hA6 ha)]; exact hA6
  have hA7 : w_24 A7 = some (.inl (G.2.2.1 0, 14, .inl (fun _ => 0))) := by rw [ew_24, hp_set_ne (hp_ne_ao hA7 ha)]; exact hA7
  have hA8 : w_24 A8 = some (.inl (G.2.2.1 0, 196, .inl (fun _ => 0))) := by rw [ew_24, hp_set_ne (hp_ne_ao hA8 ha)]; exact hA8
  have hA9 : w_24 A9 = some (.inl (G.2.2.1 0, 14, .inl (fun _ => 0))) := by rw [ew_24, hp_set_ne (hp_ne_ao hA9 ha)]; exact hA9
  have hA10 : w_24 A10 = some (.inl (G.2.2.1 0, 56, .inl (fun _ => 0))) := by rw [ew_24, hp_set_ne (hp_ne_ao hA10 ha)]; exact hA10
  have hA11 : w_24 A11 = some (.inl (G.2.2.1 0, 14, .inl (fun _ => 0))) := by rw [ew_24, hp_set_ne (hp_ne_ao hA11 ha)]; exact hA11
  have ha : w_24 a = some (.inr (5, [.ref A0, .ref A1, .ref A2, .ref A3, .ref A4, .ref A5, .ref A6, .ref A7, .ref A8, .ref A9, .ref A10, .ref A11, .null, .null, .null, .null, .null, .null, .null, .null, .null, .null, .null, .null, .null, .int 0, .int 0, .int 0])) := by rw [ew_24]; exact hp_set_eq _ _ _
  refine lv_aload_n hx hb d_Mo_init_101 rfl (lv_at hl 0 rfl) ?_
  refine lv_bipush (v := 14) hx hb d_Mo_init_102 (by decide) ?_
  have fr12 : ∀ b x, w b = some x → b ≠ a → w_24 b = some x := fun b x hb9 hba => by
    rw [ew_24, hp_set_ne hba, ew_23, hp_set_ne (hp_ne_n hb9 wA11)]
    exact fr11 b x hb9 hba
  refine hp_newa (atype := .int) (N' := 14) (a0 := (14, .inl (fun _ => 0))) hx hb (hg _ k_121) rfl hK hI hS hz 0 rfl (fun _ h => by cases h) (fun _ => rfl) (by decide) (by decide) (by decide) (Nat.le_of_ble_eq_true rfl) (Nat.le_of_ble_eq_true rfl) d_Mo_init_104 (fun A12 H hn_A12 hs_A12 hz_A12 hI hS => ?_)
  obtain ⟨w_25, ew_25⟩ : ∃ z9, z9 = hp_set w_24 A12 (.inl (G.2.2.1 0, 14, .inl (fun _ => 0))) := ⟨_, rfl⟩
  have hI : eI G S0 w_25 H := by rw [ew_25]; exact hI
  have ne_ha_A12 := hp_ne_n ha hn_A12
  have ha : w_25 a = some (.inr (5, [.ref A0, .ref A1, .ref A2, .ref A3, .ref A4, .ref A5, .ref A6, .ref A7, .ref A8, .ref A9, .ref A10, .ref A11, .null, .null, .null, .null, .null, .null, .null, .null, .null, .null, .null, .null, .null, .int 0, .int 0, .int 0])) := by rw [ew_25, hp_set_ne ne_ha_A12]; exact ha
  have ne_hA0_A12 := hp_ne_n hA0 hn_A12
  have hA0 : w_25 A0 = some (.inl (G.2.2.1 2, 14, .inl (fun _ => 0))) := by rw [ew_25, hp_set_ne ne_hA0_A12]; exact hA0
  have ne_hA1_A12 := hp_ne_n hA1 hn_A12
  have hA1 : w_25 A1 = some (.inl (G.2.2.1 2, 14, .inl (fun _ => 0))) := by rw [ew_25, hp_set_ne ne_hA1_A12]; exact hA1
  have ne_hA2_A12 := hp_ne_n hA2 hn_A12
  have hA2 : w_25 A2 = some (.inl (G.2.2.1 2, 14, .inl (fun _ => 0))) := by rw [ew_25, hp_set_ne ne_hA2_A12]; exact hA2
  have ne_hA3_A12 := hp_ne_n hA3 hn_A12
  have hA3 : w_25 A3 = some (.inl (G.2.2.1 2, 14, .inl (fun _ => 0))) := by rw [ew_25, hp_set_ne ne_hA3_A12]; exact hA3
  have ne_hA4_A12 := hp_ne_n hA4 hn_A12
  have hA4 : w_25 A4 = some (.inl (G.2.2.1 0, 14, .inl (fun _ => 0))) := by rw [ew_25, hp_set_ne ne_hA4_A12]; exact hA4
  have ne_hA5_A12 := hp_ne_n hA5 hn_A12
  have hA5 : w_25 A5 = some (.inl (G.2.2.1 0, 14, .inl (fun _ => 0))) := by rw [ew_25, hp_set_ne ne_hA5_A12]; exact hA5
  have ne_hA6_A12 := hp_ne_n hA6 hn_A12
  have hA6 : w_25 A6 = some (.inl (G.2.2.1 0, 14, .inl (fun _ => 0))) := by rw [ew_25, hp_set_ne ne_hA6_A12]; exact hA6
  have ne_hA7_A12 := hp_ne_n hA7 hn_A12
  have hA7 : w_25 A7 = some (.inl (G.2.2.1 0, 14, .inl (fun _ => 0))) := by rw [ew_25, hp_set_ne ne_hA7_A12]; exact hA7
  have ne_hA8_A12 := hp_ne_n hA8 hn_A12
  have hA8 : w_25 A8 = some (.inl (G.2.2.1 0, 196, .inl (fun _ => 0))) := by rw [ew_25, hp_set_ne ne_hA8_A12]; exact hA8
  have ne_hA9_A12 := hp_ne_n hA9 hn_A12
  have hA9 : w_25 A9 = some (.inl (G.2.2.1 0, 14, .inl (fun _ => 0))) := by rw [ew_25, hp_set_ne ne_hA9_A12]; exact hA9
  have ne_hA10_A12 := hp_ne_n hA10 hn_A12
  have hA10 : w_25 A10 = some (.inl (G.2.2.1 0, 56, .inl (fun _ => 0))) := by rw [ew_25, hp_set_ne ne_hA10_A12]; exact hA10
  have ne_hA11_A12 := hp_ne_n hA11 hn_A12
  have hA11 : w_25 A11 = some (.inl (G.2.2.1 0, 14, .inl (fun _ => 0))) := by rw [ew_25, hp_set_ne ne_hA11_A12]; exact hA11
  have hA12 : w_25 A12 = some (.inl (G.2.2.1 0, 14, .inl (fun _ => 0))) := by rw [ew_25]; exact hp_set_eq _ _ _
  have nA12 : a ≠ A12 := ne_ha_A12
  have n0_12 : A0 ≠ A12 := ne_hA0_A12
  have n1_12 : A1 ≠ A12 := ne_hA1_A12
  have n2_12 : A2 ≠ A12 := ne_hA2_A12
  have n3_12 : A3 ≠ A12 := ne_hA3_A12
  have n4_12 : A4 ≠ A12 := ne_hA4_A12
  have n5_12 : A5 ≠ A12 := ne_hA5_A12
  have n6_12 : A6 ≠ A12 := ne_hA6_A12
  have n7_12 : A7 ≠ A12 := ne_hA7_A12
  have n8_12 : A8 ≠ A12 := ne_hA8_A12
  have n9_12 : A9 ≠ A12 := ne_hA9_A12
  have n10_12 : A10 ≠ A12 := ne_hA10_A12
  have n11_12 : A11 ≠ A12 := ne_hA11_A12
  have wA12 : w A12 = none := by
    cases hw : w A12 with
    | none => rfl
    | some x => rw [fr12 A12 x hw (Ne.symm nA12)] at hn_A12; cases hn_A12
  refine hp_putF (ci := 5) (v := .ref A12) (ty := .array .int) (C := R_Mo) (T := F_Mo) (N := 28) hx hb hg i_Mo t_Mo t_Mo_ok n_Mo hown hK hI hS ha rfl 12 (by decide) (hg _ k_785) (fun _ h9 => h9) rfl hin rfl (by decide +kernel) rfl rfl (Nat.le_of_ble_eq_true rfl) d_Mo_init_106 (fun H locs hI hS hsz => ?_)
  obtain ⟨w_26, ew_26⟩ : ∃ z9, z9 = hp_set w_25 a (.inr (5, [.ref A0, .ref A1, .ref A2, .ref A3, .ref A4, .ref A5, .ref A6, .ref A7, .ref A8, .ref A9, .ref A10, .ref A11, .ref A12, .null, .null, .null, .null, .null, .null, .null, .null, .null, .null, .null, .null, .int 0, .int 0, .int 0])) := ⟨_, rfl⟩
  have hI : eI G S0 w_26 H := by rw [ew_26]; exact hI
  have hA0 : w_26 A0 = some (.inl (G.2.2.1 2, 14, .inl (fun _ => 0))) := by rw [ew_26, hp_set_ne (hp_ne_ao hA0 ha)]; exact hA0
  have hA1 : w_26 A1 = some (.inl (G.2.2.1 2, 14, .inl (fun _ => 0))) := by rw [ew_26, hp_set_ne (hp_ne_ao hA1 ha)]; exact hA1
  have hA2 : w_26 A2 = some (.inl (G.2.2.1 2, 14, .inl (fun _ => 0))) := by rw [ew_26, hp_set_ne (hp_ne_ao hA2 ha)]; exact hA2
  have hA3 : w_26 A3 = some (.inl (G.2.2.1 2, 14, .inl (fun _ => 0))) := by rw [ew_26, hp_set_ne (hp_ne_ao hA3 ha)]; exact hA3
  have hA4 : w_26 A4 = some (.inl (G.2.2.1 0, 14, .inl (fun _ => 0))) := by rw [ew_26, hp_set_ne (hp_ne_ao hA4 ha)]; exact hA4
  have hA5 : w_26 A5 = some (.inl (G.2.2.1 0, 14, .inl (fun _ => 0))) := by rw [ew_26, hp_set_ne (hp_ne_ao hA5 ha)]; exact hA5
  have hA6 : w_26 A6 = some (.inl (G.2.2.1 0, 14, .inl (fun _ => 0))) := by rw [ew_26, hp_set_ne (hp_ne_ao hA6 ha)]; exact hA6
  have hA7 : w_26 A7 = some (.inl (G.2.2.1 0, 14, .inl (fun _ => 0))) := by rw [ew_26, hp_set_ne (hp_ne_ao hA7 ha)]; exact hA7
  have hA8 : w_26 A8 = some (.inl (G.2.2.1 0, 196, .inl (fun _ => 0))) := by rw [ew_26, hp_set_ne (hp_ne_ao hA8 ha)]; exact hA8
  have hA9 : w_26 A9 = some (.inl (G.2.2.1 0, 14, .inl (fun _ => 0))) := by rw [ew_26, hp_set_ne (hp_ne_ao hA9 ha)]; exact hA9
  have hA10 : w_26 A10 = some (.inl (G.2.2.1 0, 56, .inl (fun _ => 0))) := by rw [ew_26, hp_set_ne (hp_ne_ao hA10 ha)]; exact hA10
  have hA11 : w_26 A11 = some (.inl (G.2.2.1 0, 14, .inl (fun _ => 0))) := by rw [ew_26, hp_set_ne (hp_ne_ao hA11 ha)]; exact hA11
  have hA12 : w_26 A12 = some (.inl (G.2.2.1 0, 14, .inl (fun _ => 0))) := by rw [ew_26, hp_set_ne (hp_ne_ao hA12 ha)]; exact hA12
  have ha : w_26 a = some (.inr (5, [.ref A0, .ref A1, .ref A2, .ref A3, .ref A4, .ref A5, .ref A6, .ref A7, .ref A8, .ref A9, .ref A10, .ref A11, .ref A12, .null, .null, .null, .null, .null, .null, .null, .null, .null, .null, .null, .null, .int 0, .int 0, .int 0])) := by rw [ew_26]; exact hp_set_eq _ _ _
  refine lv_aload_n hx hb d_Mo_init_109 rfl (lv_at hl 0 rfl) ?_
  refine lv_bipush (v := 14) hx hb d_Mo_init_110 (by decide) ?_
  have fr13 : ∀ b x, w b = some x → b ≠ a → w_26 b = some x := fun b x hb9 hba => by
    rw [ew_26, hp_set_ne hba, ew_25, hp_set_ne (hp_ne_n hb9 wA12)]
    exact fr12 b x hb9 hba
  refine hp_newa (atype := .int) (N' := 14) (a0 := (14, .inl (fun _ => 0))) hx hb (hg _ k_121) rfl hK hI hS hz 0 rfl (fun _ h => by cases h) (fun _ => rfl) (by decide) (by decide) (by decide) (Nat.le_of_ble_eq_true rfl) (Nat.le_of_ble_eq_true rfl) d_Mo_init_112 (fun A13 H hn_A13 hs_A13 hz_A13 hI hS => ?_)
  obtain ⟨w_27, ew_27⟩ : ∃ z9, z9 = hp_set w_26 A13 (.inl (G.2.2.1 0, 14, .inl (fun _ => 0))) := ⟨_, rfl⟩
  have hI : eI G S0 w_27 H := by rw [ew_27]; exact hI
  have ne_ha_A13 := hp_ne_n ha hn_A13
  have ha : w_27 a = some (.inr (5, [.ref A0, .ref A1, .ref A2, .ref A3, .ref A4, .ref A5, .ref A6, .ref A7, .ref A8, .ref A9, .ref A10, .ref A11, .ref A12, .null, .null, .null, .null, .null, .null, .null, .null, .null, .null, .null, .null, .int 0, .int 0, .int 0])) := by rw [ew_27, hp_set_ne ne_ha_A13]; exact ha
  have ne_hA0_A13 := hp_ne_n hA0 hn_A13
  have hA0 : w_27 A0 = some (.inl (G.2.2.1 2, 14, .inl (fun _ => 0))) := by rw [ew_27, hp_set_ne ne_hA0_A13]; exact hA0
  have ne_hA1_A13 := hp_ne_n hA1 hn_A13
  have hA1 : w_27 A1 = some (.inl (G.2.2.1 2, 14, .inl (fun _ => 0))) := by rw [ew_27, hp_set_ne ne_hA1_A13]; exact hA1
  have ne_hA2_A13 := hp_ne_n hA2 hn_A13
  have hA2 : w_27 A2 = some (.inl (G.2.2.1 2, 14, .inl (fun _ => 0))) := by rw [ew_27, hp_set_ne ne_hA2_A13]; exact hA2
  have ne_hA3_A13 := hp_ne_n hA3 hn_A13
  have hA3 : w_27 A3 = some (.inl (G.2.2.1 2, 14, .inl (fun _ => 0))) := by rw [ew_27, hp_set_ne ne_hA3_A13]; exact hA3
  have ne_hA4_A13 := hp_ne_n hA4 hn_A13
  have hA4 : w_27 A4 = some (.inl (G.2.2.1 0, 14, .inl (fun _ => 0))) := by rw [ew_27, hp_set_ne ne_hA4_A13]; exact hA4
  have ne_hA5_A13 := hp_ne_n hA5 hn_A13
  have hA5 : w_27 A5 = some (.inl (G.2.2.1 0, 14, .inl (fun _ => 0))) := by rw [ew_27, hp_set_ne ne_hA5_A13]; exact hA5
  have ne_hA6_A13 := hp_ne_n hA6 hn_A13
  have hA6 : w_27 A6 = some (.inl (G.2.2.1 0, 14, .inl (fun _ => 0))) := by rw [ew_27, hp_set_ne ne_hA6_A13]; exact hA6
  have ne_hA7_A13 := hp_ne_n hA7 hn_A13
  have hA7 : w_27 A7 = some (.inl (G.2.2.1 0, 14, .inl (fun _ => 0))) := by rw [ew_27, hp_set_ne ne_hA7_A13]; exact hA7
  have ne_hA8_A13 := hp_ne_n hA8 hn_A13
  have hA8 : w_27 A8 = some (.inl (G.2.2.1 0, 196, .inl (fun _ => 0))) := by rw [ew_27, hp_set_ne ne_hA8_A13]; exact hA8
  have ne_hA9_A13 := hp_ne_n hA9 hn_A13
  have hA9 : w_27 A9 = some (.inl (G.2.2.1 0, 14, .inl (fun _ => 0))) := by rw [ew_27, hp_set_ne ne_hA9_A13]; exact hA9
  have ne_hA10_A13 := hp_ne_n hA10 hn_A13
  have hA10 : w_27 A10 = some (.inl (G.2.2.1 0, 56, .inl (fun _ => 0))) := by rw [ew_27, hp_set_ne ne_hA10_A13]; exact hA10
  have ne_hA11_A13 := hp_ne_n hA11 hn_A13
  have hA11 : w_27 A11 = some (.inl (G.2.2.1 0, 14, .inl (fun _ => 0))) := by rw [ew_27, hp_set_ne ne_hA11_A13]; exact hA11
  have ne_hA12_A13 := hp_ne_n hA12 hn_A13
  have hA12 : w_27 A12 = some (.inl (G.2.2.1 0, 14, .inl (fun _ => 0))) := by rw [ew_27, hp_set_ne ne_hA12_A13]; exact hA12
  have hA13 : w_27 A13 = some (.inl (G.2.2.1 0, 14, .inl (fun _ => 0))) := by rw [ew_27]; exact hp_set_eq _ _ _
  have nA13 : a ≠ A13 := ne_ha_A13
  have n0_13 : A0 ≠ A13 := ne_hA0_A13
  have n1_13 : A1 ≠ A13 := ne_hA1_A13
  have n2_13 : A2 ≠ A13 := ne_hA2_A13
  have n3_13 : A3 ≠ A13 := ne_hA3_A13
  have n4_13 : A4 ≠ A13 := ne_hA4_A13
  have n5_13 : A5 ≠ A13 := ne_hA5_A13
  have n6_13 : A6 ≠ A13 := ne_hA6_A13
  have n7_13 : A7 ≠ A13 := ne_hA7_A13
  have n8_13 : A8 ≠ A13 := ne_hA8_A13
  have n9_13 : A9 ≠ A13 := ne_hA9_A13
  have n10_13 : A10 ≠ A13 := ne_hA10_A13
  have n11_13 : A11 ≠ A13 := ne_hA11_A13
  have n12_13 : A12 ≠ A13 := ne_hA12_A13
  have wA13 : w A13 = none := by
    cases hw : w A13 with
    | none => rfl
    | some x => rw [fr13 A13 x hw (Ne.symm nA13)] at hn_A13; cases hn_A13
  refine hp_putF (ci := 5) (v := .ref A13) (ty := .array .int) (C := R_Mo) (T := F_Mo) (N := 28) hx hb hg i_Mo t_Mo t_Mo_ok n_Mo hown hK hI hS ha rfl 13 (by decide) (hg _ k_786) (fun _ h9 => h9) rfl hin rfl (by decide +kernel) rfl rfl (Nat.le_of_ble_eq_true rfl) d_Mo_init_114 (fun H locs hI hS hsz => ?_)
  obtain ⟨w_28, ew_28⟩ : ∃ z9, z9 = hp_set w_27 a (.inr (5, [.ref A0, .ref A1, .ref A2, .ref A3, .ref A4, .ref A5, .ref A6, .ref A7, .ref A8, .ref A9, .ref A10, .ref A11, .ref A12, .ref A13, .null, .null, .null, .null, .null, .null, .null, .null, .null, .null, .null, .int 0, .int 0, .int 0])) := ⟨_, rfl⟩
  have hI : eI G S0 w_28 H := by rw [ew_28]; exact hI
  have hA0 : w_28 A0 = some (.inl (G.2.2.1 2, 14, .inl (fun _ => 0))) := by rw [ew_28, hp_set_ne (hp_ne_ao hA0 ha)]; exact hA0
  have hA1 : w_28 A1 = some (.inl (G.2.2.1 2, 14, .inl (fun _ => 0))) := by rw [ew_28, hp_set_ne (hp_ne_ao hA1 ha)]; exact hA1
  have hA2 : w_28 A2 = some (.inl (G.2.2.1 2, 14, .inl (fun _ => 0))) := by rw [ew_28, hp_set_ne (hp_ne_ao hA2 ha)]; exact hA2
  have hA3 : w_28 A3 = some (.inl (G.2.2.1 2, 14, .inl (fun _ => 0))) := by rw [ew_28, hp_set_ne (hp_ne_ao hA3 ha)]; exact hA3
  have hA4 : w_28 A4 = some (.inl (G.2.2.1 0, 14, .inl (fun _ => 0))) := by rw [ew_28, hp_set_ne (hp_ne_ao hA4 ha)]; exact hA4
  have hA5 : w_28 A5 = some (.inl (G.2.2.1 0, 14, .inl (fun _ => 0))) := by rw [ew_28, hp_set_ne (hp_ne_ao hA5 ha)]; exact hA5
  have hA6 : w_28 A6 = some (.inl (G.2.2.1 0, 14, .inl (fun _ => 0))) := by rw [ew_28, hp_set_ne (hp_ne_ao hA6 ha)]; exact hA6
  have hA7 : w_28 A7 = some (.inl (G.2.2.1 0, 14, .inl (fun _ => 0))) := by rw [ew_28, hp_set_ne (hp_ne_ao hA7 ha)]; exact hA7
  have hA8 : w_28 A8 = some (.inl (G.2.2.1 0, 196, .inl (fun _ => 0))) := by rw [ew_28, hp_set_ne (hp_ne_ao hA8 ha)]; exact hA8
  have hA9 : w_28 A9 = some (.inl (G.2.2.1 0, 14, .inl (fun _ => 0))) := by rw [ew_28, hp_set_ne (hp_ne_ao hA9 ha)]; exact hA9
  have hA10 : w_28 A10 = some (.inl (G.2.2.1 0, 56, .inl (fun _ => 0))) := by rw [ew_28, hp_set_ne (hp_ne_ao hA10 ha)]; exact hA10
  have hA11 : w_28 A11 = some (.inl (G.2.2.1 0, 14, .inl (fun _ => 0))) := by rw [ew_28, hp_set_ne (hp_ne_ao hA11 ha)]; exact hA11
  have hA12 : w_28 A12 = some (.inl (G.2.2.1 0, 14, .inl (fun _ => 0))) := by rw [ew_28, hp_set_ne (hp_ne_ao hA12 ha)]; exact hA12
  have hA13 : w_28 A13 = some (.inl (G.2.2.1 0, 14, .inl (fun _ => 0))) := by rw [ew_28, hp_set_ne (hp_ne_ao hA13 ha)]; exact hA13
  have ha : w_28 a = some (.inr (5, [.ref A0, .ref A1, .ref A2, .ref A3, .ref A4, .ref A5, .ref A6, .ref A7, .ref A8, .ref A9, .ref A10, .ref A11, .ref A12, .ref A13, .null, .null, .null, .null, .null, .null, .null, .null, .null, .null, .null, .int 0, .int 0, .int 0])) := by rw [ew_28]; exact hp_set_eq _ _ _
  refine lv_aload_n hx hb d_Mo_init_117 rfl (lv_at hl 0 rfl) ?_
  refine lv_bipush (v := 14) hx hb d_Mo_init_118 (by decide) ?_
  have fr14 : ∀ b x, w b = some x → b ≠ a → w_28 b = some x := fun b x hb9 hba => by
    rw [ew_28, hp_set_ne hba, ew_27, hp_set_ne (hp_ne_n hb9 wA13)]
    exact fr13 b x hb9 hba
  refine hp_newa (atype := .double) (N' := 14) (a0 := (14, .inr (.inr (.inr (.inl (fun _ => FP.dconst0)))))) hx hb (hg _ k_165) rfl hK hI hS hz 1 rfl (fun _ h => by cases h) (fun _ => rfl) (by decide) (by decide) (by decide) (Nat.le_of_ble_eq_true rfl) (Nat.le_of_ble_eq_true rfl) d_Mo_init_120 (fun A14 H hn_A14 hs_A14 hz_A14 hI hS => ?_)
  obtain ⟨w_29, ew_29⟩ : ∃ z9, z9 = hp_set w_28 A14 (.inl (G.2.2.1 1, 14, .inr (.inr (.inr (.inl (fun _ => FP.dconst0)))))) := ⟨_, rfl⟩
  have hI : eI G S0 w_29 H := by rw [ew_29]; exact hI
  have ne_ha_A14 := hp_ne_n ha hn_A14
  have ha : w_29 a = some (.inr (5, [.ref A0, .ref A1, .ref A2, .ref A3, .ref A4, .ref A5, .ref A6, .ref A7, .ref A8, .ref A9, .ref A10, .ref A11, .ref A12, .ref A13, .null, .null, .null, .null, .null, .null, .null, .null, .null, .null, .null, .int 0, .int 0, .int 0])) := by rw [ew_29, hp_set_ne ne_ha_A14]; exact ha
  have ne_hA0_A14 := hp_ne_n hA0 hn_A14
  have hA0 : w_29 A0 = some (.inl (G.2.2.1 2, 14, .inl (fun _ => 0))) := by rw [ew_29, hp_set_ne ne_hA0_A14]; exact hA0
  have ne_hA1_A14 := hp_ne_n hA1 hn_A14
  have hA1 : w_29 A1 = some (.inl (G.2.2.1 2, 14, .inl (fun _ => 0))) := by rw [ew_29, hp_set_ne ne_hA1_A14]; exact hA1
  have ne_hA2_A14 := hp_ne_n hA2 hn_A14
  have hA2 : w_29 A2 = some (.inl (G.2.2.1 2, 14, .inl (fun _ => 0))) := by rw [ew_29, hp_set_ne ne_hA2_A14]; exact hA2
  have ne_hA3_A14 := hp_ne_n hA3 hn_A14
  have hA3 : w_29 A3 = some (.inl (G.2.2.1 2, 14, .inl (fun _ => 0))) := by rw [ew_29, hp_set_ne ne_hA3_A14]; exact hA3
  have ne_hA4_A14 := hp_ne_n hA4 hn_A14
  have hA4 : w_29 A4 = some (.inl (G.2.2.1 0, 14, .inl (fun _ => 0))) := by rw [ew_29, hp_set_ne ne_hA4_A14]; exact hA4
  have ne_hA5_A14 := hp_ne_n hA5 hn_A14
  have hA5 : w_29 A5 = some (.inl (G.2.2.1 0, 14, .inl (fun _ => 0))) := by rw [ew_29, hp_set_ne ne_hA5_A14]; exact hA5
  have ne_hA6_A14 := hp_ne_n hA6 hn_A14
  have hA6 : w_29 A6 = some (.inl (G.2.2.1 0, 14, .inl (fun _ => 0))) := by rw [ew_29, hp_set_ne ne_hA6_A14]; exact hA6
  have ne_hA7_A14 := hp_ne_n hA7 hn_A14
  have hA7 : w_29 A7 = some (.inl (G.2.2.1 0, 14, .inl (fun _ => 0))) := by rw [ew_29, hp_set_ne ne_hA7_A14]; exact hA7
  have ne_hA8_A14 := hp_ne_n hA8 hn_A14
  have hA8 : w_29 A8 = some (.inl (G.2.2.1 0, 196, .inl (fun _ => 0))) := by rw [ew_29, hp_set_ne ne_hA8_A14]; exact hA8
  have ne_hA9_A14 := hp_ne_n hA9 hn_A14
  have hA9 : w_29 A9 = some (.inl (G.2.2.1 0, 14, .inl (fun _ => 0))) := by rw [ew_29, hp_set_ne ne_hA9_A14]; exact hA9
  have ne_hA10_A14 := hp_ne_n hA10 hn_A14
  have hA10 : w_29 A10 = some (.inl (G.2.2.1 0, 56, .inl (fun _ => 0))) := by rw [ew_29, hp_set_ne ne_hA10_A14]; exact hA10
  have ne_hA11_A14 := hp_ne_n hA11 hn_A14
  have hA11 : w_29 A11 = some (.inl (G.2.2.1 0, 14, .inl (fun _ => 0))) := by rw [ew_29, hp_set_ne ne_hA11_A14]; exact hA11
  have ne_hA12_A14 := hp_ne_n hA12 hn_A14
  have hA12 : w_29 A12 = some (.inl (G.2.2.1 0, 14, .inl (fun _ => 0))) := by rw [ew_29, hp_set_ne ne_hA12_A14]; exact hA12
  have ne_hA13_A14 := hp_ne_n hA13 hn_A14
  have hA13 : w_29 A13 = some (.inl (G.2.2.1 0, 14, .inl (fun _ => 0))) := by rw [ew_29, hp_set_ne ne_hA13_A14]; exact hA13
  have hA14 : w_29 A14 = some (.inl (G.2.2.1 1, 14, .inr (.inr (.inr (.inl (fun _ => FP.dconst0)))))) := by rw [ew_29]; exact hp_set_eq _ _ _
  have nA14 : a ≠ A14 := ne_ha_A14
  have n0_14 : A0 ≠ A14 := ne_hA0_A14
  have n1_14 : A1 ≠ A14 := ne_hA1_A14
  have n2_14 : A2 ≠ A14 := ne_hA2_A14
  have n3_14 : A3 ≠ A14 := ne_hA3_A14
  have n4_14 : A4 ≠ A14 := ne_hA4_A14
  have n5_14 : A5 ≠ A14 := ne_hA5_A14
  have n6_14 : A6 ≠ A14 := ne_hA6_A14
  have n7_14 : A7 ≠ A14 := ne_hA7_A14
  have n8_14 : A8 ≠ A14 := ne_hA8_A14
  have n9_14 : A9 ≠ A14 := ne_hA9_A14
  have n10_14 : A10 ≠ A14 := ne_hA10_A14
  have n11_14 : A11 ≠ A14 := ne_hA11_A14
  have n12_14 : A12 ≠ A14 := ne_hA12_A14
  have n13_14 : A13 ≠ A14 := ne_hA13_A14
  have wA14 : w A14 = none := by
    cases hw : w A14 with
    | none => rfl
    | some x => rw [fr14 A14 x hw (Ne.symm nA14)] at hn_A14; cases hn_A14
  refine hp_putF (ci := 5) (v := .ref A14) (ty := .array .double) (C := R_Mo) (T := F_Mo) (N := 28) hx hb hg i_Mo t_Mo t_Mo_ok n_Mo hown hK hI hS ha rfl 14 (by decide) (hg _ k_787) (fun _ h9 => h9) rfl hin rfl (by decide +kernel) rfl rfl (Nat.le_of_ble_eq_true rfl) d_Mo_init_122 (fun H locs hI hS hsz => ?_)
  obtain ⟨w_30, ew_30⟩ : ∃ z9, z9 = hp_set w_29 a (.inr (5, [.ref A0, .ref A1, .ref A2, .ref A3, .ref A4, .ref A5, .ref A6, .ref A7, .ref A8, .ref A9, .ref A10, .ref A11, .ref A12, .ref A13, .ref A14, .null, .null, .null, .null, .null, .null, .null, .null, .null, .null, .int 0, .int 0, .int 0])) := ⟨_, rfl⟩
  have hI : eI G S0 w_30 H := by rw [ew_30]; exact hI
  have hA0 : w_30 A0 = some (.inl (G.2.2.1 2, 14, .inl (fun _ => 0))) := by rw [ew_30, hp_set_ne (hp_ne_ao hA0 ha)]; exact hA0
  have hA1 : w_30 A1 = some (.inl (G.2.2.1 2, 14, .inl (fun _ => 0))) := by rw [ew_30, hp_set_ne (hp_ne_ao hA1 ha)]; exact hA1
  have hA2 : w_30 A2 = some (.inl (G.2.2.1 2, 14, .inl (fun _ => 0))) := by rw [ew_30, hp_set_ne (hp_ne_ao hA2 ha)]; exact hA2
  have hA3 : w_30 A3 = some (.inl (G.2.2.1 2, 14, .inl (fun _ => 0))) := by rw [ew_30, hp_set_ne (hp_ne_ao hA3 ha)]; exact hA3
  have hA4 : w_30 A4 = some (.inl (G.2.2.1 0, 14, .inl (fun _ => 0))) := by rw [ew_30, hp_set_ne (hp_ne_ao hA4 ha)]; exact hA4
  have hA5 : w_30 A5 = some (.inl (G.2.2.1 0, 14, .inl (fun _ => 0))) := by rw [ew_30, hp_set_ne (hp_ne_ao hA5 ha)]; exact hA5
  have hA6 : w_30 A6 = some (.inl (G.2.2.1 0, 14, .inl (fun _ => 0))) := by rw [ew_30, hp_set_ne (hp_ne_ao hA6 ha)]; exact hA6
  have hA7 : w_30 A7 = some (.inl (G.2.2.1 0, 14, .inl (fun _ => 0))) := by rw [ew_30, hp_set_ne (hp_ne_ao hA7 ha)]; exact hA7
  have hA8 : w_30 A8 = some (.inl (G.2.2.1 0, 196, .inl (fun _ => 0))) := by rw [ew_30, hp_set_ne (hp_ne_ao hA8 ha)]; exact hA8
  have hA9 : w_30 A9 = some (.inl (G.2.2.1 0, 14, .inl (fun _ => 0))) := by rw [ew_30, hp_set_ne (hp_ne_ao hA9 ha)]; exact hA9
  have hA10 : w_30 A10 = some (.inl (G.2.2.1 0, 56, .inl (fun _ => 0))) := by rw [ew_30, hp_set_ne (hp_ne_ao hA10 ha)]; exact hA10
  have hA11 : w_30 A11 = some (.inl (G.2.2.1 0, 14, .inl (fun _ => 0))) := by rw [ew_30, hp_set_ne (hp_ne_ao hA11 ha)]; exact hA11
  have hA12 : w_30 A12 = some (.inl (G.2.2.1 0, 14, .inl (fun _ => 0))) := by rw [ew_30, hp_set_ne (hp_ne_ao hA12 ha)]; exact hA12
  have hA13 : w_30 A13 = some (.inl (G.2.2.1 0, 14, .inl (fun _ => 0))) := by rw [ew_30, hp_set_ne (hp_ne_ao hA13 ha)]; exact hA13
  have hA14 : w_30 A14 = some (.inl (G.2.2.1 1, 14, .inr (.inr (.inr (.inl (fun _ => FP.dconst0)))))) := by rw [ew_30, hp_set_ne (hp_ne_ao hA14 ha)]; exact hA14
  have ha : w_30 a = some (.inr (5, [.ref A0, .ref A1, .ref A2, .ref A3, .ref A4, .ref A5, .ref A6, .ref A7, .ref A8, .ref A9, .ref A10, .ref A11, .ref A12, .ref A13, .ref A14, .null, .null, .null, .null, .null, .null, .null, .null, .null, .null, .int 0, .int 0, .int 0])) := by rw [ew_30]; exact hp_set_eq _ _ _
  refine lv_aload_n hx hb d_Mo_init_125 rfl (lv_at hl 0 rfl) ?_
  refine lv_bipush (v := 14) hx hb d_Mo_init_126 (by decide) ?_
  have fr15 : ∀ b x, w b = some x → b ≠ a → w_30 b = some x := fun b x hb9 hba => by
    rw [ew_30, hp_set_ne hba, ew_29, hp_set_ne (hp_ne_n hb9 wA14)]
    exact fr14 b x hb9 hba
  refine hp_newa (atype := .double) (N' := 14) (a0 := (14, .inr (.inr (.inr (.inl (fun _ => FP.dconst0)))))) hx hb (hg _ k_165) rfl hK hI hS hz 1 rfl (fun _ h => by cases h) (fun _ => rfl) (by decide) (by decide) (by decide) (Nat.le_of_ble_eq_true rfl) (Nat.le_of_ble_eq_true rfl) d_Mo_init_128 (fun A15 H hn_A15 hs_A15 hz_A15 hI hS => ?_)
  obtain ⟨w_31, ew_31⟩ : ∃ z9, z9 = hp_set w_30 A15 (.inl (G.2.2.1 1, 14, .inr (.inr (.inr (.inl (fun _ => FP.dconst0)))))) := ⟨_, rfl⟩
  have hI : eI G S0 w_31 H := by rw [ew_31]; exact hI
  have ne_ha_A15 := hp_ne_n ha hn_A15
  have ha : w_31 a = some (.inr (5, [.ref A0, .ref A1, .ref A2, .ref A3, .ref A4, .ref A5, .ref A6, .ref A7, .ref A8, .ref A9, .ref A10, .ref A11, .ref A12, .ref A13, .ref A14, .null, .null, .null, .null, .null, .null, .null, .null, .null, .null, .int 0, .int 0, .int 0])) := by rw [ew_31, hp_set_ne ne_ha_A15]; exact ha
  have ne_hA0_A15 := hp_ne_n hA0 hn_A15
  have hA0 : w_31 A0 = some (.inl (G.2.2.1 2, 14, .inl (fun _ => 0))) := by rw [ew_31, hp_set_ne ne_hA0_A15]; exact hA0
  have ne_hA1_A15 := hp_ne_n hA1 hn_A15
  have hA1 : w_31 A1 = some (.inl (G.2.2.1 2, 14, .inl (fun _ => 0))) := by rw [ew_31, hp_set_ne ne_hA1_A15]; exact hA1
  have ne_hA2_A15 := hp_ne_n hA2 hn_A15
  have hA2 : w_31 A2 = some (.inl (G.2.2.1 2, 14, .inl (fun _ => 0))) := by rw [ew_31, hp_set_ne ne_hA2_A15]; exact hA2
  have ne_hA3_A15 := hp_ne_n hA3 hn_A15
  have hA3 : w_31 A3 = some (.inl (G.2.2.1 2, 14, .inl (fun _ => 0))) := by rw [ew_31, hp_set_ne ne_hA3_A15]; exact hA3
  have ne_hA4_A15 := hp_ne_n hA4 hn_A15
  have hA4 : w_31 A4 = some (.inl (G.2.2.1 0, 14, .inl (fun _ => 0))) := by rw [ew_31, hp_set_ne ne_hA4_A15]; exact hA4
  have ne_hA5_A15 := hp_ne_n hA5 hn_A15
  have hA5 : w_31 A5 = some (.inl (G.2.2.1 0, 14, .inl (fun _ => 0))) := by rw [ew_31, hp_set_ne ne_hA5_A15]; exact hA5
  have ne_hA6_A15 := hp_ne_n hA6 hn_A15
  have hA6 : w_31 A6 = some (.inl (G.2.2.1 0, 14, .inl (fun _ => 0))) := by rw [ew_31, hp_set_ne ne_hA6_A15]; exact hA6
  have ne_hA7_A15 := hp_ne_n hA7 hn_A15
  have hA7 : w_31 A7 = some (.inl (G.2.2.1 0, 14, .inl (fun _ => 0))) := by rw [ew_31, hp_set_ne ne_hA7_A15]; exact hA7
  have ne_hA8_A15 := hp_ne_n hA8 hn_A15
  have hA8 : w_31 A8 = some (.inl (G.2.2.1 0, 196, .inl (fun _ => 0))) := by rw [ew_31, hp_set_ne ne_hA8_A15]; exact hA8
  have ne_hA9_A15 := hp_ne_n hA9 hn_A15
  have hA9 : w_31 A9 = some (.inl (G.2.2.1 0, 14, .inl (fun _ => 0))) := by rw [ew_31, hp_set_ne ne_hA9_A15]; exact hA9
  have ne_hA10_A15 := hp_ne_n hA10 hn_A15
  have hA10 : w_31 A10 = some (.inl (G.2.2.1 0, 56, .inl (fun _ => 0))) := by rw [ew_31, hp_set_ne ne_hA10_A15]; exact hA10
  have ne_hA11_A15 := hp_ne_n hA11 hn_A15
  have hA11 : w_31 A11 = some (.inl (G.2.2.1 0, 14, .inl (fun _ => 0))) := by rw [ew_31, hp_set_ne ne_hA11_A15]; exact hA11
  have ne_hA12_A15 := hp_ne_n hA12 hn_A15
  have hA12 : w_31 A12 = some (.inl (G.2.2.1 0, 14, .inl (fun _ => 0))) := by rw [ew_31, hp_set_ne ne_hA12_A15]; exact hA12
  have ne_hA13_A15 := hp_ne_n hA13 hn_A15
  have hA13 : w_31 A13 = some (.inl (G.2.2.1 0, 14, .inl (fun _ => 0))) := by rw [ew_31, hp_set_ne ne_hA13_A15]; exact hA13
  have ne_hA14_A15 := hp_ne_n hA14 hn_A15
  have hA14 : w_31 A14 = some (.inl (G.2.2.1 1, 14, .inr (.inr (.inr (.inl (fun _ => FP.dconst0)))))) := by rw [ew_31, hp_set_ne ne_hA14_A15]; exact hA14
  have hA15 : w_31 A15 = some (.inl (G.2.2.1 1, 14, .inr (.inr (.inr (.inl (fun _ => FP.dconst0)))))) := by rw [ew_31]; exact hp_set_eq _ _ _
  have nA15 : a ≠ A15 := ne_ha_A15
  have n0_15 : A0 ≠ A15 := ne_hA0_A15
  have n1_15 : A1 ≠ A15 := ne_hA1_A15
  have n2_15 : A2 ≠ A15 := ne_hA2_A15
  have n3_15 : A3 ≠ A15 := ne_hA3_A15
  have n4_15 : A4 ≠ A15 := ne_hA4_A15
  have n5_15 : A5 ≠ A15 := ne_hA5_A15
  have n6_15 : A6 ≠ A15 := ne_hA6_A15
  have n7_15 : A7 ≠ A15 := ne_hA7_A15
  have n8_15 : A8 ≠ A15 := ne_hA8_A15
  have n9_15 : A9 ≠ A15 := ne_hA9_A15
  have n10_15 : A10 ≠ A15 := ne_hA10_A15
  have n11_15 : A11 ≠ A15 := ne_hA11_A15
  have n12_15 : A12 ≠ A15 := ne_hA12_A15
  have n13_15 : A13 ≠ A15 := ne_hA13_A15
  have n14_15 : A14 ≠ A15 := ne_hA14_A15
  have wA15 : w A15 = none := by
    cases hw : w A15 with
    | none => rfl
    | some x => rw [fr15 A15 x hw (Ne.symm nA15)] at hn_A15; cases hn_A15
  refine hp_putF (ci := 5) (v := .ref A15) (ty := .array .double) (C := R_Mo) (T := F_Mo) (N := 28) hx hb hg i_Mo t_Mo t_Mo_ok n_Mo hown hK hI hS ha rfl 15 (by decide) (hg _ k_788) (fun _ h9 => h9) rfl hin rfl (by decide +kernel) rfl rfl (Nat.le_of_ble_eq_true rfl) d_Mo_init_130 (fun H locs hI hS hsz => ?_)
  obtain ⟨w_32, ew_32⟩ : ∃ z9, z9 = hp_set w_31 a (.inr (5, [.ref A0, .ref A1, .ref A2, .ref A3, .ref A4, .ref A5, .ref A6, .ref A7, .ref A8, .ref A9, .ref A10, .ref A11, .ref A12, .ref A13, .ref A14, .ref A15, .null, .null, .null, .null, .null, .null, .null, .null, .null, .int 0, .int 0, .int 0])) := ⟨_, rfl⟩
  have hI : eI G S0 w_32 H := by rw [ew_32]; exact hI
  have hA0 : w_32 A0 = some (.inl (G.2.2.1 2, 14, .inl (fun _ => 0))) := by rw [ew_32, hp_set_ne (hp_ne_ao hA0 ha)]; exact hA0
  have hA1 : w_32 A1 = some (.inl (G.2.2.1 2, 14, .inl (fun _ => 0))) := by rw [ew_32, hp_set_ne (hp_ne_ao hA1 ha)]; exact hA1
  have hA2 : w_32 A2 = some (.inl (G.2.2.1 2, 14, .inl (fun _ => 0))) := by rw [ew_32, hp_set_ne (hp_ne_ao hA2 ha)]; exact hA2
  have hA3 : w_32 A3 = some (.inl (G.2.2.1 2, 14, .inl (fun _ => 0))) := by rw [ew_32, hp_set_ne (hp_ne_ao hA3 ha)]; exact hA3
  have hA4 : w_32 A4 = some (.inl (G.2.2.1 0, 14, .inl (fun _ => 0))) := by rw [ew_32, hp_set_ne (hp_ne_ao hA4 ha)]; exact hA4
  have hA5 : w_32 A5 = some (.inl (G.2.2.1 0, 14, .inl (fun _ => 0))) := by rw [ew_32, hp_set_ne (hp_ne_ao hA5 ha)]; exact hA5
  have hA6 : w_32 A6 = some (.inl (G.2.2.1 0, 14, .inl (fun _ => 0))) := by rw [ew_32, hp_set_ne (hp_ne_ao hA6 ha)]; exact hA6
  have hA7 : w_32 A7 = some (.inl (G.2.2.1 0, 14, .inl (fun _ => 0))) := by rw [ew_32, hp_set_ne (hp_ne_ao hA7 ha)]; exact hA7
  have hA8 : w_32 A8 = some (.inl (G.2.2.1 0, 196, .inl (fun _ => 0))) := by rw [ew_32, hp_set_ne (hp_ne_ao hA8 ha)]; exact hA8
  have hA9 : w_32 A9 = some (.inl (G.2.2.1 0, 14, .inl (fun _ => 0))) := by rw [ew_32, hp_set_ne (hp_ne_ao hA9 ha)]; exact hA9
  have hA10 : w_32 A10 = some (.inl (G.2.2.1 0, 56, .inl (fun _ => 0))) := by rw [ew_32, hp_set_ne (hp_ne_ao hA10 ha)]; exact hA10
  have hA11 : w_32 A11 = some (.inl (G.2.2.1 0, 14, .inl (fun _ => 0))) := by rw [ew_32, hp_set_ne (hp_ne_ao hA11 ha)]; exact hA11
  have hA12 : w_32 A12 = some (.inl (G.2.2.1 0, 14, .inl (fun _ => 0))) := by rw [ew_32, hp_set_ne (hp_ne_ao hA12 ha)]; exact hA12
  have hA13 : w_32 A13 = some (.inl (G.2.2.1 0, 14, .inl (fun _ => 0))) := by rw [ew_32, hp_set_ne (hp_ne_ao hA13 ha)]; exact hA13
  have hA14 : w_32 A14 = some (.inl (G.2.2.1 1, 14, .inr (.inr (.inr (.inl (fun _ => FP.dconst0)))))) := by rw [ew_32, hp_set_ne (hp_ne_ao hA14 ha)]; exact hA14
  have hA15 : w_32 A15 = some (.inl (G.2.2.1 1, 14, .inr (.inr (.inr (.inl (fun _ => FP.dconst0)))))) := by rw [ew_32, hp_set_ne (hp_ne_ao hA15 ha)]; exact hA15
  have ha : w_32 a = some (.inr (5, [.ref A0, .ref A1, .ref A2, .ref A3, .ref A4, .ref A5, .ref A6, .ref A7, .ref A8, .ref A9, .ref A10, .ref A11, .ref A12, .ref A13, .ref A14, .ref A15, .null, .null, .null, .null, .null, .null, .null, .null, .null, .int 0, .int 0, .int 0])) := by rw [ew_32]; exact hp_set_eq _ _ _
  refine lv_aload_n hx hb d_Mo_init_133 rfl (lv_at hl 0 rfl) ?_
  refine lv_bipush (v := 14) hx hb d_Mo_init_134 (by decide) ?_
  have fr16 : ∀ b x, w b = some x → b ≠ a → w_32 b = some x := fun b x hb9 hba => by
    rw [ew_32, hp_set_ne hba, ew_31, hp_set_ne (hp_ne_n hb9 wA15)]
    exact fr15 b x hb9 hba
  refine hp_newa (atype := .double) (N' := 14) (a0 := (14, .inr (.inr (.inr (.inl (fun _ => FP.dconst0)))))) hx hb (hg _ k_165) rfl hK hI hS hz 1 rfl (fun _ h => by cases h) (fun _ => rfl) (by decide) (by decide) (by decide) (Nat.le_of_ble_eq_true rfl) (Nat.le_of_ble_eq_true rfl) d_Mo_init_136 (fun A16 H hn_A16 hs_A16 hz_A16 hI hS => ?_)
  obtain ⟨w_33, ew_33⟩ : ∃ z9, z9 = hp_set w_32 A16 (.inl (G.2.2.1 1, 14, .inr (.inr (.inr (.inl (fun _ => FP.dconst0)))))) := ⟨_, rfl⟩
  have hI : eI G S0 w_33 H := by rw [ew_33]; exact hI
  have ne_ha_A16 := hp_ne_n ha hn_A16
  have ha : w_33 a = some (.inr (5, [.ref A0, .ref A1, .ref A2, .ref A3, .ref A4, .ref A5, .ref A6, .ref A7, .ref A8, .ref A9, .ref A10, .ref A11, .ref A12, .ref A13, .ref A14, .ref A15, .null, .null, .null, .null, .null, .null, .null, .null, .null, .int 0, .int 0, .int 0])) := by rw [ew_33, hp_set_ne ne_ha_A16]; exact ha
  have ne_hA0_A16 := hp_ne_n hA0 hn_A16
  have hA0 : w_33 A0 = some (.inl (G.2.2.1 2, 14, .inl (fun _ => 0))) := by rw [ew_33, hp_set_ne ne_hA0_A16]; exact hA0
  have ne_hA1_A16 := hp_ne_n hA1 hn_A16
  have hA1 : w_33 A1 = some (.inl (G.2.2.1 2, 14, .inl (fun _ => 0))) := by rw [ew_33, hp_set_ne ne_hA1_A16]; exact hA1
  have ne_hA2_A16 := hp_ne_n hA2 hn_A16
  have hA2 : w_33 A2 = some (.inl (G.2.2.1 2, 14, .inl (fun _ => 0))) := by rw [ew_33, hp_set_ne ne_hA2_A16]; exact hA2
  have ne_hA3_A16 := hp_ne_n hA3 hn_A16
  have hA3 : w_33 A3 = some (.inl (G.2.2.1 2, 14, .inl (fun _ => 0))) := by rw [ew_33, hp_set_ne ne_hA3_A16]; exact hA3
  have ne_hA4_A16 := hp_ne_n hA4 hn_A16
  have hA4 : w_33 A4 = some (.inl (G.2.2.1 0, 14, .inl (fun _ => 0))) := by rw [ew_33, hp_set_ne ne_hA4_A16]; exact hA4
  have ne_hA5_A16 := hp_ne_n hA5 hn_A16
  have hA5 : w_33 A5 = some (.inl (G.2.2.1 0, 14, .inl (fun _ => 0))) := by rw [ew_33, hp_set_ne ne_hA5_A16]; exact hA5
  have ne_hA6_A16 := hp_ne_n hA6 hn_A16
  have hA6 : w_33 A6 = some (.inl (G.2.2.1 0, 14, .inl (fun _ => 0))) := by rw [ew_33, hp_set_ne ne_hA6_A16]; exact hA6
  have ne_hA7_A16 := hp_ne_n hA7 hn_A16
  have hA7 : w_33 A7 = some (.inl (G.2.2.1 0, 14, .inl (fun _ => 0))) := by rw [ew_33, hp_set_ne ne_hA7_A16]; exact hA7
  have ne_hA8_A16 := hp_ne_n hA8 hn_A16
  have hA8 : w_33 A8 = some (.inl (G.2.2.1 0, 196, .inl (fun _ => 0))) := by rw [ew_33, hp_set_ne ne_hA8_A16]; exact hA8
  have ne_hA9_A16 := hp_ne_n hA9 hn_A16
  have hA9 : w_33 A9 = some (.inl (G.2.2.1 0, 14, .inl (fun _ => 0))) := by rw [ew_33, hp_set_ne ne_hA9_A16]; exact hA9
  have ne_hA10_A16 := hp_ne_n hA10 hn_A16
  have hA10 : w_33 A10 = some (.inl (G.2.2.1 0, 56, .inl (fun _ => 0))) := by rw [ew_33, hp_set_ne ne_hA10_A16]; exact hA10
  have ne_hA11_A16 := hp_ne_n hA11 hn_A16
  have hA11 : w_33 A11 = some (.inl (G.2.2.1 0, 14, .inl (fun _ => 0))) := by rw [ew_33, hp_set_ne ne_hA11_A16]; exact hA11
  have ne_hA12_A16 := hp_ne_n hA12 hn_A16
  have hA12 : w_33 A12 = some (.inl (G.2.2.1 0, 14, .inl (fun _ => 0))) := by rw [ew_33, hp_set_ne ne_hA12_A16]; exact hA12
  have ne_hA13_A16 := hp_ne_n hA13 hn_A16
  have hA13 : w_33 A13 = some (.inl (G.2.2.1 0, 14, .inl (fun _ => 0))) := by rw [ew_33, hp_set_ne ne_hA13_A16]; exact hA13
  have ne_hA14_A16 := hp_ne_n hA14 hn_A16
  have hA14 : w_33 A14 = some (.inl (G.2.2.1 1, 14, .inr (.inr (.inr (.inl (fun _ => FP.dconst0)))))) := by rw [ew_33, hp_set_ne ne_hA14_A16]; exact hA14
  have ne_hA15_A16 := hp_ne_n hA15 hn_A16
  have hA15 : w_33 A15 = some (.inl (G.2.2.1 1, 14, .inr (.inr (.inr (.inl (fun _ => FP.dconst0)))))) := by rw [ew_33, hp_set_ne ne_hA15_A16]; exact hA15
  have hA16 : w_33 A16 = some (.inl (G.2.2.1 1, 14, .inr (.inr (.inr (.inl (fun _ => FP.dconst0)))))) := by rw [ew_33]; exact hp_set_eq _ _ _
  have nA16 : a ≠ A16 := ne_ha_A16
  have n0_16 : A0 ≠ A16 := ne_hA0_A16
  have n1_16 : A1 ≠ A16 := ne_hA1_A16
  have n2_16 : A2 ≠ A16 := ne_hA2_A16
  have n3_16 : A3 ≠ A16 := ne_hA3_A16
  have n4_16 : A4 ≠ A16 := ne_hA4_A16
  have n5_16 : A5 ≠ A16 := ne_hA5_A16
  have n6_16 : A6 ≠ A16 := ne_hA6_A16
  have n7_16 : A7 ≠ A16 := ne_hA7_A16
  have n8_16 : A8 ≠ A16 := ne_hA8_A16
  have n9_16 : A9 ≠ A16 := ne_hA9_A16
  have n10_16 : A10 ≠ A16 := ne_hA10_A16
  have n11_16 : A11 ≠ A16 := ne_hA11_A16
  have n12_16 : A12 ≠ A16 := ne_hA12_A16
  have n13_16 : A13 ≠ A16 := ne_hA13_A16
  have n14_16 : A14 ≠ A16 := ne_hA14_A16
  have n15_16 : A15 ≠ A16 := ne_hA15_A16
  have wA16 : w A16 = none := by
    cases hw : w A16 with
    | none => rfl
    | some x => rw [fr16 A16 x hw (Ne.symm nA16)] at hn_A16; cases hn_A16
  refine hp_putF (ci := 5) (v := .ref A16) (ty := .array .double) (C := R_Mo) (T := F_Mo) (N := 28) hx hb hg i_Mo t_Mo t_Mo_ok n_Mo hown hK hI hS ha rfl 16 (by decide) (hg _ k_789) (fun _ h9 => h9) rfl hin rfl (by decide +kernel) rfl rfl (Nat.le_of_ble_eq_true rfl) d_Mo_init_138 (fun H locs hI hS hsz => ?_)
  obtain ⟨w_34, ew_34⟩ : ∃ z9, z9 = hp_set w_33 a (.inr (5, [.ref A0, .ref A1, .ref A2, .ref A3, .ref A4, .ref A5, .ref A6, .ref A7, .ref A8, .ref A9, .ref A10, .ref A11, .ref A12, .ref A13, .ref A14, .ref A15, .ref A16, .null, .null, .null, .null, .null, .null, .null, .null, .int 0, .int 0, .int 0])) := ⟨_, rfl⟩
  have hI : eI G S0 w_34 H := by rw [ew_34]; exact hI
  have hA0 : w_34 A0 = some (.inl (G.2.2.1 2, 14, .inl (fun _ => 0))) := by rw [ew_34, hp_set_ne (hp_ne_ao hA0 ha)]; exact hA0
  have hA1 : w_34 A1 = some (.inl (G.2.2.1 2, 14, .inl (fun _ => 0))) := by rw [ew_34, hp_set_ne (hp_ne_ao hA1 ha)]; exact hA1
  have hA2 : w_34 A2 = some (.inl (G.2.2.1 2, 14, .inl (fun _ => 0))) := by rw [ew_34, hp_set_ne (hp_ne_ao hA2 ha)]; exact hA2
  have hA3 : w_34 A3 = some (.inl (G.2.2.1 2, 14, .inl (fun _ => 0))) := by rw [ew_34, hp_set_ne (hp_ne_ao hA3 ha)]; exact hA3
  have hA4 : w_34 A4 = some (.inl (G.2.2.1 0, 14, .inl (fun _ => 0))) := by rw [ew_34, hp_set_ne (hp_ne_ao hA4 ha)]; exact hA4
  have hA5 : w_34 A5 = some (.inl (G.2.2.1 0, 14, .inl (fun _ => 0))) := by rw [ew_34, hp_set_ne (hp_ne_ao hA5 ha)]; exact hA5
  have hA6 : w_34 A6 = some (.inl (G.2.2.1 0, 14, .inl (fun _ => 0))) := by rw [ew_34, hp_set_ne (hp_ne_ao hA6 ha)]; exact hA6
  have hA7 : w_34 A7 = some (.inl (G.2.2.1 0, 14, .inl (fun _ => 0))) := by rw [ew_34, hp_set_ne (hp_ne_ao hA7 ha)]; exact hA7
  have hA8 : w_34 A8 = some (.inl (G.2.2.1 0, 196, .inl (fun _ => 0))) := by rw [ew_34, hp_set_ne (hp_ne_ao hA8 ha)]; exact hA8
  have hA9 : w_34 A9 = some (.inl (G.2.2.1 0, 14, .inl (fun _ => 0))) := by rw [ew_34, hp_set_ne (hp_ne_ao hA9 ha)]; exact hA9
  have hA10 : w_34 A10 = some (.inl (G.2.2.1 0, 56, .inl (fun _ => 0))) := by rw [ew_34, hp_set_ne (hp_ne_ao hA10 ha)]; exact hA10
  have hA11 : w_34 A11 = some (.inl (G.2.2.1 0, 14, .inl (fun _ => 0))) := by rw [ew_34, hp_set_ne (hp_ne_ao hA11 ha)]; exact hA11
  have hA12 : w_34 A12 = some (.inl (G.2.2.1 0, 14, .inl (fun _ => 0))) := by rw [ew_34, hp_set_ne (hp_ne_ao hA12 ha)]; exact hA12
  have hA13 : w_34 A13 = some (.inl (G.2.2.1 0, 14, .inl (fun _ => 0))) := by rw [ew_34, hp_set_ne (hp_ne_ao hA13 ha)]; exact hA13
  have hA14 : w_34 A14 = some (.inl (G.2.2.1 1, 14, .inr (.inr (.inr (.inl (fun _ => FP.dconst0)))))) := by rw [ew_34, hp_set_ne (hp_ne_ao hA14 ha)]; exact hA14
  have hA15 : w_34 A15 = some (.inl (G.2.2.1 1, 14, .inr (.inr (.inr (.inl (fun _ => FP.dconst0)))))) := by rw [ew_34, hp_set_ne (hp_ne_ao hA15 ha)]; exact hA15
  have hA16 : w_34 A16 = some (.inl (G.2.2.1 1, 14, .inr (.inr (.inr (.inl (fun _ => FP.dconst0)))))) := by rw [ew_34, hp_set_ne (hp_ne_ao hA16 ha)]; exact hA16
  have ha : w_34 a = some (.inr (5, [.ref A0, .ref A1, .ref A2, .ref A3, .ref A4, .ref A5, .ref A6, .ref A7, .ref A8, .ref A9, .ref A10, .ref A11, .ref A12, .ref A13, .ref A14, .ref A15, .ref A16, .null, .null, .null, .null, .null, .null, .null, .null, .int 0, .int 0, .int 0])) := by rw [ew_34]; exact hp_set_eq _ _ _
  refine lv_aload_n hx hb d_Mo_init_141 rfl (lv_at hl 0 rfl) ?_
  refine lv_bipush (v := 56) hx hb d_Mo_init_142 (by decide) ?_
  have fr17 : ∀ b x, w b = some x → b ≠ a → w_34 b = some x := fun b x hb9 hba => by
    rw [ew_34, hp_set_ne hba, ew_33, hp_set_ne (hp_ne_n hb9 wA16)]
    exact fr16 b x hb9 hba
  refine hp_newa (atype := .double) (N' := 56) (a0 := (56, .inr (.inr (.inr (.inl (fun _ => FP.dconst0)))))) hx hb (hg _ k_165) rfl hK hI hS hz 1 rfl (fun _ h => by cases h) (fun _ => rfl) (by decide) (by decide) (by decide) (Nat.le_of_ble_eq_true rfl) (Nat.le_of_ble_eq_true rfl) d_Mo_init_144 (fun A17 H hn_A17 hs_A17 hz_A17 hI hS => ?_)
  obtain ⟨w_35, ew_35⟩ : ∃ z9, z9 = hp_set w_34 A17 (.inl (G.2.2.1 1, 56, .inr (.inr (.inr (.inl (fun _ => FP.dconst0)))))) := ⟨_, rfl⟩
  have hI : eI G S0 w_35 H := by rw [ew_35]; exact hI
  have ne_ha_A17 := hp_ne_n ha hn_A17
  have ha : w_35 a = some (.inr (5, [.ref A0, .ref A1, .ref A2, .ref A3, .ref A4, .ref A5, .ref A6, .ref A7, .ref A8, .ref A9, .ref A10, .ref A11, .ref A12, .ref A13, .ref A14, .ref A15, .ref A16, .null, .null, .null, .null, .null, .null, .null, .null, .int 0, .int 0, .int 0])) := by rw [ew_35, hp_set_ne ne_ha_A17]; exact ha
  have ne_hA0_A17 := hp_ne_n hA0 hn_A17
  have hA0 : w_35 A0 = some (.inl (G.2.2.1 2, 14, .inl (fun _ => 0))) := by rw [ew_35, hp_set_ne ne_hA0_A17]; exact hA0
  have ne_hA1_A17 := hp_ne_n hA1 hn_A17
  have hA1 : w_35 A1 = some (.inl (G.2.2.1 2, 14, .inl (fun _ => 0))) := by rw [ew_35, hp_set_ne ne_hA1_A17]; exact hA1
  have ne_hA2_A17 := hp_ne_n hA2 hn_A17
  have hA2 : w_35 A2 = some (.inl (G.2.2.1 2, 14, .inl (fun _ => 0))) := by rw [ew_35, hp_set_ne ne_hA2_A17]; exact hA2
  have ne_hA3_A17 := hp_ne_n hA3 hn_A17
  have hA3 : w_35 A3 = some (.inl (G.2.2.1 2, 14, .inl (fun _ => 0))) := by rw [ew_35, hp_set_ne ne_hA3_A17]; exact hA3
  have ne_hA4_A17 := hp_ne_n hA4 hn_A17
  have hA4 : w_35 A4 = some (.inl (G.2.2.1 0, 14, .inl (fun _ => 0))) := by rw [ew_35, hp_set_ne ne_hA4_A17]; exact hA4
  have ne_hA5_A17 := hp_ne_n hA5 hn_A17
  have hA5 : w_35 A5 = some (.inl (G.2.2.1 0, 14, .inl (fun _ => 0))) := by rw [ew_35, hp_set_ne ne_hA5_A17]; exact hA5
  have ne_hA6_A17 := hp_ne_n hA6 hn_A17
  have hA6 : w_35 A6 = some (.inl (G.2.2.1 0, 14, .inl (fun _ => 0))) := by rw [ew_35, hp_set_ne ne_hA6_A17]; exact hA6
  have ne_hA7_A17 := hp_ne_n hA7 hn_A17
  have hA7 : w_35 A7 = some (.inl (G.2.2.1 0, 14, .inl (fun _ => 0))) := by rw [ew_35, hp_set_ne ne_hA7_A17]; exact hA7
  have ne_hA8_A17 := hp_ne_n hA8 hn_A17
  have hA8 : w_35 A8 = some (.inl (G.2.2.1 0, 196, .inl (fun _ => 0))) := by rw [ew_35, hp_set_ne ne_hA8_A17]; exact hA8
  have ne_hA9_A17 := hp_ne_n hA9 hn_A17
  have hA9 : w_35 A9 = some (.inl (G.2.2.1 0, 14, .inl (fun _ => 0))) := by rw [ew_35, hp_set_ne ne_hA9_A17]; exact hA9
  have ne_hA10_A17 := hp_ne_n hA10 hn_A17
  have hA10 : w_35 A10 = some (.inl (G.2.2.1 0, 56, .inl (fun _ => 0))) := by rw [ew_35, hp_set_ne ne_hA10_A17]; exact hA10
  have ne_hA11_A17 := hp_ne_n hA11 hn_A17
  have hA11 : w_35 A11 = some (.inl (G.2.2.1 0, 14, .inl (fun _ => 0))) := by rw [ew_35, hp_set_ne ne_hA11_A17]; exact hA11
  have ne_hA12_A17 := hp_ne_n hA12 hn_A17
  have hA12 : w_35 A12 = some (.inl (G.2.2.1 0, 14, .inl (fun _ => 0))) := by rw [ew_35, hp_set_ne ne_hA12_A17]; exact hA12
  have ne_hA13_A17 := hp_ne_n hA13 hn_A17
  have hA13 : w_35 A13 = some (.inl (G.2.2.1 0, 14, .inl (fun _ => 0))) := by rw [ew_35, hp_set_ne ne_hA13_A17]; exact hA13
  have ne_hA14_A17 := hp_ne_n hA14 hn_A17
  have hA14 : w_35 A14 = some (.inl (G.2.2.1 1, 14, .inr (.inr (.inr (.inl (fun _ => FP.dconst0)))))) := by rw [ew_35, hp_set_ne ne_hA14_A17]; exact hA14
  have ne_hA15_A17 := hp_ne_n hA15 hn_A17
  have hA15 : w_35 A15 = some (.inl (G.2.2.1 1, 14, .inr (.inr (.inr (.inl (fun _ => FP.dconst0)))))) := by rw [ew_35, hp_set_ne ne_hA15_A17]; exact hA15
  have ne_hA16_A17 := hp_ne_n hA16 hn_A17
  have hA16 : w_35 A16 = some (.inl (G.2.2.1 1, 14, .inr (.inr (.inr (.inl (fun _ => FP.dconst0)))))) := by rw [ew_35, hp_set_ne ne_hA16_A17]; exact hA16
  have hA17 : w_35 A17 = some (.inl (G.2.2.1 1, 56, .inr (.inr (.inr (.inl (fun _ => FP.dconst0)))))) := by rw [ew_35]; exact hp_set_eq _ _ _
  have nA17 : a ≠ A17 := ne_ha_A17
  have n0_17 : A0 ≠ A17 := ne_hA0_A17
  have n1_17 : A1 ≠ A17 := ne_hA1_A17
  have n2_17 : A2 ≠ A17 := ne_hA2_A17
  have n3_17 : A3 ≠ A17 := ne_hA3_A17
  have n4_17 : A4 ≠ A17 := ne_hA4_A17
  have n5_17 : A5 ≠ A17 := ne_hA5_A17
  have n6_17 : A6 ≠ A17 := ne_hA6_A17
  have n7_17 : A7 ≠ A17 := ne_hA7_A17
  have n8_17 : A8 ≠ A17 := ne_hA8_A17
  have n9_17 : A9 ≠ A17 := ne_hA9_A17
  have n10_17 : A10 ≠ A17 := ne_hA10_A17
  have n11_17 : A11 ≠ A17 := ne_hA11_A17
  have n12_17 : A12 ≠ A17 := ne_hA12_A17
  have n13_17 : A13 ≠ A17 := ne_hA13_A17
  have n14_17 : A14 ≠ A17 := ne_hA14_A17
  have n15_17 : A15 ≠ A17 := ne_hA15_A17
  have n16_17 : A16 ≠ A17 := ne_hA16_A17
  have wA17 : w A17 = none := by
    cases hw : w A17 with
    | none => rfl
    | some x => rw [fr17 A17 x hw (Ne.symm nA17)] at hn_A17; cases hn_A17
  refine hp_putF (ci := 5) (v := .ref A17) (ty := .array .double) (C := R_Mo) (T := F_Mo) (N := 28) hx hb hg i_Mo t_Mo t_Mo_ok n_Mo hown hK hI hS ha rfl 17 (by decide) (hg _ k_790) (fun _ h9 => h9) rfl hin rfl (by decide +kernel) rfl rfl (Nat.le_of_ble_eq_true rfl) d_Mo_init_146 (fun H locs hI hS hsz => ?_)
  obtain ⟨w_36, ew_36⟩ : ∃ z9, z9 = hp_set w_35 a (.inr (5, [.ref A0, .ref A1, .ref A2, .ref A3, .ref A4, .ref A5, .ref A6, .ref A7, .ref A8, .ref A9, .ref A10, .ref A11, .ref A12, .ref A13, .ref A14, .ref A15, .ref A16, .ref A17, .null, .null, .null, .null, .null, .null, .null, .int 0, .int 0, .int 0])) := ⟨_, rfl⟩
  have hI : eI G S0 w_36 H := by rw [ew_36]; exact hI
  have hA0 : w_36 A0 = some (.inl (G.2.2.1 2, 14, .inl (fun _ => 0))) := by rw [ew_36, hp_set_ne (hp_ne_ao hA0 ha)]; exact hA0
  have hA1 : w_36 A1 = some (.inl (G.2.2.1 2, 14, .inl (fun _ => 0))) := by rw [ew_36, hp_set_ne (hp_ne_ao hA1 ha)]; exact hA1
  have hA2 : w_36 A2 = some (.inl (G.2.2.1 2, 14, .inl (fun _ => 0))) := by rw [ew_36, hp_set_ne (hp_ne_ao hA2 ha)]; exact hA2
  have hA3 : w_36 A3 = some (.inl (G.2.2.1 2, 14, .inl (fun _ => 0))) := by rw [ew_36, hp_set_ne (hp_ne_ao hA3 ha)]; exact hA3
  have hA4 : w_36 A4 = some (.inl (G.2.2.1 0, 14, .inl (fun _ => 0))) := by rw [ew_36, hp_set_ne (hp_ne_ao hA4 ha)]; exact hA4
  have hA5 : w_36 A5 = some (.inl (G.2.2.1 0, 14, .inl (fun _ => 0))) := by rw [ew_36, hp_set_ne (hp_ne_ao hA5 ha)]; exact hA5
  have hA6 : w_36 A6 = some (.inl (G.2.2.1 0, 14, .inl (fun _ => 0))) := by rw [ew_36, hp_set_ne (hp_ne_ao hA6 ha)]; exact hA6
  have hA7 : w_36 A7 = some (.inl (G.2.2.1 0, 14, .inl (fun _ => 0))) := by rw [ew_36, hp_set_ne (hp_ne_ao hA7 ha)]; exact hA7
  have hA8 : w_36 A8 = some (.inl (G.2.2.1 0, 196, .inl (fun _ => 0))) := by rw [ew_36, hp_set_ne (hp_ne_ao hA8 ha)]; exact hA8
  have hA9 : w_36 A9 = some (.inl (G.2.2.1 0, 14, .inl (fun _ => 0))) := by rw [ew_36, hp_set_ne (hp_ne_ao hA9 ha)]; exact hA9
  have hA10 : w_36 A10 = some (.inl (G.2.2.1 0, 56, .inl (fun _ => 0))) := by rw [ew_36, hp_set_ne (hp_ne_ao hA10 ha)]; exact hA10
  have hA11 : w_36 A11 = some (.inl (G.2.2.1 0, 14, .inl (fun _ => 0))) := by rw [ew_36, hp_set_ne (hp_ne_ao hA11 ha)]; exact hA11
  have hA12 : w_36 A12 = some (.inl (G.2.2.1 0, 14, .inl (fun _ => 0))) := by rw [ew_36, hp_set_ne (hp_ne_ao hA12 ha)]; exact hA12
  have hA13 : w_36 A13 = some (.inl (G.2.2.1 0, 14, .inl (fun _ => 0))) := by rw [ew_36, hp_set_ne (hp_ne_ao hA13 ha)]; exact hA13
  have hA14 : w_36 A14 = some (.inl (G.2.2.1 1, 14, .inr (.inr (.inr (.inl (fun _ => FP.dconst0)))))) := by rw [ew_36, hp_set_ne (hp_ne_ao hA14 ha)]; exact hA14
  have hA15 : w_36 A15 = some (.inl (G.2.2.1 1, 14, .inr (.inr (.inr (.inl (fun _ => FP.dconst0)))))) := by rw [ew_36, hp_set_ne (hp_ne_ao hA15 ha)]; exact hA15
  have hA16 : w_36 A16 = some (.inl (G.2.2.1 1, 14, .inr (.inr (.inr (.inl (fun _ => FP.dconst0)))))) := by rw [ew_36, hp_set_ne (hp_ne_ao hA16 ha)]; exact hA16
  have hA17 : w_36 A17 = some (.inl (G.2.2.1 1, 56, .inr (.inr (.inr (.inl (fun _ => FP.dconst0)))))) := by rw [ew_36, hp_set_ne (hp_ne_ao hA17 ha)]; exact hA17
  have ha : w_36 a = some (.inr (5, [.ref A0, .ref A1, .ref A2, .ref A3, .ref A4, .ref A5, .ref A6, .ref A7, .ref A8, .ref A9, .ref A10, .ref A11, .ref A12, .ref A13, .ref A14, .ref A15, .ref A16, .ref A17, .null, .null, .null, .null, .null, .null, .null, .int 0, .int 0, .int 0])) := by rw [ew_36]; exact hp_set_eq _ _ _
  refine lv_aload_n hx hb d_Mo_init_149 rfl (lv_at hl 0 rfl) ?_
  refine lv_sipush (v := 224) hx hb d_Mo_init_150 (by decide) ?_
  have fr18 : ∀ b x, w b = some x → b ≠ a → w_36 b = some x := fun b x hb9 hba => by
    rw [ew_36, hp_set_ne hba, ew_35, hp_set_ne (hp_ne_n hb9 wA17)]
    exact fr17 b x hb9 hba
  refine hp_newa (atype := .double) (N' := 224) (a0 := (224, .inr (.inr (.inr (.inl (fun _ => FP.dconst0)))))) hx hb (hg _ k_165) rfl hK hI hS hz 1 rfl (fun _ h => by cases h) (fun _ => rfl) (by decide) (by decide) (by decide) (Nat.le_of_ble_eq_true rfl) (Nat.le_of_ble_eq_true rfl) d_Mo_init_153 (fun A18 H hn_A18 hs_A18 hz_A18 hI hS => ?_)
  obtain ⟨w_37, ew_37⟩ : ∃ z9, z9 = hp_set w_36 A18 (.inl (G.2.2.1 1, 224, .inr (.inr (.inr (.inl (fun _ => FP.dconst0)))))) := ⟨_, rfl⟩
  have hI : eI G S0 w_37 H := by rw [ew_37]; exact hI
  have ne_ha_A18 := hp_ne_n ha hn_A18
  have ha : w_37 a = some (.inr (5, [.ref A0, .ref A1, .ref A2, .ref A3, .ref A4, .ref A5, .ref A6, .ref A7, .ref A8, .ref A9, .ref A10, .ref A11, .ref A12, .ref A13, .ref A14, .ref A15, .ref A16, .ref A17, .null, .null, .null, .null, .null, .null, .null, .int 0, .int 0, .int 0])) := by rw [ew_37, hp_set_ne ne_ha_A18]; exact ha
  have ne_hA0_A18 := hp_ne_n hA0 hn_A18
  have hA0 : w_37 A0 = some (.inl (G.2.2.1 2, 14, .inl (fun _ => 0))) := by rw [ew_37, hp_set_ne ne_hA0_A18]; exact hA0
  have ne_hA1_A18 := hp_ne_n hA1 hn_A18
  have hA1 : w_37 A1 = some (.inl (G.2.2.1 2, 14, .inl (fun _ => 0))) := by rw [ew_37, hp_set_ne ne_hA1_A18]; exact hA1
  have ne_hA2_A18 := hp_ne_n hA2 hn_A18
  have hA2 : w_37 A2 = some (.inl (G.2.2.1 2, 14, .inl (fun _ => 0))) := by rw [ew_37, hp_set_ne ne_hA2_A18]; exact hA2
  have ne_hA3_A18 := hp_ne_n hA3 hn_A18
  have hA3 : w_37 A3 = some (.inl (G.2.2.1 2, 14, .inl (fun _ => 0))) := by rw [ew_37, hp_set_ne ne_hA3_A18]; exact hA3
  have ne_hA4_A18 := hp_ne_n hA4 hn_A18
  have hA4 : w_37 A4 = some (.inl (G.2.2.1 0, 14, .inl (fun _ => 0))) := by rw [ew_37, hp_set_ne ne_hA4_A18]; exact hA4
  have ne_hA5_A18 := hp_ne_n hA5 hn_A18
  have hA5 : w_37 A5 = some (.inl (G.2.2.1 0, 14, .inl (fun _ => 0))) := by rw [ew_37, hp_set_ne ne_hA5_A18]; exact hA5
  have ne_hA6_A18 := hp_ne_n hA6 hn_A18
  have hA6 : w_37 A6 = some (.inl (G.2.2.1 0, 14, .inl (fun _ => 0))) := by rw [ew_37, hp_set_ne ne_hA6_A18]; exact hA6
  have ne_hA7_A18 := hp_ne_n hA7 hn_A18
  have hA7 : w_37 A7 = some (.inl (G.2.2.1 0, 14, .inl (fun _ => 0))) := by rw [ew_37, hp_set_ne ne_hA7_A18]; exact hA7
  have ne_hA8_A18 := hp_ne_n hA8 hn_A18
  have hA8 : w_37 A8 = some (.inl (G.2.2.1 0, 196, .inl (fun _ => 0))) := by rw [ew_37, hp_set_ne ne_hA8_A18]; exact hA8
  have ne_hA9_A18 := hp_ne_n hA9 hn_A18
  have hA9 : w_37 A9 = some (.inl (G.2.2.1 0, 14, .inl (fun _ => 0))) := by rw [ew_37, hp_set_ne ne_hA9_A18]; exact hA9
  have ne_hA10_A18 := hp_ne_n hA10 hn_A18
  have hA10 : w_37 A10 = some (.inl (G.2.2.1 0, 56, .inl (fun _ => 0))) := by rw [ew_37, hp_set_ne ne_hA10_A18]; exact hA10
  have ne_hA11_A18 := hp_ne_n hA11 hn_A18
  have hA11 : w_37 A11 = some (.inl (G.2.2.1 0, 14, .inl (fun _ => 0))) := by rw [ew_37, hp_set_ne ne_hA11_A18]; exact hA11
  have ne_hA12_A18 := hp_ne_n hA12 hn_A18
  have hA12 : w_37 A12 = some (.inl (G.2.2.1 0, 14, .inl (fun _ => 0))) := by rw [ew_37, hp_set_ne ne_hA12_A18]; exact hA12
  have ne_hA13_A18 := hp_ne_n hA13 hn_A18
  have hA13 : w_37 A13 = some (.inl (G.2.2.1 0, 14, .inl (fun _ => 0))) := by rw [ew_37, hp_set_ne ne_hA13_A18]; exact hA13
  have ne_hA14_A18 := hp_ne_n hA14 hn_A18
  have hA14 : w_37 A14 = some (.inl (G.2.2.1 1, 14, .inr (.inr (.inr (.inl (fun _ => FP.dconst0)))))) := by rw [ew_37, hp_set_ne ne_hA14_A18]; exact hA14
  have ne_hA15_A18 := hp_ne_n hA15 hn_A18
  have hA15 : w_37 A15 = some (.inl (G.2.2.1 1, 14, .inr (.inr (.inr (.inl (fun _ => FP.dconst0)))))) := by rw [ew_37, hp_set_ne ne_hA15_A18]; exact hA15
  have ne_hA16_A18 := hp_ne_n hA16 hn_A18
  have hA16 : w_37 A16 = some (.inl (G.2.2.1 1, 14, .inr (.inr (.inr (.inl (fun _ => FP.dconst0)))))) := by rw [ew_37, hp_set_ne ne_hA16_A18]; exact hA16
  have ne_hA17_A18 := hp_ne_n hA17 hn_A18
  have hA17 : w_37 A17 = some (.inl (G.2.2.1 1, 56, .inr (.inr (.inr (.inl (fun _ => FP.dconst0)))))) := by rw [ew_37, hp_set_ne ne_hA17_A18]; exact hA17
  have hA18 : w_37 A18 = some (.inl (G.2.2.1 1, 224, .inr (.inr (.inr (.inl (fun _ => FP.dconst0)))))) := by rw [ew_37]; exact hp_set_eq _ _ _
  have nA18 : a ≠ A18 := ne_ha_A18
  have n0_18 : A0 ≠ A18 := ne_hA0_A18
  have n1_18 : A1 ≠ A18 := ne_hA1_A18
  have n2_18 : A2 ≠ A18 := ne_hA2_A18
  have n3_18 : A3 ≠ A18 := ne_hA3_A18
  have n4_18 : A4 ≠ A18 := ne_hA4_A18
  have n5_18 : A5 ≠ A18 := ne_hA5_A18
  have n6_18 : A6 ≠ A18 := ne_hA6_A18
  have n7_18 : A7 ≠ A18 := ne_hA7_A18
  have n8_18 : A8 ≠ A18 := ne_hA8_A18
  have n9_18 : A9 ≠ A18 := ne_hA9_A18
  have n10_18 : A10 ≠ A18 := ne_hA10_A18
  have n11_18 : A11 ≠ A18 := ne_hA11_A18
  have n12_18 : A12 ≠ A18 := ne_hA12_A18
  have n13_18 : A13 ≠ A18 := ne_hA13_A18
  have n14_18 : A14 ≠ A18 := ne_hA14_A18
  have n15_18 : A15 ≠ A18 := ne_hA15_A18
  have n16_18 : A16 ≠ A18 := ne_hA16_A18
  have n17_18 : A17 ≠ A18 := ne_hA17_A18
  have wA18 : w A18 = none := by
    cases hw : w A18 with
    | none => rfl
    | some x => rw [fr18 A18 x hw (Ne.symm nA18)] at hn_A18; cases hn_A18
  refine hp_putF (ci := 5) (v := .ref A18) (ty := .array .double) (C := R_Mo) (T := F_Mo) (N := 28) hx hb hg i_Mo t_Mo t_Mo_ok n_Mo hown hK hI hS ha rfl 18 (by decide) (hg _ k_791) (fun _ h9 => h9) rfl hin rfl (by decide +kernel) rfl rfl (Nat.le_of_ble_eq_true rfl) d_Mo_init_155 (fun H locs hI hS hsz => ?_)
  obtain ⟨w_38, ew_38⟩ : ∃ z9, z9 = hp_set w_37 a (.inr (5, [.ref A0, .ref A1, .ref A2, .ref A3, .ref A4, .ref A5, .ref A6, .ref A7, .ref A8, .ref A9, .ref A10, .ref A11, .ref A12, .ref A13, .ref A14, .ref A15, .ref A16, .ref A17, .ref A18, .null, .null, .null, .null, .null, .null, .int 0, .int 0, .int 0])) := ⟨_, rfl⟩
  have hI : eI G S0 w_38 H := by rw [ew_38]; exact hI
  have hA0 : w_38 A0 = some (.inl (G.2.2.1 2, 14, .inl (fun _ => 0))) := by rw [ew_38, hp_set_ne (hp_ne_ao hA0 ha)]; exact hA0
  have hA1 : w_38 A1 = some (.inl (G.2.2.1 2, 14, .inl (fun _ => 0))) := by rw [ew_38, hp_set_ne (hp_ne_ao hA1 ha)]; exact hA1
  have hA2 : w_38 A2 = some (.inl (G.2.2.1 2, 14, .inl (fun _ => 0))) := by rw [ew_38, hp_set_ne (hp_ne_ao hA2 ha)]; exact hA2
  have hA3 : w_38 A3 = some (.inl (G.2.2.1 2, 14, .inl (fun _ => 0))) := by rw [ew_38, hp_set_ne (hp_ne_ao hA3 ha)]; exact hA3
  have hA4 : w_38 A4 = some (.inl (G.2.2.1 0, 14, .inl (fun _ => 0))) := by rw [ew_38, hp_set_ne (hp_ne_ao hA4 ha)]; exact hA4
  have hA5 : w_38 A5 = some (.inl (G.2.2.1 0, 14, .inl (fun _ => 0))) := by rw [ew_38, hp_set_ne (hp_ne_ao hA5 ha)]; exact hA5
  have hA6 : w_38 A6 = some (.inl (G.2.2.1 0, 14, .inl (fun _ => 0))) := by rw [ew_38, hp_set_ne (hp_ne_ao hA6 ha)]; exact hA6
  have hA7 : w_38 A7 = some (.inl (G.2.2.1 0, 14, .inl (fun _ => 0))) := by rw [ew_38, hp_set_ne (hp_ne_ao hA7 ha)]; exact hA7
  have hA8 : w_38 A8 = some (.inl (G.2.2.1 0, 196, .inl (fun _ => 0))) := by rw [ew_38, hp_set_ne (hp_ne_ao hA8 ha)]; exact hA8
  have hA9 : w_38 A9 = some (.inl (G.2.2.1 0, 14, .inl (fun _ => 0))) := by rw [ew_38, hp_set_ne (hp_ne_ao hA9 ha)]; exact hA9
  have hA10 : w_38 A10 = some (.inl (G.2.2.1 0, 56, .inl (fun _ => 0))) := by rw [ew_38, hp_set_ne (hp_ne_ao hA10 ha)]; exact hA10
  have hA11 : w_38 A11 = some (.inl (G.2.2.1 0, 14, .inl (fun _ => 0))) := by rw [ew_38, hp_set_ne (hp_ne_ao hA11 ha)]; exact hA11
  have hA12 : w_38 A12 = some (.inl (G.2.2.1 0, 14, .inl (fun _ => 0))) := by rw [ew_38, hp_set_ne (hp_ne_ao hA12 ha)]; exact hA12
  have hA13 : w_38 A13 = some (.inl (G.2.2.1 0, 14, .inl (fun _ => 0))) := by rw [ew_38, hp_set_ne (hp_ne_ao hA13 ha)]; exact hA13
  have hA14 : w_38 A14 = some (.inl (G.2.2.1 1, 14, .inr (.inr (.inr (.inl (fun _ => FP.dconst0)))))) := by rw [ew_38, hp_set_ne (hp_ne_ao hA14 ha)]; exact hA14
  have hA15 : w_38 A15 = some (.inl (G.2.2.1 1, 14, .inr (.inr (.inr (.inl (fun _ => FP.dconst0)))))) := by rw [ew_38, hp_set_ne (hp_ne_ao hA15 ha)]; exact hA15
  have hA16 : w_38 A16 = some (.inl (G.2.2.1 1, 14, .inr (.inr (.inr (.inl (fun _ => FP.dconst0)))))) := by rw [ew_38, hp_set_ne (hp_ne_ao hA16 ha)]; exact hA16
  have hA17 : w_38 A17 = some (.inl (G.2.2.1 1, 56, .inr (.inr (.inr (.inl (fun _ => FP.dconst0)))))) := by rw [ew_38, hp_set_ne (hp_ne_ao hA17 ha)]; exact hA17
  have hA18 : w_38 A18 = some (.inl (G.2.2.1 1, 224, .inr (.inr (.inr (.inl (fun _ => FP.dconst0)))))) := by rw [ew_38, hp_set_ne (hp_ne_ao hA18 ha)]; exact hA18
  have ha : w_38 a = some (.inr (5, [.ref A0, .ref A1, .ref A2, .ref A3, .ref A4, .ref A5, .ref A6, .ref A7, .ref A8, .ref A9, .ref A10, .ref A11, .ref A12, .ref A13, .ref A14, .ref A15, .ref A16, .ref A17, .ref A18, .null, .null, .null, .null, .null, .null, .int 0, .int 0, .int 0])) := by rw [ew_38]; exact hp_set_eq _ _ _
  refine lv_aload_n hx hb d_Mo_init_158 rfl (lv_at hl 0 rfl) ?_
  refine lv_sipush (v := 224) hx hb d_Mo_init_159 (by decide) ?_
  have fr19 : ∀ b x, w b = some x → b ≠ a → w_38 b = some x := fun b x hb9 hba => by
    rw [ew_38, hp_set_ne hba, ew_37, hp_set_ne (hp_ne_n hb9 wA18)]
    exact fr18 b x hb9 hba
  refine hp_newa (atype := .double) (N' := 224) (a0 := (224, .inr (.inr (.inr (.inl (fun _ => FP.dconst0)))))) hx hb (hg _ k_165) rfl hK hI hS hz 1 rfl (fun _ h => by cases h) (fun _ => rfl) (by decide) (by decide) (by decide) (Nat.le_of_ble_eq_true rfl) (Nat.le_of_ble_eq_true rfl) d_Mo_init_162 (fun A19 H hn_A19 hs_A19 hz_A19 hI hS => ?_)
  obtain ⟨w_39, ew_39⟩ : ∃ z9, z9 = hp_set w_38 A19 (.inl (G.2.2.1 1, 224, .inr (.inr (.inr (.inl (fun _ => FP.dconst0)))))) := ⟨_, rfl⟩
  have hI : eI G S0 w_39 H := by rw [ew_39]; exact hI
  have ne_ha_A19 := hp_ne_n ha hn_A19
  have ha : w_39 a = some (.inr (5, [.ref A0, .ref A1, .ref A2, .ref A3, .ref A4, .ref A5, .ref A6, .ref A7, .ref A8, .ref A9, .ref A10, .ref A11, .ref A12, .ref A13, .ref A14, .ref A15, .ref A16, .ref A17, .ref A18, .null, .null, .null, .null, .null, .null, .int 0, .int 0, .int 0])) := by rw [ew_39, hp_set_ne ne_ha_A19]; exact ha
  have ne_hA0_A19 := hp_ne_n hA0 hn_A19
  have hA0 : w_39 A0 = some (.inl (G.2.2.1 2, 14, .inl (fun _ => 0))) := by rw [ew_39, hp_set_ne ne_hA0_A19]; exact hA0
  have ne_hA1_A19 := hp_ne_n hA1 hn_A19
  have hA1 : w_39 A1 = some (.inl (G.2.2.1 2, 14, .inl (fun _ => 0))) := by rw [ew_39, hp_set_ne ne_hA1_A19]; exact hA1
  have ne_hA2_A19 := hp_ne_n hA2 hn_A19
  have hA2 : w_39 A2 = some (.inl (G.2.2.1 2, 14, .inl (fun _ => 0))) := by rw [ew_39, hp_set_ne ne_hA2_A19]; exact hA2
  have ne_hA3_A19 := hp_ne_n hA3 hn_A19
  have hA3 : w_39 A3 = some (.inl (G.2.2.1 2, 14, .inl (fun _ => 0))) := by rw [ew_39, hp_set_ne ne_hA3_A19]; exact hA3
  have ne_hA4_A19 := hp_ne_n hA4 hn_A19
  have hA4 : w_39 A4 = some (.inl (G.2.2.1 0, 14, .inl (fun _ => 0))) := by rw [ew_39, hp_set_ne ne_hA4_A19]; exact hA4
  have ne_hA5_A19 := hp_ne_n hA5 hn_A19
  have hA5 : w_39 A5 = some (.inl (G.2.2.1 0, 14, .inl (fun _ => 0))) := by rw [ew_39, hp_set_ne ne_hA5_A19]; exact hA5
  have ne_hA6_A19 := hp_ne_n hA6 hn_A19
  have hA6 : w_39 A6 = some (.inl (G.2.2.1 0, 14, .inl (fun _ => 0))) := by rw [ew_39, hp_set_ne ne_hA6_A19]; exact hA6
  have ne_hA7_A19 := hp_ne_n hA7 hn_A19
  have hA7 : w_39 A7 = some (.inl (G.2.2.1 0, 14, .inl (fun _ => 0))) := by rw [ew_39, hp_set_ne ne_hA7_A19]; exact hA7
  have ne_hA8_A19 := hp_ne_n hA8 hn_A19
  have hA8 : w_39 A8 = some (.inl (G.2.2.1 0, 196, .inl (fun _ => 0))) := by rw [ew_39, hp_set_ne ne_hA8_A19]; exact hA8
  have ne_hA9_A19 := hp_ne_n hA9 hn_A19
  have hA9 : w_39 A9 = some (.inl (G.2.2.1 0, 14, .inl (fun _ => 0))) := by rw [ew_39, hp_set_ne ne_hA9_A19]; exact hA9
  have ne_hA10_A19 := hp_ne_n hA10 hn_A19
  have hA10 : w_39 A10 = some (.inl (G.2.2.1 0, 56, .inl (fun _ => 0))) := by rw [ew_39, hp_set_ne ne_hA10_A19]; exact hA10
  have ne_hA11_A19 := hp_ne_n hA11 hn_A19
  have hA11 : w_39 A11 = some (.inl (G.2.2.1 0, 14, .inl (fun _ => 0))) := by rw [ew_39, hp_set_ne ne_hA11_A19]; exact hA11
  have ne_hA12_A19 := hp_ne_n hA12 hn_A19
  have hA12 : w_39 A12 = some (.inl (G.2.2.1 0, 14, .inl (fun _ => 0))) := by rw [ew_39, hp_set_ne ne_hA12_A19]; exact hA12
  have ne_hA13_A19 := hp_ne_n hA13 hn_A19
  have hA13 : w_39 A13 = some (.inl (G.2.2.1 0, 14, .inl (fun _ => 0))) := by rw [ew_39, hp_set_ne ne_hA13_A19]; exact hA13
  have ne_hA14_A19 := hp_ne_n hA14 hn_A19
  have hA14 : w_39 A14 = some (.inl (G.2.2.1 1, 14, .inr (.inr (.inr (.inl (fun _ => FP.dconst0)))))) := by rw [ew_39, hp_set_ne ne_hA14_A19]; exact hA14
  have ne_hA15_A19 := hp_ne_n hA15 hn_A19
  have hA15 : w_39 A15 = some (.inl (G.2.2.1 1, 14, .inr (.inr (.inr (.inl (fun _ => FP.dconst0)))))) := by rw [ew_39, hp_set_ne ne_hA15_A19]; exact hA15
  have ne_hA16_A19 := hp_ne_n hA16 hn_A19
  have hA16 : w_39 A16 = some (.inl (G.2.2.1 1, 14, .inr (.inr (.inr (.inl (fun _ => FP.dconst0)))))) := by rw [ew_39, hp_set_ne ne_hA16_A19]; exact hA16
  have ne_hA17_A19 := hp_ne_n hA17 hn_A19
  have hA17 : w_39 A17 = some (.inl (G.2.2.1 1, 56, .inr (.inr (.inr (.inl (fun _ => FP.dconst0)))))) := by rw [ew_39, hp_set_ne ne_hA17_A19]; exact hA17
  have ne_hA18_A19 := hp_ne_n hA18 hn_A19
  have hA18 : w_39 A18 = some (.inl (G.2.2.1 1, 224, .inr (.inr (.inr (.inl (fun _ => FP.dconst0)))))) := by rw [ew_39, hp_set_ne ne_hA18_A19]; exact hA18
  have hA19 : w_39 A19 = some (.inl (G.2.2.1 1, 224, .inr (.inr (.inr (.inl (fun _ => FP.dconst0)))))) := by rw [ew_39]; exact hp_set_eq _ _ _
  have nA19 : a ≠ A19 := ne_ha_A19
  have n0_19 : A0 ≠ A19 := ne_hA0_A19
  have n1_19 : A1 ≠ A19 := ne_hA1_A19
  have n2_19 : A2 ≠ A19 := ne_hA2_A19
  have n3_19 : A3 ≠ A19 := ne_hA3_A19
  have n4_19 : A4 ≠ A19 := ne_hA4_A19
  have n5_19 : A5 ≠ A19 := ne_hA5_A19
  have n6_19 : A6 ≠ A19 := ne_hA6_A19
  have n7_19 : A7 ≠ A19 := ne_hA7_A19
  have n8_19 : A8 ≠ A19 := ne_hA8_A19
  have n9_19 : A9 ≠ A19 := ne_hA9_A19
  have n10_19 : A10 ≠ A19 := ne_hA10_A19
  have n11_19 : A11 ≠ A19 := ne_hA11_A19
  have n12_19 : A12 ≠ A19 := ne_hA12_A19
  have n13_19 : A13 ≠ A19 := ne_hA13_A19
  have n14_19 : A14 ≠ A19 := ne_hA14_A19
  have n15_19 : A15 ≠ A19 := ne_hA15_A19
  have n16_19 : A16 ≠ A19 := ne_hA16_A19
  have n17_19 : A17 ≠ A19 := ne_hA17_A19
  have n18_19 : A18 ≠ A19 := ne_hA18_A19
  have wA19 : w A19 = none := by
    cases hw : w A19 with
    | none => rfl
    | some x => rw [fr19 A19 x hw (Ne.symm nA19)] at hn_A19; cases hn_A19
  refine hp_putF (ci := 5) (v := .ref A19) (ty := .array .double) (C := R_Mo) (T := F_Mo) (N := 28) hx hb hg i_Mo t_Mo t_Mo_ok n_Mo hown hK hI hS ha rfl 19 (by decide) (hg _ k_792) (fun _ h9 => h9) rfl hin rfl (by decide +kernel) rfl rfl (Nat.le_of_ble_eq_true rfl) d_Mo_init_164 (fun H locs hI hS hsz => ?_)
  obtain ⟨w_40, ew_40⟩ : ∃ z9, z9 = hp_set w_39 a (.inr (5, [.ref A0, .ref A1, .ref A2, .ref A3, .ref A4, .ref A5, .ref A6, .ref A7, .ref A8, .ref A9, .ref A10, .ref A11, .ref A12, .ref A13, .ref A14, .ref A15, .ref A16, .ref A17, .ref A18, .ref A19, .null, .null, .null, .null, .null, .int 0, .int 0, .int 0])) := ⟨_, rfl⟩
  have hI : eI G S0 w_40 H := by rw [ew_40]; exact hI
  have hA0 : w_40 A0 = some (.inl (G.2.2.1 2, 14, .inl (fun _ => 0))) := by rw [ew_40, hp_set_ne (hp_ne_ao hA0 ha)]; exact hA0
  have hA1 : w_40 A1 = some (.inl (G.2.2.1 2, 14, .inl (fun _ => 0))) := by rw [ew_40, hp_set_ne (hp_ne_ao hA1 ha)]; exact hA1
  have hA2 : w_40 A2 = some (.inl (G.2.2.1 2, 14, .inl (fun _ => 0))) := by rw [ew_40, hp_set_ne (hp_ne_ao hA2 ha)]; exact hA2
  have hA3 : w_40 A3 = some (.inl (G.2.2.1 2, 14, .inl (fun _ => 0))) := by rw [ew_40, hp_set_ne (hp_ne_ao hA3 ha)]; exact hA3
  have hA4 : w_40 A4 = some (.inl (G.2.2.1 0, 14, .inl (fun _ => 0))) := by rw [ew_40, hp_set_ne (hp_ne_ao hA4 ha)]; exact hA4
  have hA5 : w_40 A5 = some (.inl (G.2.2.1 0, 14, .inl (fun _ => 0))) := by rw [ew_40, hp_set_ne (hp_ne_ao hA5 ha)]; exact hA5
  have hA6 : w_40 A6 = some (.inl (G.2.2.1 0, 14, .inl (fun _ => 0))) := by rw [ew_40, hp_set_ne (hp_ne_ao hA6 ha)]; exact hA6
  have hA7 : w_40 A7 = some (.inl (G.2.2.1 0, 14, .inl (fun _ => 0))) := by rw [ew_40, hp_set_ne (hp_ne_ao hA7 ha)]; exact hA7
  have hA8 : w_40 A8 = some (.inl (G.2.2.1 0, 196, .inl (fun _ => 0))) := by rw [ew_40, hp_set_ne (hp_ne_ao hA8 ha)]; exact hA8
  have hA9 : w_40 A9 = some (.inl (G.2.2.1 0, 14, .inl (fun _ => 0))) := by rw [ew_40, hp_set_ne (hp_ne_ao hA9 ha)]; exact hA9
  have hA10 : w_40 A10 = some (.inl (G.2.2.1 0, 56, .inl (fun _ => 0))) := by rw [ew_40, hp_set_ne (hp_ne_ao hA10 ha)]; exact hA10
  have hA11 : w_40 A11 = some (.inl (G.2.2.1 0, 14, .inl (fun _ => 0))) := by rw [ew_40, hp_set_ne (hp_ne_ao hA11 ha)]; exact hA11
  have hA12 : w_40 A12 = some (.inl (G.2.2.1 0, 14, .inl (fun _ => 0))) := by rw [ew_40, hp_set_ne (hp_ne_ao hA12 ha)]; exact hA12
  have hA13 : w_40 A13 = some (.inl (G.2.2.1 0, 14, .inl (fun _ => 0))) := by rw [ew_40, hp_set_ne (hp_ne_ao hA13 ha)]; exact hA13
  have hA14 : w_40 A14 = some (.inl (G.2.2.1 1, 14, .inr (.inr (.inr (.inl (fun _ => FP.dconst0)))))) := by rw [ew_40, hp_set_ne (hp_ne_ao hA14 ha)]; exact hA14
  have hA15 : w_40 A15 = some (.inl (G.2.2.1 1, 14, .inr (.inr (.inr (.inl (fun _ => FP.dconst0)))))) := by rw [ew_40, hp_set_ne (hp_ne_ao hA15 ha)]; exact hA15
  have hA16 : w_40 A16 = some (.inl (G.2.2.1 1, 14, .inr (.inr (.inr (.inl (fun _ => FP.dconst0)))))) := by rw [ew_40, hp_set_ne (hp_ne_ao hA16 ha)]; exact hA16
  have hA17 : w_40 A17 = some (.inl (G.2.2.1 1, 56, .inr (.inr (.inr (.inl (fun _ => FP.dconst0)))))) := by rw [ew_40, hp_set_ne (hp_ne_ao hA17 ha)]; exact hA17
  have hA18 : w_40 A18 = some (.inl (G.2.2.1 1, 224, .inr (.inr (.inr (.inl (fun _ => FP.dconst0)))))) := by rw [ew_40, hp_set_ne (hp_ne_ao hA18 ha)]; exact hA18
  have hA19 : w_40 A19 = some (.inl (G.2.2.1 1, 224, .inr (.inr (.inr (.inl (fun _ => FP.dconst0)))))) := by rw [ew_40, hp_set_ne (hp_ne_ao hA19 ha)]; exact hA19
  have ha : w_40 a = some (.inr (5, [.ref A0, .ref A1, .ref A2, .ref A3, .ref A4, .ref A5, .ref A6, .ref A7, .ref A8, .ref A9, .ref A10, .ref A11, .ref A12, .ref A13, .ref A14, .ref A15, .ref A16, .ref A17, .ref A18, .ref A19, .null, .null, .null, .null, .null, .int 0, .int 0, .int 0])) := by rw [ew_40]; exact hp_set_eq _ _ _
  refine lv_aload_n hx hb d_Mo_init_167 rfl (lv_at hl 0 rfl) ?_
  refine lv_bipush (v := 14) hx hb d_Mo_init_168 (by decide) ?_
  have fr20 : ∀ b x, w b = some x → b ≠ a → w_40 b = some x := fun b x hb9 hba => by
    rw [ew_40, hp_set_ne hba, ew_39, hp_set_ne (hp_ne_n hb9 wA19)]
    exact fr19 b x hb9 hba
  refine hp_newa (atype := .double) (N' := 14) (a0 := (14, .inr (.inr (.inr (.inl (fun _ => FP.dconst0)))))) hx hb (hg _ k_165) rfl hK hI hS hz 1 rfl (fun _ h => by cases h) (fun _ => rfl) (by decide) (by decide) (by decide) (Nat.le_of_ble_eq_true rfl) (Nat.le_of_ble_eq_true rfl) d_Mo_init_170 (fun A20 H hn_A20 hs_A20 hz_A20 hI hS => ?_)
  obtain ⟨w_41, ew_41⟩ : ∃ z9, z9 = hp_set w_40 A20 (.inl (G.2.2.1 1, 14, .inr (.inr (.inr (.inl (fun _ => FP.dconst0)))))) := ⟨_, rfl⟩
  have hI : eI G S0 w_41 H := by rw [ew_41]; exact hI
  have ne_ha_A20 := hp_ne_n ha hn_A20
  have ha : w_41 a = some (.inr (5, [.ref A0, .ref A1, .ref A2, .ref A3, .ref A4, .ref A5, .ref A6, .ref A7, .ref A8, .ref A9, .ref A10, .ref A11, .ref A12, .ref A13, .ref A14, .ref A15, .ref A16, .ref A17, .ref A18, .ref A19, .null, .null, .null, .null, .null, .int 0, .int 0, .int 0])) := by rw [ew_41, hp_set_ne ne_ha_A20]; exact ha
  have ne_hA0_A20 := hp_ne_n hA0 hn_A20
  have hA0 : w_41 A0 = some (.inl (G.2.2.1 2, 14, .inl (fun _ => 0))) := by rw [ew_41, hp_set_ne ne_hA0_A20]; exact hA0
  have ne_hA1_A20 := hp_ne_n hA1 hn_A20
  have hA1 : w_41 A1 = some (.inl (G.2.2.1 2, 14, .inl (fun _ => 0))) := by rw [ew_41, hp_set_ne ne_hA1_A20]; exact hA1
  have ne_hA2_A20 := hp_ne_n hA2 hn_A20
  have hA2 : w_41 A2 = some (.inl (G.2.2.1 2, 14, .inl (fun _ => 0))) := by rw [ew_41, hp_set_ne ne_hA2_A20]; exact hA2
  have ne_hA3_A20 := hp_ne_n hA3 hn_A20
  have hA3 : w_41 A3 = some (.inl (G.2.2.1 2, 14, .inl (fun _ => 0))) := by rw [ew_41, hp_set_ne ne_hA3_A20]; exact hA3
  have ne_hA4_A20 := hp_ne_n hA4 hn_A20
  have hA4 : w_41 A4 = some (.inl (G.2.2.1 0, 14, .inl (fun _ => 0))) := by rw [ew_41, hp_set_ne ne_hA4_A20]; exact hA4
  have ne_hA5_A20 := hp_ne_n hA5 hn_A20
  have hA5 : w_41 A5 = some (.inl (G.2.2.1 0, 14, .inl (fun _ => 0))) := by rw [ew_41, hp_set_ne ne_hA5_A20]; exact hA5
  have ne_hA6_A20 := hp_ne_n hA6 hn_A20
  have hA6 : w_41 A6 = some (.inl (G.2.2.1 0, 14, .inl (fun _ => 0))) := by rw [ew_41, hp_set_ne ne_hA6_A20]; exact hA6
  have ne_hA7_A20 := hp_ne_n hA7 hn_A20
  have hA7 : w_41 A7 = some (.inl (G.2.2.1 0, 14, .inl (fun _ => 0))) := by rw [ew_41, hp_set_ne ne_hA7_A20]; exact hA7
  have ne_hA8_A20 := hp_ne_n hA8 hn_A20
  have hA8 : w_41 A8 = some (.inl (G.2.2.1 0, 196, .inl (fun _ => 0))) := by rw [ew_41, hp_set_ne ne_hA8_A20]; exact hA8
  have ne_hA9_A20 := hp_ne_n hA9 hn_A20
  have hA9 : w_41 A9 = some (.inl (G.2.2.1 0, 14, .inl (fun _ => 0))) := by rw [ew_41, hp_set_ne ne_hA9_A20]; exact hA9
  have ne_hA10_A20 := hp_ne_n hA10 hn_A20
  have hA10 : w_41 A10 = some (.inl (G.2.2.1 0, 56, .inl (fun _ => 0))) := by rw [ew_41, hp_set_ne ne_hA10_A20]; exact hA10
  have ne_hA11_A20 := hp_ne_n hA11 hn_A20
  have hA11 : w_41 A11 = some (.inl (G.2.2.1 0, 14, .inl (fun _ => 0))) := by rw [ew_41, hp_set_ne ne_hA11_A20]; exact hA11
  have ne_hA12_A20 := hp_ne_n hA12 hn_A20
  have hA12 : w_41 A12 = some (.inl (G.2.2.1 0, 14, .inl (fun _ => 0))) := by rw [ew_41, hp_set_ne ne_hA12_A20]; exact hA12
  have ne_hA13_A20 := hp_ne_n hA13 hn_A20
  have hA13 : w_41 A13 = some (.inl (G.2.2.1 0, 14, .inl (fun _ => 0))) := by rw [ew_41, hp_set_ne ne_hA13_A20]; exact hA13
  have ne_hA14_A20 := hp_ne_n hA14 hn_A20
  have hA14 : w_41 A14 = some (.inl (G.2.2.1 1, 14, .inr (.inr (.inr (.inl (fun _ => FP.dconst0)))))) := by rw [ew_41, hp_set_ne ne_hA14_A20]; exact hA14
  have ne_hA15_A20 := hp_ne_n hA15 hn_A20
  have hA15 : w_41 A15 = some (.inl (G.2.2.1 1, 14, .inr (.inr (.inr (.inl (fun _ => FP.dconst0)))))) := by rw [ew_41, hp_set_ne ne_hA15_A20]; exact hA15
  have ne_hA16_A20 := hp_ne_n hA16 hn_A20
  have hA16 : w_41 A16 = some (.inl (G.2.2.1 1, 14, .inr (.inr (.inr (.inl (fun _ => FP.dconst0)))))) := by rw [ew_41, hp_set_ne ne_hA16_A20]; exact hA16
  have ne_hA17_A20 := hp_ne_n hA17 hn_A20
  have hA17 : w_41 A17 = some (.inl (G.2.2.1 1, 56, .inr (.inr (.inr (.inl (fun _ => FP.dconst0)))))) := by rw [ew_41, hp_set_ne ne_hA17_A20]; exact hA17
  have ne_hA18_A20 := hp_ne_n hA18 hn_A20
  have hA18 : w_41 A18 = some (.inl (G.2.2.1 1, 224, .inr (.inr (.inr (.inl (fun _ => FP.dconst0)))))) := by rw [ew_41, hp_set_ne ne_hA18_A20]; exact hA18
  have ne_hA19_A20 := hp_ne_n hA19 hn_A20
  have hA19 : w_41 A19 = some (.inl (G.2.2.1 1, 224, .inr (.inr (.inr (.inl (fun _ => FP.dconst0)))))) := by rw [ew_41, hp_set_ne ne_hA19_A20]; exact hA19
  have hA20 : w_41 A20 = some (.inl (G.2.2.1 1, 14, .inr (.inr (.inr (.inl (fun _ => FP.dconst0)))))) := by rw [ew_41]; exact hp_set_eq _ _ _
  have nA20 : a ≠ A20 := ne_ha_A20
  have n0_20 : A0 ≠ A20 := ne_hA0_A20
  have n1_20 : A1 ≠ A20 := ne_hA1_A20
  have n2_20 : A2 ≠ A20 := ne_hA2_A20
  have n3_20 : A3 ≠ A20 := ne_hA3_A20
  have n4_20 : A4 ≠ A20 := ne_hA4_A20
  have n5_20 : A5 ≠ A20 := ne_hA5_A20
  have n6_20 : A6 ≠ A20 := ne_hA6_A20
  have n7_20 : A7 ≠ A20 := ne_hA7_A20
  have n8_20 : A8 ≠ A20 := ne_hA8_A20
  have n9_20 : A9 ≠ A20 := ne_hA9_A20
  have n10_20 : A10 ≠ A20 := ne_hA10_A20
  have n11_20 : A11 ≠ A20 := ne_hA11_A20
  have n12_20 : A12 ≠ A20 := ne_hA12_A20
  have n13_20 : A13 ≠ A20 := ne_hA13_A20
  have n14_20 : A14 ≠ A20 := ne_hA14_A20
  have n15_20 : A15 ≠ A20 := ne_hA15_A20
  have n16_20 : A16 ≠ A20 := ne_hA16_A20
  have n17_20 : A17 ≠ A20 := ne_hA17_A20
  have n18_20 : A18 ≠ A20 := ne_hA18_A20
  have n19_20 : A19 ≠ A20 := ne_hA19_A20
  have wA20 : w A20 = none := by
    cases hw : w A20 with
    | none => rfl
    | some x => rw [fr20 A20 x hw (Ne.symm nA20)] at hn_A20; cases hn_A20
  refine hp_putF (ci := 5) (v := .ref A20) (ty := .array .double) (C := R_Mo) (T := F_Mo) (N := 28) hx hb hg i_Mo t_Mo t_Mo_ok n_Mo hown hK hI hS ha rfl 20 (by decide) (hg _ k_793) (fun _ h9 => h9) rfl hin rfl (by decide +kernel) rfl rfl (Nat.le_of_ble_eq_true rfl) d_Mo_init_172 (fun H locs hI hS hsz => ?_)
  obtain ⟨w_42, ew_42⟩ : ∃ z9, z9 = hp_set w_41 a (.inr (5, [.ref A0, .ref A1, .ref A2, .ref A3, .ref A4, .ref A5, .ref A6, .ref A7, .ref A8, .ref A9, .ref A10, .ref A11, .ref A12, .ref A13, .ref A14, .ref A15, .ref A16, .ref A17, .ref A18, .ref A19, .ref A20, .null, .null, .null, .null, .int 0, .int 0, .int 0])) := ⟨_, rfl⟩
  have hI : eI G S0 w_42 H := by rw [ew_42]; exact hI
  have hA0 : w_42 A0 = some (.inl (G.2.2.1 2, 14, .inl (fun _ => 0))) := by rw [ew_42, hp_set_ne (hp_ne_ao hA0 ha)]; exact hA0
  have hA1 : w_42 A1 = some (.inl (G.2.2.1 2, 14, .inl (fun _ => 0))) := by rw [ew_42, hp_set_ne (hp_ne_ao hA1 ha)]; exact hA1
  have hA2 : w_42 A2 = some (.inl (G.2.2.1 2, 14, .inl (fun _ => 0))) := by rw [ew_42, hp_set_ne (hp_ne_ao hA2 ha)]; exact hA2
  have hA3 : w_42 A3 = some (.inl (G.2.2.1 2, 14, .inl (fun _ => 0))) := by rw [ew_42, hp_set_ne (hp_ne_ao hA3 ha)]; exact hA3
  have hA4 : w_42 A4 = some (.inl (G.2.2.1 0, 14, .inl (fun _ => 0))) := by rw [ew_42, hp_set_ne (hp_ne_ao hA4 ha)]; exact hA4
  have hA5 : w_42 A5 = some (.inl (G.2.2.1 0, 14, .inl (fun _ => 0))) := by rw [ew_42, hp_set_ne (hp_ne_ao hA5 ha)]; exact hA5
  have hA6 : w_42 A6 = some (.inl (G.2.2.1 0, 14, .inl (fun _ => 0))) := by rw [ew_42, hp_set_ne (hp_ne_ao hA6 ha)]; exact hA6
  have hA7 : w_42 A7 = some (.inl (G.2.2.1 0, 14, .inl (fun _ => 0))) := by rw [ew_42, hp_set_ne (hp_ne_ao hA7 ha)]; exact hA7
  have hA8 : w_42 A8 = some (.inl (G.2.2.1 0, 196, .inl (fun _ => 0))) := by rw [ew_42, hp_set_ne (hp_ne_ao hA8 ha)]; exact hA8
  have hA9 : w_42 A9 = some (.inl (G.2.2.1 0, 14, .inl (fun _ => 0))) := by rw [ew_42, hp_set_ne (hp_ne_ao hA9 ha)]; exact hA9
  have hA10 : w_42 A10 = some (.inl (G.2.2.1 0, 56, .inl (fun _ => 0))) := by rw [ew_42, hp_set_ne (hp_ne_ao hA10 ha)]; exact hA10
  have hA11 : w_42 A11 = some (.inl (G.2.2.1 0, 14, .inl (fun _ => 0))) := by rw [ew_42, hp_set_ne (hp_ne_ao hA11 ha)]; exact hA11
  have hA12 : w_42 A12 = some (.inl (G.2.2.1 0, 14, .inl (fun _ => 0))) := by rw [ew_42, hp_set_ne (hp_ne_ao hA12 ha)]; exact hA12
  have hA13 : w_42 A13 = some (.inl (G.2.2.1 0, 14, .inl (fun _ => 0))) := by rw [ew_42, hp_set_ne (hp_ne_ao hA13 ha)]; exact hA13
  have hA14 : w_42 A14 = some (.inl (G.2.2.1 1, 14, .inr (.inr (.inr (.inl (fun _ => FP.dconst0)))))) := by rw [ew_42, hp_set_ne (hp_ne_ao hA14 ha)]; exact hA14
  have hA15 : w_42 A15 = some (.inl (G.2.2.1 1, 14, .inr (.inr (.inr (.inl (fun _ => FP.dconst0)))))) := by rw [ew_42, hp_set_ne (hp_ne_ao hA15 ha)]; exact hA15
  have hA16 : w_42 A16 = some (.inl (G.2.2.1 1, 14, .inr (.inr (.inr (.inl (fun _ => FP.dconst0)))))) := by rw [ew_42, hp_set_ne (hp_ne_ao hA16 ha)]; exact hA16
  have hA17 : w_42 A17 = some (.inl (G.2.2.1 1, 56, .inr (.inr (.inr (.inl (fun _ => FP.dconst0)))))) := by rw [ew_42, hp_set_ne (hp_ne_ao hA17 ha)]; exact hA17
  have hA18 : w_42 A18 = some (.inl (G.2.2.1 1, 224, .inr (.inr (.inr (.inl (fun _ => FP.dconst0)))))) := by rw [ew_42, hp_set_ne (hp_ne_ao hA18 ha)]; exact hA18
  have hA19 : w_42 A19 = some (.inl (G.2.2.1 1, 224, .inr (.inr (.inr (.inl (fun _ => FP.dconst0)))))) := by rw [ew_42, hp_set_ne (hp_ne_ao hA19 ha)]; exact hA19
  have hA20 : w_42 A20 = some (.inl (G.2.2.1 1, 14, .inr (.inr (.inr (.inl (fun _ => FP.dconst0)))))) := by rw [ew_42, hp_set_ne (hp_ne_ao hA20 ha)]; exact hA20
  have ha : w_42 a = some (.inr (5, [.ref A0, .ref A1, .ref A2, .ref A3, .ref A4, .ref A5, .ref A6, .ref A7, .ref A8, .ref A9, .ref A10, .ref A11, .ref A12, .ref A13, .ref A14, .ref A15, .ref A16, .ref A17, .ref A18, .ref A19, .ref A20, .null, .null, .null, .null, .int 0, .int 0, .int 0])) := by rw [ew_42]; exact hp_set_eq _ _ _
  refine lv_aload_n hx hb d_Mo_init_175 rfl (lv_at hl 0 rfl) ?_
  refine lv_bipush (v := 14) hx hb d_Mo_init_176 (by decide) ?_
  have fr21 : ∀ b x, w b = some x → b ≠ a → w_42 b = some x := fun b x hb9 hba => by
    rw [ew_42, hp_set_ne hba, ew_41, hp_set_ne (hp_ne_n hb9 wA20)]
    exact fr20 b x hb9 hba
  refine hp_newa (atype := .double) (N' := 14) (a0 := (14, .inr (.inr (.inr (.inl (fun _ => FP.dconst0)))))) hx hb (hg _ k_165) rfl hK hI hS hz 1 rfl (fun _ h => by cases h) (fun _ => rfl) (by decide) (by decide) (by decide) (Nat.le_of_ble_eq_true rfl) (Nat.le_of_ble_eq_true rfl) d_Mo_init_178 (fun A21 H hn_A21 hs_A21 hz_A21 hI hS => ?_)
  obtain ⟨w_43, ew_43⟩ : ∃ z9, z9 = hp_set w_42 A21 (.inl (G.2.2.1 1, 14, .inr (.inr (.inr (.inl (fun _ => FP.dconst0)))))) := ⟨_, rfl⟩
  have hI : eI G S0 w_43 H := by rw [ew_43]; exact hI
  have ne_ha_A21 := hp_ne_n ha hn_A21
  have ha : w_43 a = some (.inr (5, [.ref A0, .ref A1, .ref A2, .ref A3, .ref A4, .ref A5, .ref A6, .ref A7, .ref A8, .ref A9, .ref A10, .ref A11, .ref A12, .ref A13, .ref A14, .ref A15, .ref A16, .ref A17, .ref A18, .ref A19, .ref A20, .null, .null, .null, .null, .int 0, .int 0, .int 0])) := by rw [ew_43, hp_set_ne ne_ha_A21]; exact ha
  have ne_hA0_A21 := hp_ne_n hA0 hn_A21
  have hA0 : w_43 A0 = some (.inl (G.2.2.1 2, 14, .inl (fun _ => 0))) := by rw [ew_43, hp_set_ne ne_hA0_A21]; exact hA0
  have ne_hA1_A21 := hp_ne_n hA1 hn_A21
  have hA1 : w_43 A1 = some (.inl (G.2.2.1 2, 14, .inl (fun _ => 0))) := by rw [ew_43, hp_set_ne ne_hA1_A21]; exact hA1
  have ne_hA2_A21 := hp_ne_n hA2 hn_A21
  have hA2 : w_43 A2 = some (.inl (G.2.2.1 2, 14, .inl (fun _ => 0))) := by rw [ew_43, hp_set_ne ne_hA2_A21]; exact hA2
  have ne_hA3_A21 := hp_ne_n hA3 hn_A21
  have hA3 : w_43 A3 = some (.inl (G.2.2.1 2, 14, .inl (fun _ => 0))) := by rw [ew_43, hp_set_ne ne_hA3_A21]; exact hA3
  have ne_hA4_A21 := hp_ne_n hA4 hn_A21
  have hA4 : w_43 A4 = some (.inl (G.2.2.1 0, 14, .inl (fun _ => 0))) := by rw [ew_43, hp_set_ne ne_hA4_A21]; exact hA4
  have ne_hA5_A21 := hp_ne_n hA5 hn_A21
  have hA5 : w_43 A5 = some (.inl (G.2.2.1 0, 14, .inl (fun _ => 0))) := by rw [ew_43, hp_set_ne ne_hA5_A21]; exact hA5
  have ne_hA6_A21 := hp_ne_n hA6 hn_A21
  have hA6 : w_43 A6 = some (.inl (G.2.2.1 0, 14, .inl (fun _ => 0))) := by rw [ew_43, hp_set_ne ne_hA6_A21]; exact hA6
  have ne_hA7_A21 := hp_ne_n hA7 hn_A21
  have hA7 : w_43 A7 = some (.inl (G.2.2.1 0, 14, .inl (fun _ => 0))) := by rw [ew_43, hp_set_ne ne_hA7_A21]; exact hA7
  have ne_hA8_A21 := hp_ne_n hA8 hn_A21
  have hA8 : w_43 A8 = some (.inl (G.2.2.1 0, 196, .inl (fun _ => 0))) := by rw [ew_43, hp_set_ne ne_hA8_A21]; exact hA8
  have ne_hA9_A21 := hp_ne_n hA9 hn_A21
  have hA9 : w_43 A9 = some (.inl (G.2.2.1 0, 14, .inl (fun _ => 0))) := by rw [ew_43, hp_set_ne ne_hA9_A21]; exact hA9
  have ne_hA10_A21 := hp_ne_n hA10 hn_A21
  have hA10 : w_43 A10 = some (.inl (G.2.2.1 0, 56, .inl (fun _ => 0))) := by rw [ew_43, hp_set_ne ne_hA10_A21]; exact hA10
  have ne_hA11_A21 := hp_ne_n hA11 hn_A21
  have hA11 : w_43 A11 = some (.inl (G.2.2.1 0, 14, .inl (fun _ => 0))) := by rw [ew_43, hp_set_ne ne_hA11_A21]; exact hA11
  have ne_hA12_A21 := hp_ne_n hA12 hn_A21
  have hA12 : w_43 A12 = some (.inl (G.2.2.1 0, 14, .inl (fun _ => 0))) := by rw [ew_43, hp_set_ne ne_hA12_A21]; exact hA12
  have ne_hA13_A21 := hp_ne_n hA13 hn_A21
  have hA13 : w_43 A13 = some (.inl (G.2.2.1 0, 14, .inl (fun _ => 0))) := by rw [ew_43, hp_set_ne ne_hA13_A21]; exact hA13
  have ne_hA14_A21 := hp_ne_n hA14 hn_A21
  have hA14 : w_43 A14 = some (.inl (G.2.2.1 1, 14, .inr (.inr (.inr (.inl (fun _ => FP.dconst0)))))) := by rw [ew_43, hp_set_ne ne_hA14_A21]; exact hA14
  have ne_hA15_A21 := hp_ne_n hA15 hn_A21
  have hA15 : w_43 A15 = some (.inl (G.2.2.1 1, 14, .inr (.inr (.inr (.inl (fun _ => FP.dconst0)))))) := by rw [ew_43, hp_set_ne ne_hA15_A21]; exact hA15
  have ne_hA16_A21 := hp_ne_n hA16 hn_A21
  have hA16 : w_43 A16 = some (.inl (G.2.2.1 1, 14, .inr (.inr (.inr (.inl (fun _ => FP.dconst0)))))) := by rw [ew_43, hp_set_ne ne_hA16_A21]; exact hA16
  have ne_hA17_A21 := hp_ne_n hA17 hn_A21
  have hA17 : w_43 A17 = some (.inl (G.2.2.1 1, 56, .inr (.inr (.inr (.inl (fun _ => FP.dconst0)))))) := by rw [ew_43, hp_set_ne ne_hA17_A21]; exact hA17
  have ne_hA18_A21 := hp_ne_n hA18 hn_A21
  have hA18 : w_43 A18 = some (.inl (G.2.2.1 1, 224, .inr (.inr (.inr (.inl (fun _ => FP.dconst0)))))) := by rw [ew_43, hp_set_ne ne_hA18_A21]; exact hA18
  have ne_hA19_A21 := hp_ne_n hA19 hn_A21
  have hA19 : w_43 A19 = some (.inl (G.2.2.1 1, 224, .inr (.inr (.inr (.inl (fun _ => FP.dconst0)))))) := by rw [ew_43, hp_set_ne ne_hA19_A21]; exact hA19
  have ne_hA20_A21 := hp_ne_n hA20 hn_A21
  have hA20 : w_43 A20 = some (.inl (G.2.2.1 1, 14, .inr (.inr (.inr (.inl (fun _ => FP.dconst0)))))) := by rw [ew_43, hp_set_ne ne_hA20_A21]; exact hA20
  have hA21 : w_43 A21 = some (.inl (G.2.2.1 1, 14, .inr (.inr (.inr (.inl (fun _ => FP.dconst0)))))) := by rw [ew_43]; exact hp_set_eq _ _ _
  have nA21 : a ≠ A21 := ne_ha_A21
  have n0_21 : A0 ≠ A21 := ne_hA0_A21
  have n1_21 : A1 ≠ A21 := ne_hA1_A21
  have n2_21 : A2 ≠ A21 := ne_hA2_A21
  have n3_21 : A3 ≠ A21 := ne_hA3_A21
  have n4_21 : A4 ≠ A21 := ne_hA4_A21
  have n5_21 : A5 ≠ A21 := ne_hA5_A21
  have n6_21 : A6 ≠ A21 := ne_hA6_A21
  have n7_21 : A7 ≠ A21 := ne_hA7_A21
  have n8_21 : A8 ≠ A21 := ne_hA8_A21
  have n9_21 : A9 ≠ A21 := ne_hA9_A21
  have n10_21 : A10 ≠ A21 := ne_hA10_A21
  have n11_21 : A11 ≠ A21 := ne_hA11_A21
  have n12_21 : A12 ≠ A21 := ne_hA12_A21
  have n13_21 : A13 ≠ A21 := ne_hA13_A21
  have n14_21 : A14 ≠ A21 := ne_hA14_A21
  have n15_21 : A15 ≠ A21 := ne_hA15_A21
  have n16_21 : A16 ≠ A21 := ne_hA16_A21
  have n17_21 : A17 ≠ A21 := ne_hA17_A21
  have n18_21 : A18 ≠ A21 := ne_hA18_A21
  have n19_21 : A19 ≠ A21 := ne_hA19_A21
  have n20_21 : A20 ≠ A21 := ne_hA20_A21
  have wA21 : w A21 = none := by
    cases hw : w A21 with
    | none => rfl
    | some x => rw [fr21 A21 x hw (Ne.symm nA21)] at hn_A21; cases hn_A21
  refine hp_putF (ci := 5) (v := .ref A21) (ty := .array .double) (C := R_Mo) (T := F_Mo) (N := 28) hx hb hg i_Mo t_Mo t_Mo_ok n_Mo hown hK hI hS ha rfl 21 (by decide) (hg _ k_794) (fun _ h9 => h9) rfl hin rfl (by decide +kernel) rfl rfl (Nat.le_of_ble_eq_true rfl) d_Mo_init_180 (fun H locs hI hS hsz => ?_)
  obtain ⟨w_44, ew_44⟩ : ∃ z9, z9 = hp_set w_43 a (.inr (5, [.ref A0, .ref A1, .ref A2, .ref A3, .ref A4, .ref A5, .ref A6, .ref A7, .ref A8, .ref A9, .ref A10, .ref A11, .ref A12, .ref A13, .ref A14, .ref A15, .ref A16, .ref A17, .ref A18, .ref A19, .ref A20, .ref A21, .null, .null, .null, .int 0, .int 0, .int 0])) := ⟨_, rfl⟩
  have hI : eI G S0 w_44 H := by rw [ew_44]; exact hI
  have hA0 : w_44 A0 = some (.inl (G.2.2.1 2, 14, .inl (fun _ => 0))) := by rw [ew_44, hp_set_ne (hp_ne_ao hA0 ha)]; exact hA0
  have hA1 : w_44 A1 = some (.inl (G.2.2.1 2, 14, .inl (fun _ => 0))) := by rw [ew_44, hp_set_ne (hp_ne_ao hA1 ha)]; exact hA1
  have hA2 : w_44 A2 = some (.inl (G.2.2.1 2, 14, .inl (fun _ => 0))) := by rw [ew_44, hp_set_ne (hp_ne_ao hA2 ha)]; exact hA2
  have hA3 : w_44 A3 = some (.inl (G.2.2.1 2, 14, .inl (fun _ => 0))) := by rw [ew_44, hp_set_ne (hp_ne_ao hA3 ha)]; exact hA3
  have hA4 : w_44 A4 = some (.inl (G.2.2.1 0, 14, .inl (fun _ => 0))) := by rw [ew_44, hp_set_ne (hp_ne_ao hA4 ha)]; exact hA4
  have hA5 : w_44 A5 = some (.inl (G.2.2.1 0, 14, .inl (fun _ => 0))) := by rw [ew_44, hp_set_ne (hp_ne_ao hA5 ha)]; exact hA5
  have hA6 : w_44 A6 = some (.inl (G.2.2.1 0, 14, .inl (fun _ => 0))) := by rw [ew_44, hp_set_ne (hp_ne_ao hA6 ha)]; exact hA6
  have hA7 : w_44 A7 = some (.inl (G.2.2.1 0, 14, .inl (fun _ => 0))) := by rw [ew_44, hp_set_ne (hp_ne_ao hA7 ha)]; exact hA7
  have hA8 : w_44 A8 = some (.inl (G.2.2.1 0, 196, .inl (fun _ => 0))) := by rw [ew_44, hp_set_ne (hp_ne_ao hA8 ha)]; exact hA8
  have hA9 : w_44 A9 = some (.inl (G.2.2.1 0, 14, .inl (fun _ => 0))) := by rw [ew_44, hp_set_ne (hp_ne_ao hA9 ha)]; exact hA9
  have hA10 : w_44 A10 = some (.inl (G.2.2.1 0, 56, .inl (fun _ => 0))) := by rw [ew_44, hp_set_ne (hp_ne_ao hA10 ha)]; exact hA10
  have hA11 : w_44 A11 = some (.inl (G.2.2.1 0, 14, .inl (fun _ => 0))) := by rw [ew_44, hp_set_ne (hp_ne_ao hA11 ha)]; exact hA11
  have hA12 : w_44 A12 = some (.inl (G.2.2.1 0, 14, .inl (fun _ => 0))) := by rw [ew_44, hp_set_ne (hp_ne_ao hA12 ha)]; exact hA12
  have hA13 : w_44 A13 = some (.inl (G.2.2.1 0, 14, .inl (fun _ => 0))) := by rw [ew_44, hp_set_ne (hp_ne_ao hA13 ha)]; exact hA13
  have hA14 : w_44 A14 = some (.inl (G.2.2.1 1, 14, .inr (.inr (.inr (.inl (fun _ => FP.dconst0)))))) := by rw [ew_44, hp_set_ne (hp_ne_ao hA14 ha)]; exact hA14
  have hA15 : w_44 A15 = some (.inl (G.2.2.1 1, 14, .inr (.inr (.inr (.inl (fun _ => FP.dconst0)))))) := by rw [ew_44, hp_set_ne (hp_ne_ao hA15 ha)]; exact hA15
  have hA16 : w_44 A16 = some (.inl (G.2.2.1 1, 14, .inr (.inr (.inr (.inl (fun _ => FP.dconst0)))))) := by rw [ew_44, hp_set_ne (hp_ne_ao hA16 ha)]; exact hA16
  have hA17 : w_44 A17 = some (.inl (G.2.2.1 1, 56, .inr (.inr (.inr (.inl (fun _ => FP.dconst0)))))) := by rw [ew_44, hp_set_ne (hp_ne_ao hA17 ha)]; exact hA17
  have hA18 : w_44 A18 = some (.inl (G.2.2.1 1, 224, .inr (.inr (.inr (.inl (fun _ => FP.dconst0)))))) := by rw [ew_44, hp_set_ne (hp_ne_ao hA18 ha)]; exact hA18
  have hA19 : w_44 A19 = some (.inl (G.2.2.1 1, 224, .inr (.inr (.inr (.inl (fun _ => FP.dconst0)))))) := by rw [ew_44, hp_set_ne (hp_ne_ao hA19 ha)]; exact hA19
  have hA20 : w_44 A20 = some (.inl (G.2.2.1 1, 14, .inr (.inr (.inr (.inl (fun _ => FP.dconst0)))))) := by rw [ew_44, hp_set_ne (hp_ne_ao hA20 ha)]; exact hA20
  have hA21 : w_44 A21 = some (.inl (G.2.2.1 1, 14, .inr (.inr (.inr (.inl (fun _ => FP.dconst0)))))) := by rw [ew_44, hp_set_ne (hp_ne_ao hA21 ha)]; exact hA21
  have ha : w_44 a = some (.inr (5, [.ref A0, .ref A1, .ref A2, .ref A3, .ref A4, .ref A5, .ref A6, .ref A7, .ref A8, .ref A9, .ref A10, .ref A11, .ref A12, .ref A13, .ref A14, .ref A15, .ref A16, .ref A17, .ref A18, .ref A19, .ref A20, .ref A21, .null, .null, .null, .int 0, .int 0, .int 0])) := by rw [ew_44]; exact hp_set_eq _ _ _
  refine lv_aload_n hx hb d_Mo_init_183 rfl (lv_at hl 0 rfl) ?_
  refine lv_bipush (v := 28) hx hb d_Mo_init_184 (by decide) ?_
  have fr22 : ∀ b x, w b = some x → b ≠ a → w_44 b = some x := fun b x hb9 hba => by
    rw [ew_44, hp_set_ne hba, ew_43, hp_set_ne (hp_ne_n hb9 wA21)]
    exact fr21 b x hb9 hba
  refine hp_newa (atype := .double) (N' := 28) (a0 := (28, .inr (.inr (.inr (.inl (fun _ => FP.dconst0)))))) hx hb (hg _ k_165) rfl hK hI hS hz 1 rfl (fun _ h => by cases h) (fun _ => rfl) (by decide) (by decide) (by decide) (Nat.le_of_ble_eq_true rfl) (Nat.le_of_ble_eq_true rfl) d_Mo_init_186 (fun A22 H hn_A22 hs_A22 hz_A22 hI hS => ?_)
  obtain ⟨w_45, ew_45⟩ : ∃ z9, z9 = hp_set w_44 A22 (.inl (G.2.2.1 1, 28, .inr (.inr (.inr (.inl (fun _ => FP.dconst0)))))) := ⟨_, rfl⟩
  have hI : eI G S0 w_45 H := by rw [ew_45]; exact hI
  have ne_ha_A22 := hp_ne_n ha hn_A22
  have ha : w_45 a = some (.inr (5, [.ref A0, .ref A1, .ref A2, .ref A3, .ref A4, .ref A5, .ref A6, .ref A7, .ref A8, .ref A9, .ref A10, .ref A11, .ref A12, .ref A13, .ref A14, .ref A15, .ref A16, .ref A17, .ref A18, .ref A19, .ref A20, .ref A21, .null, .null, .null, .int 0, .int 0, .int 0])) := by rw [ew_45, hp_set_ne ne_ha_A22]; exact ha
  have ne_hA0_A22 := hp_ne_n hA0 hn_A22
  have hA0 : w_45 A0 = some (.inl (G.2.2.1 2, 14, .inl (fun _ => 0))) := by rw [ew_45, hp_set_ne ne_hA0_A22]; exact hA0
  have ne_hA1_A22 := hp_ne_n hA1 hn_A22
  have hA1 : w_45 A1 = some (.inl (G.2.2.1 2, 14, .inl (fun _ => 0))) := by rw [ew_45, hp_set_ne ne_hA1_A22]; exact hA1
  have ne_hA2_A22 := hp_ne_n hA2 hn_A22
  have hA2 : w_45 A2 = some (.inl (G.2.2.1 2, 14, .inl (fun _ => 0))) := by rw [ew_45, hp_set_ne ne_hA2_A22]; exact hA2
  have ne_hA3_A22 := hp_ne_n hA3 hn_A22
  have hA3 : w_45 A3 = some (.inl (G.2.2.1 2, 14, .inl (fun _ => 0))) := by rw [ew_45, hp_set_ne ne_hA3_A22]; exact hA3
  have ne_hA4_A22 := hp_ne_n hA4 hn_A22
  have hA4 : w_45 A4 = some (.inl (G.2.2.1 0, 14, .inl (fun _ => 0))) := by rw [ew_45, hp_set_ne ne_hA4_A22]; exact hA4
  have ne_hA5_A22 := hp_ne_n hA5 hn_A22
  have hA5 : w_45 A5 = some (.inl (G.2.2.1 0, 14, .inl (fun _ => 0))) := by rw [ew_45, hp_set_ne ne_hA5_A22]; exact hA5
  have ne_hA6_A22 := hp_ne_n hA6 hn_A22
  have hA6 : w_45 A6 = some (.inl (G.2.2.1 0, 14, .inl (fun _ => 0))) := by rw [ew_45, hp_set_ne ne_hA6_A22]; exact hA6
  have ne_hA7_A22 := hp_ne_n hA7 hn_A22
  have hA7 : w_45 A7 = some (.inl (G.2.2.1 0, 14, .inl (fun _ => 0))) := by rw [ew_45, hp_set_ne ne_hA7_A22]; exact hA7
  have ne_hA8_A22 := hp_ne_n hA8 hn_A22
  have hA8 : w_45 A8 = some (.inl (G.2.2.1 0, 196, .inl (fun _ => 0))) := by rw [ew_45, hp_set_ne ne_hA8_A22]; exact hA8
  have ne_hA9_A22 := hp_ne_n hA9 hn_A22
  have hA9 : w_45 A9 = some (.inl (G.2.2.1 0, 14, .inl (fun _ => 0))) := by rw [ew_45, hp_set_ne ne_hA9_A22]; exact hA9
  have ne_hA10_A22 := hp_ne_n hA10 hn_A22
  have hA10 : w_45 A10 = some (.inl (G.2.2.1 0, 56, .inl (fun _ => 0))) := by rw [ew_45, hp_set_ne ne_hA10_A22]; exact hA10
  have ne_hA11_A22 := hp_ne_n hA11 hn_A22
  have hA11 : w_45 A11 = some (.inl (G.2.2.1 0, 14, .inl (fun _ => 0))) := by rw [ew_45, hp_set_ne ne_hA11_A22]; exact hA11
  have ne_hA12_A22 := hp_ne_n hA12 hn_A22
  have hA12 : w_45 A12 = some (.inl (G.2.2.1 0, 14, .inl (fun _ => 0))) := by rw [ew_45, hp_set_ne ne_hA12_A22]; exact hA12
  have ne_hA13_A22 := hp_ne_n hA13 hn_A22
  have hA13 : w_45 A13 = some (.inl (G.2.2.1 0, 14, .inl (fun _ => 0))) := by rw [ew_45, hp_set_ne ne_hA13_A22]; exact hA13
  have ne_hA14_A22 := hp_ne_n hA14 hn_A22
  have hA14 : w_45 A14 = some (.inl (G.2.2.1 1, 14, .inr (.inr (.inr (.inl (fun _ => FP.dconst0)))))) := by rw [ew_45, hp_set_ne ne_hA14_A22]; exact hA14
  have ne_hA15_A22 := hp_ne_n hA15 hn_A22
  have hA15 : w_45 A15 = some (.inl (G.2.2.1 1, 14, .inr (.inr (.inr (.inl (fun _ => FP.dconst0)))))) := by rw [ew_45, hp_set_ne ne_hA15_A22]; exact hA15
  have ne_hA16_A22 := hp_ne_n hA16 hn_A22
  have hA16 : w_45 A16 = some (.inl (G.2.2.1 1, 14, .inr (.inr (.inr (.inl (fun _ => FP.dconst0)))))) := by rw [ew_45, hp_set_ne ne_hA16_A22]; exact hA16
  have ne_hA17_A22 := hp_ne_n hA17 hn_A22
  have hA17 : w_45 A17 = some (.inl (G.2.2.1 1, 56, .inr (.inr (.inr (.inl (fun _ => FP.dconst0)))))) := by rw [ew_45, hp_set_ne ne_hA17_A22]; exact hA17
  have ne_hA18_A22 := hp_ne_n hA18 hn_A22
  have hA18 : w_45 A18 = some (.inl (G.2.2.1 1, 224, .inr (.inr (.inr (.inl (fun _ => FP.dconst0)))))) := by rw [ew_45, hp_set_ne ne_hA18_A22]; exact hA18
  have ne_hA19_A22 := hp_ne_n hA19 hn_A22
  have hA19 : w_45 A19 = some (.inl (G.2.2.1 1, 224, .inr (.inr (.inr (.inl (fun _ => FP.dconst0)))))) := by rw [ew_45, hp_set_ne ne_hA19_A22]; exact hA19
  have ne_hA20_A22 := hp_ne_n hA20 hn_A22
  have hA20 : w_45 A20 = some (.inl (G.2.2.1 1, 14, .inr (.inr (.inr (.inl (fun _ => FP.dconst0)))))) := by rw [ew_45, hp_set_ne ne_hA20_A22]; exact hA20
  have ne_hA21_A22 := hp_ne_n hA21 hn_A22
  have hA21 : w_45 A21 = some (.inl (G.2.2.1 1, 14, .inr (.inr (.inr (.inl (fun _ => FP.dconst0)))))) := by rw [ew_45, hp_set_ne ne_hA21_A22]; exact hA21
  have hA22 : w_45 A22 = some (.inl (G.2.2.1 1, 28, .inr (.inr (.inr (.inl (fun _ => FP.dconst0)))))) := by rw [ew_45]; exact hp_set_eq _ _ _
  have nA22 : a ≠ A22 := ne_ha_A22
  have n0_22 : A0 ≠ A22 := ne_hA0_A22
  have n1_22 : A1 ≠ A22 := ne_hA1_A22
  have n2_22 : A2 ≠ A22 := ne_hA2_A22
  have n3_22 : A3 ≠ A22 := ne_hA3_A22
  have n4_22 : A4 ≠ A22 := ne_hA4_A22
  have n5_22 : A5 ≠ A22 := ne_hA5_A22
  have n6_22 : A6 ≠ A22 := ne_hA6_A22
  have n7_22 : A7 ≠ A22 := ne_hA7_A22
  have n8_22 : A8 ≠ A22 := ne_hA8_A22
  have n9_22 : A9 ≠ A22 := ne_hA9_A22
  have n10_22 : A10 ≠ A22 := ne_hA10_A22
  have n11_22 : A11 ≠ A22 := ne_hA11_A22
  have n12_22 : A12 ≠ A22 := ne_hA12_A22
  have n13_22 : A13 ≠ A22 := ne_hA13_A22
  have n14_22 : A14 ≠ A22 := ne_hA14_A22
  have n15_22 : A15 ≠ A22 := ne_hA15_A22
  have n16_22 : A16 ≠ A22 := ne_hA16_A22
  have n17_22 : A17 ≠ A22 := ne_hA17_A22
  have n18_22 : A18 ≠ A22 := ne_hA18_A22
  have n19_22 : A19 ≠ A22 := ne_hA19_A22
  have n20_22 : A20 ≠ A22 := ne_hA20_A22
  have n21_22 : A21 ≠ A22 := ne_hA21_A22
  have wA22 : w A22 = none := by
    cases hw : w A22 with
    | none => rfl
    | some x => rw [fr22 A22 x hw (Ne.symm nA22)] at hn_A22; cases hn_A22
  refine hp_putF (ci := 5) (v := .ref A22) (ty := .array .double) (C := R_Mo) (T := F_Mo) (N := 28) hx hb hg i_Mo t_Mo t_Mo_ok n_Mo hown hK hI hS ha rfl 22 (by decide) (hg _ k_795) (fun _ h9 => h9) rfl hin rfl (by decide +kernel) rfl rfl (Nat.le_of_ble_eq_true rfl) d_Mo_init_188 (fun H locs hI hS hsz => ?_)
  obtain ⟨w_46, ew_46⟩ : ∃ z9, z9 = hp_set w_45 a (.inr (5, [.ref A0, .ref A1, .ref A2, .ref A3, .ref A4, .ref A5, .ref A6, .ref A7, .ref A8, .ref A9, .ref A10, .ref A11, .ref A12, .ref A13, .ref A14, .ref A15, .ref A16, .ref A17, .ref A18, .ref A19, .ref A20, .ref A21, .ref A22, .null, .null, .int 0, .int 0, .int 0])) := ⟨_, rfl⟩
  have hI : eI G S0 w_46 H := by rw [ew_46]; exact hI
  have hA0 : w_46 A0 = some (.inl (G.2.2.1 2, 14, .inl (fun _ => 0))) := by rw [ew_46, hp_set_ne (hp_ne_ao hA0 ha)]; exact hA0
  have hA1 : w_46 A1 = some (.inl (G.2.2.1 2, 14, .inl (fun _ => 0))) := by rw [ew_46, hp_set_ne (hp_ne_ao hA1 ha)]; exact hA1
  have hA2 : w_46 A2 = some (.inl (G.2.2.1 2, 14, .inl (fun _ => 0))) := by rw [ew_46, hp_set_ne (hp_ne_ao hA2 ha)]; exact hA2
  have hA3 : w_46 A3 = some (.inl (G.2.2.1 2, 14, .inl (fun _ => 0))) := by rw [ew_46, hp_set_ne (hp_ne_ao hA3 ha)]; exact hA3
  have hA4 : w_46 A4 = some (.inl (G.2.2.1 0, 14, .inl (fun _ => 0))) := by rw [ew_46, hp_set_ne (hp_ne_ao hA4 ha)]; exact hA4
  have hA5 : w_46 A5 = some (.inl (G.2.2.1 0, 14, .inl (fun _ => 0))) := by rw [ew_46, hp_set_ne (hp_ne_ao hA5 ha)]; exact hA5
  have hA6 : w_46 A6 = some (.inl (G.2.2.1 0, 14, .inl (fun _ => 0))) := by rw [ew_46, hp_set_ne (hp_ne_ao hA6 ha)]; exact hA6
  have hA7 : w_46 A7 = some (.inl (G.2.2.1 0, 14, .inl (fun _ => 0))) := by rw [ew_46, hp_set_ne (hp_ne_ao hA7 ha)]; exact hA7
  have hA8 : w_46 A8 = some (.inl (G.2.2.1 0, 196, .inl (fun _ => 0))) := by rw [ew_46, hp_set_ne (hp_ne_ao hA8 ha)]; exact hA8
  have hA9 : w_46 A9 = some (.inl (G.2.2.1 0, 14, .inl (fun _ => 0))) := by rw [ew_46, hp_set_ne (hp_ne_ao hA9 ha)]; exact hA9
  have hA10 : w_46 A10 = some (.inl (G.2.2.1 0, 56, .inl (fun _ => 0))) := by rw [ew_46, hp_set_ne (hp_ne_ao hA10 ha)]; exact hA10
  have hA11 : w_46 A11 = some (.inl (G.2.2.1 0, 14, .inl (fun _ => 0))) := by rw [ew_46, hp_set_ne (hp_ne_ao hA11 ha)]; exact hA11
  have hA12 : w_46 A12 = some (.inl (G.2.2.1 0, 14, .inl (fun _ => 0))) := by rw [ew_46, hp_set_ne (hp_ne_ao hA12 ha)]; exact hA12
  have hA13 : w_46 A13 = some (.inl (G.2.2.1 0, 14, .inl (fun _ => 0))) := by rw [ew_46, hp_set_ne (hp_ne_ao hA13 ha)]; exact hA13
  have hA14 : w_46 A14 = some (.inl (G.2.2.1 1, 14, .inr (.inr (.inr (.inl (fun _ => FP.dconst0)))))) := by rw [ew_46, hp_set_ne (hp_ne_ao hA14 ha)]; exact hA14
  have hA15 : w_46 A15 = some (.inl (G.2.2.1 1, 14, .inr (.inr (.inr (.inl (fun _ => FP.dconst0)))))) := by rw [ew_46, hp_set_ne (hp_ne_ao hA15 ha)]; exact hA15
  have hA16 : w_46 A16 = some (.inl (G.2.2.1 1, 14, .inr (.inr (.inr (.inl (fun _ => FP.dconst0)))))) := by rw [ew_46, hp_set_ne (hp_ne_ao hA16 ha)]; exact hA16
  have hA17 : w_46 A17 = some (.inl (G.2.2.1 1, 56, .inr (.inr (.inr (.inl (fun _ => FP.dconst0)))))) := by rw [ew_46, hp_set_ne (hp_ne_ao hA17 ha)]; exact hA17
  have hA18 : w_46 A18 = some (.inl (G.2.2.1 1, 224, .inr (.inr (.inr (.inl (fun _ => FP.dconst0)))))) := by rw [ew_46, hp_set_ne (hp_ne_ao hA18 ha)]; exact hA18
  have hA19 : w_46 A19 = some (.inl (G.2.2.1 1, 224, .inr (.inr (.inr (.inl (fun _ => FP.dconst0)))))) := by rw [ew_46, hp_set_ne (hp_ne_ao hA19 ha)]; exact hA19
  have hA20 : w_46 A20 = some (.inl (G.2.2.1 1, 14, .inr (.inr (.inr (.inl (fun _ => FP.dconst0)))))) := by rw [ew_46, hp_set_ne (hp_ne_ao hA20 ha)]; exact hA20
  have hA21 : w_46 A21 = some (.inl (G.2.2.1 1, 14, .inr (.inr (.inr (.inl (fun _ => FP.dconst0)))))) := by rw [ew_46, hp_set_ne (hp_ne_ao hA21 ha)]; exact hA21
  have hA22 : w_46 A22 = some (.inl (G.2.2.1 1, 28, .inr (.inr (.inr (.inl (fun _ => FP.dconst0)))))) := by rw [ew_46, hp_set_ne (hp_ne_ao hA22 ha)]; exact hA22
  have ha : w_46 a = some (.inr (5, [.ref A0, .ref A1, .ref A2, .ref A3, .ref A4, .ref A5, .ref A6, .ref A7, .ref A8, .ref A9, .ref A10, .ref A11, .ref A12, .ref A13, .ref A14, .ref A15, .ref A16, .ref A17, .ref A18, .ref A19, .ref A20, .ref A21, .ref A22, .null, .null, .int 0, .int 0, .int 0])) := by rw [ew_46]; exact hp_set_eq _ _ _
  refine lv_aload_n hx hb d_Mo_init_191 rfl (lv_at hl 0 rfl) ?_
  refine lv_bipush (v := 28) hx hb d_Mo_init_192 (by decide) ?_
  have fr23 : ∀ b x, w b = some x → b ≠ a → w_46 b = some x := fun b x hb9 hba => by
    rw [ew_46, hp_set_ne hba, ew_45, hp_set_ne (hp_ne_n hb9 wA22)]
    exact fr22 b x hb9 hba
  refine hp_newa (atype := .double) (N' := 28) (a0 := (28, .inr (.inr (.inr (.inl (fun _ => FP.dconst0)))))) hx hb (hg _ k_165) rfl hK hI hS hz 1 rfl (fun _ h => by cases h) (fun _ => rfl) (by decide) (by decide) (by decide) (Nat.le_of_ble_eq_true rfl) (Nat.le_of_ble_eq_true rfl) d_Mo_init_194 (fun A23 H hn_A23 hs_A23 hz_A23 hI hS => ?_)
  obtain ⟨w_47, ew_47⟩ : ∃ z9, z9 = hp_set w_46 A23 (.inl (G.2.2.1 1, 28, .inr (.inr (.inr (.inl (fun _ => FP.dconst0)))))) := ⟨_, rfl⟩
  have hI : eI G S0 w_47 H := by rw [ew_47]; exact hI
  have ne_ha_A23 := hp_ne_n ha hn_A23
  have ha : w_47 a = some (.inr (5, [.ref A0, .ref A1, .ref A2, .ref A3, .ref A4, .ref A5, .ref A6, .ref A7, .ref A8, .ref A9, .ref A10, .ref A11, .ref A12, .ref A13, .ref A14, .ref A15, .ref A16, .ref A17, .ref A18, .ref A19, .ref A20, .ref A21, .ref A22, .null, .null, .int 0, .int 0, .int 0])) := by rw [ew_47, hp_set_ne ne_ha_A23]; exact ha
  have ne_hA0_A23 := hp_ne_n hA0 hn_A23
  have hA0 : w_47 A0 = some (.inl (G.2.2.1 2, 14, .inl (fun _ => 0))) := by rw [ew_47, hp_set_ne ne_hA0_A23]; exact hA0
  have ne_hA1_A23 := hp_ne_n hA1 hn_A23
  have hA1 : w_47 A1 = some (.inl (G.2.2.1 2, 14, .inl (fun _ => 0))) := by rw [ew_47, hp_set_ne ne_hA1_A23]; exact hA1
  have ne_hA2_A23 := hp_ne_n hA2 hn_A23
  have hA2 : w_47 A2 = some (.inl (G.2.2.1 2, 14, .inl (fun _ => 0))) := by rw [ew_47, hp_set_ne ne_hA2_A23]; exact hA2
  have ne_hA3_A23 := hp_ne_n hA3 hn_A23
  have hA3 : w_47 A3 = some (.inl (G.2.2.1 2, 14, .inl (fun _ => 0))) := by rw [ew_47, hp_set_ne ne_hA3_A23]; exact hA3
  have ne_hA4_A23 := hp_ne_n hA4 hn_A23
  have hA4 : w_47 A4 = some (.inl (G.2.2.1 0, 14, .inl (fun _ => 0))) := by rw [ew_47, hp_set_ne ne_hA4_A23]; exact hA4
  have ne_hA5_A23 := hp_ne_n hA5 hn_A23
  have hA5 : w_47 A5 = some (.inl (G.2.2.1 0, 14, .inl (fun _ => 0))) := by rw [ew_47, hp_set_ne ne_hA5_A23]; exact hA5
  have ne_hA6_A23 := hp_ne_n hA6 hn_A23
  have hA6 : w_47 A6 = some (.inl (G.2.2.1 0, 14, .inl (fun _ => 0))) := by rw [ew_47, hp_set_ne ne_hA6_A23]; exact hA6
  have ne_hA7_A23 := hp_ne_n hA7 hn_A23
  have hA7 : w_47 A7 = some (.inl (G.2.2.1 0, 14, .inl (fun _ => 0))) := by rw [ew_47, hp_set_ne ne_hA7_A23]; exact hA7
  have ne_hA8_A23 := hp_ne_n hA8 hn_A23
  have hA8 : w_47 A8 = some (.inl (G.2.2.1 0, 196, .inl (fun _ => 0))) := by rw [ew_47, hp_set_ne ne_hA8_A23]; exact hA8
  have ne_hA9_A23 := hp_ne_n hA9 hn_A23
  have hA9 : w_47 A9 = some (.inl (G.2.2.1 0, 14, .inl (fun _ => 0))) := by rw [ew_47, hp_set_ne ne_hA9_A23]; exact hA9
  have ne_hA10_A23 := hp_ne_n hA10 hn_A23
  have hA10 : w_47 A10 = some (.inl (G.2.2.1 0, 56, .inl (fun _ => 0))) := by rw [ew_47, hp_set_ne ne_hA10_A23]; exact hA10
  have ne_hA11_A23 := hp_ne_n hA11 hn_A23
  have hA11 : w_47 A11 = some (.inl (G.2.2.1 0, 14, .inl (fun _ => 0))) := by rw [ew_47, hp_set_ne ne_hA11_A23]; exact hA11
  have ne_hA12_A23 := hp_ne_n hA12 hn_A23
  have hA12 : w_47 A12 = some (.inl (G.2.2.1 0, 14, .inl (fun _ => 0))) := by rw [ew_47, hp_set_ne ne_hA12_A23]; exact hA12
  have ne_hA13_A23 := hp_ne_n hA13 hn_A23
  have hA13 : w_47 A13 = some (.inl (G.2.2.1 0, 14, .inl (fun _ => 0))) := by rw [ew_47, hp_set_ne ne_hA13_A23]; exact hA13
  have ne_hA14_A23 := hp_ne_n hA14 hn_A23
  have hA14 : w_47 A14 = some (.inl (G.2.2.1 1, 14, .inr (.inr (.inr (.inl (fun _ => FP.dconst0)))))) := by rw [ew_47, hp_set_ne ne_hA14_A23]; exact hA14
  have ne_hA15_A23 := hp_ne_n hA15 hn_A23
  have hA15 : w_47 A15 = some (.inl (G.2.2.1 1, 14, .inr (.inr (.inr (.inl (fun _ => FP.dconst0)))))) := by rw [ew_47, hp_set_ne ne_hA15_A23]; exact hA15
  have ne_hA16_A23 := hp_ne_n hA16 hn_A23
  have hA16 : w_47 A16 = some (.inl (G.2.2.1 1, 14, .inr (.inr (.inr (.inl (fun _ => FP.dconst0)))))) := by rw [ew_47, hp_set_ne ne_hA16_A23]; exact hA16
  have ne_hA17_A23 := hp_ne_n hA17 hn_A23
  have hA17 : w_47 A17 = some (.inl (G.2.2.1 1, 56, .inr (.inr (.inr (.inl (fun _ => FP.dconst0)))))) := by rw [ew_47, hp_set_ne ne_hA17_A23]; exact hA17
  have ne_hA18_A23 := hp_ne_n hA18 hn_A23
  have hA18 : w_47 A18 = some (.inl (G.2.2.1 1, 224, .inr (.inr (.inr (.inl (fun _ => FP.dconst0)))))) := by rw [ew_47, hp_set_ne ne_hA18_A23]; exact hA18
  have ne_hA19_A23 := hp_ne_n hA19 hn_A23
  have hA19 : w_47 A19 = some (.inl (G.2.2.1 1, 224, .inr (.inr (.inr (.inl (fun _ => FP.dconst0)))))) := by rw [ew_47, hp_set_ne ne_hA19_A23]; exact hA19
  have ne_hA20_A23 := hp_ne_n hA20 hn_A23
  have hA20 : w_47 A20 = some (.inl (G.2.2.1 1, 14, .inr (.inr (.inr (.inl (fun _ => FP.dconst0)))))) := by rw [ew_47, hp_set_ne ne_hA20_A23]; exact hA20
  have ne_hA21_A23 := hp_ne_n hA21 hn_A23
  have hA21 : w_47 A21 = some (.inl (G.2.2.1 1, 14, .inr (.inr (.inr (.inl (fun _ => FP.dconst0)))))) := by rw [ew_47, hp_set_ne ne_hA21_A23]; exact hA21
  have ne_hA22_A23 := hp_ne_n hA22 hn_A23
  have hA22 : w_47 A22 = some (.inl (G.2.2.1 1, 28, .inr (.inr (.inr (.inl (fun _ => FP.dconst0)))))) := by rw [ew_47, hp_set_ne ne_hA22_A23]; exact hA22
  have hA23 : w_47 A23 = some (.inl (G.2.2.1 1, 28, .inr (.inr (.inr (.inl (fun _ => FP.dconst0)))))) := by rw [ew_47]; exact hp_set_eq _ _ _
  have nA23 : a ≠ A23 := ne_ha_A23
  have n0_23 : A0 ≠ A23 := ne_hA0_A23
  have n1_23 : A1 ≠ A23 := ne_hA1_A23
  have n2_23 : A2 ≠ A23 := ne_hA2_A23
  have n3_23 : A3 ≠ A23 := ne_hA3_A23
  have n4_23 : A4 ≠ A23 := ne_hA4_A23
  have n5_23 : A5 ≠ A23 := ne_hA5_A23
  have n6_23 : A6 ≠ A23 := ne_hA6_A23
  have n7_23 : A7 ≠ A23 := ne_hA7_A23
  have n8_23 : A8 ≠ A23 := ne_hA8_A23
  have n9_23 : A9 ≠ A23 := ne_hA9_A23
  have n10_23 : A10 ≠ A23 := ne_hA10_A23
  have n11_23 : A11 ≠ A23 := ne_hA11_A23
  have n12_23 : A12 ≠ A23 := ne_hA12_A23
  have n13_23 : A13 ≠ A23 := ne_hA13_A23
  have n14_23 : A14 ≠ A23 := ne_hA14_A23
  have n15_23 : A15 ≠ A23 := ne_hA15_A23
  have n16_23 : A16 ≠ A23 := ne_hA16_A23
  have n17_23 : A17 ≠ A23 := ne_hA17_A23
  have n18_23 : A18 ≠ A23 := ne_hA18_A23
  have n19_23 : A19 ≠ A23 := ne_hA19_A23
  have n20_23 : A20 ≠ A23 := ne_hA20_A23
  have n21_23 : A21 ≠ A23 := ne_hA21_A23
  have n22_23 : A22 ≠ A23 := ne_hA22_A23
  have wA23 : w A23 = none := by
    cases hw : w A23 with
    | none => rfl
    | some x => rw [fr23 A23 x hw (Ne.symm nA23)] at hn_A23; cases hn_A23
  refine hp_putF (ci := 5) (v := .ref A23) (ty := .array .double) (C := R_Mo) (T := F_Mo) (N := 28) hx hb hg i_Mo t_Mo t_Mo_ok n_Mo hown hK hI hS ha rfl 23 (by decide) (hg _ k_796) (fun _ h9 => h9) rfl hin rfl (by decide +kernel) rfl rfl (Nat.le_of_ble_eq_true rfl) d_Mo_init_196 (fun H locs hI hS hsz => ?_)
  obtain ⟨w_48, ew_48⟩ : ∃ z9, z9 = hp_set w_47 a (.inr (5, [.ref A0, .ref A1, .ref A2, .ref A3, .ref A4, .ref A5, .ref A6, .ref A7, .ref A8, .ref A9, .ref A10, .ref A11, .ref A12, .ref A13, .ref A14, .ref A15, .ref A16, .ref A17, .ref A18, .ref A19, .ref A20, .ref A21, .ref A22, .ref A23, .null, .int 0, .int 0, .int 0])) := ⟨_, rfl⟩
  have hI : eI G S0 w_48 H := by rw [ew_48]; exact hI
  have hA0 : w_48 A0 = some (.inl (G.2.2.1 2, 14, .inl (fun _ => 0))) := by rw [ew_48, hp_set_ne (hp_ne_ao hA0 ha)]; exact hA0
  have hA1 : w_48 A1 = some (.inl (G.2.2.1 2, 14, .inl (fun _ => 0))) := by rw [ew_48, hp_set_ne (hp_ne_ao hA1 ha)]; exact hA1
  have hA2 : w_48 A2 = some (.inl (G.2.2.1 2, 14, .inl (fun _ => 0))) := by rw [ew_48, hp_set_ne (hp_ne_ao hA2 ha)]; exact hA2
  have hA3 : w_48 A3 = some (.inl (G.2.2.1 2, 14, .inl (fun _ => 0))) := by rw [ew_48, hp_set_ne (hp_ne_ao hA3 ha)]; exact hA3
  have hA4 : w_48 A4 = some (.inl (G.2.2.1 0, 14, .inl (fun _ => 0))) := by rw [ew_48, hp_set_ne (hp_ne_ao hA4 ha)]; exact hA4
  have hA5 : w_48 A5 = some (.inl (G.2.2.1 0, 14, .inl (fun _ => 0))) := by rw [ew_48, hp_set_ne (hp_ne_ao hA5 ha)]; exact hA5
  have hA6 : w_48 A6 = some (.inl (G.2.2.1 0, 14, .inl (fun _ => 0))) := by rw [ew_48, hp_set_ne (hp_ne_ao hA6 ha)]; exact hA6
  have hA7 : w_48 A7 = some (.inl (G.2.2.1 0, 14, .inl (fun _ => 0))) := by rw [ew_48, hp_set_ne (hp_ne_ao hA7 ha)]; exact hA7
  have hA8 : w_48 A8 = some (.inl (G.2.2.1 0, 196, .inl (fun _ => 0))) := by rw [ew_48, hp_set_ne (hp_ne_ao hA8 ha)]; exact hA8
  have hA9 : w_48 A9 = some (.inl (G.2.2.1 0, 14, .inl (fun _ => 0))) := by rw [ew_48, hp_set_ne (hp_ne_ao hA9 ha)]; exact hA9
  have hA10 : w_48 A10 = some (.inl (G.2.2.1 0, 56, .inl (fun _ => 0))) := by rw [ew_48, hp_set_ne (hp_ne_ao hA10 ha)]; exact hA10
  have hA11 : w_48 A11 = some (.inl (G.2.2.1 0, 14, .inl (fun _ => 0))) := by rw [ew_48, hp_set_ne (hp_ne_ao hA11 ha)]; exact hA11
  have hA12 : w_48 A12 = some (.inl (G.2.2.1 0, 14, .inl (fun _ => 0))) := by rw [ew_48, hp_set_ne (hp_ne_ao hA12 ha)]; exact hA12
  have hA13 : w_48 A13 = some (.inl (G.2.2.1 0, 14, .inl (fun _ => 0))) := by rw [ew_48, hp_set_ne (hp_ne_ao hA13 ha)]; exact hA13
  have hA14 : w_48 A14 = some (.inl (G.2.2.1 1, 14, .inr (.inr (.inr (.inl (fun _ => FP.dconst0)))))) := by rw [ew_48, hp_set_ne (hp_ne_ao hA14 ha)]; exact hA14
  have hA15 : w_48 A15 = some (.inl (G.2.2.1 1, 14, .inr (.inr (.inr (.inl (fun _ => FP.dconst0)))))) := by rw [ew_48, hp_set_ne (hp_ne_ao hA15 ha)]; exact hA15
  have hA16 : w_48 A16 = some (.inl (G.2.2.1 1, 14, .inr (.inr (.inr (.inl (fun _ => FP.dconst0)))))) := by rw [ew_48, hp_set_ne (hp_ne_ao hA16 ha)]; exact hA16
  have hA17 : w_48 A17 = some (.inl (G.2.2.1 1, 56, .inr (.inr (.inr (.inl (fun _ => FP.dconst0)))))) := by rw [ew_48, hp_set_ne (hp_ne_ao hA17 ha)]; exact hA17
  have hA18 : w_48 A18 = some (.inl (G.2.2.1 1, 224, .inr (.inr (.inr (.inl (fun _ => FP.dconst0)))))) := by rw [ew_48, hp_set_ne (hp_ne_ao hA18 ha)]; exact hA18
  have hA19 : w_48 A19 = some (.inl (G.2.2.1 1, 224, .inr (.inr (.inr (.inl (fun _ => FP.dconst0)))))) := by rw [ew_48, hp_set_ne (hp_ne_ao hA19 ha)]; exact hA19
  have hA20 : w_48 A20 = some (.inl (G.2.2.1 1, 14, .inr (.inr (.inr (.inl (fun _ => FP.dconst0)))))) := by rw [ew_48, hp_set_ne (hp_ne_ao hA20 ha)]; exact hA20
  have hA21 : w_48 A21 = some (.inl (G.2.2.1 1, 14, .inr (.inr (.inr (.inl (fun _ => FP.dconst0)))))) := by rw [ew_48, hp_set_ne (hp_ne_ao hA21 ha)]; exact hA21
  have hA22 : w_48 A22 = some (.inl (G.2.2.1 1, 28, .inr (.inr (.inr (.inl (fun _ => FP.dconst0)))))) := by rw [ew_48, hp_set_ne (hp_ne_ao hA22 ha)]; exact hA22
  have hA23 : w_48 A23 = some (.inl (G.2.2.1 1, 28, .inr (.inr (.inr (.inl (fun _ => FP.dconst0)))))) := by rw [ew_48, hp_set_ne (hp_ne_ao hA23 ha)]; exact hA23
  have ha : w_48 a = some (.inr (5, [.ref A0, .ref A1, .ref A2, .ref A3, .ref A4, .ref A5, .ref A6, .ref A7, .ref A8, .ref A9, .ref A10, .ref A11, .ref A12, .ref A13, .ref A14, .ref A15, .ref A16, .ref A17, .ref A18, .ref A19, .ref A20, .ref A21, .ref A22, .ref A23, .null, .int 0, .int 0, .int 0])) := by rw [ew_48]; exact hp_set_eq _ _ _
  refine lv_aload_n hx hb d_Mo_init_199 rfl (lv_at hl 0 rfl) ?_
  refine lv_sipush (v := 192) hx hb d_Mo_init_200 (by decide) ?_
  have fr24 : ∀ b x, w b = some x → b ≠ a → w_48 b = some x := fun b x hb9 hba => by
    rw [ew_48, hp_set_ne hba, ew_47, hp_set_ne (hp_ne_n hb9 wA23)]
    exact fr23 b x hb9 hba
  refine hp_newa (atype := .int) (N' := 192) (a0 := (192, .inl (fun _ => 0))) hx hb (hg _ k_121) rfl hK hI hS hz 0 rfl (fun _ h => by cases h) (fun _ => rfl) (by decide) (by decide) (by decide) (Nat.le_of_ble_eq_true rfl) (Nat.le_of_ble_eq_true rfl) d_Mo_init_203 (fun A24 H hn_A24 hs_A24 hz_A24 hI hS => ?_)
  obtain ⟨w_49, ew_49⟩ : ∃ z9, z9 = hp_set w_48 A24 (.inl (G.2.2.1 0, 192, .inl (fun _ => 0))) := ⟨_, rfl⟩
  have hI : eI G S0 w_49 H := by rw [ew_49]; exact hI
  have ne_ha_A24 := hp_ne_n ha hn_A24
  have ha : w_49 a = some (.inr (5, [.ref A0, .ref A1, .ref A2, .ref A3, .ref A4, .ref A5, .ref A6, .ref A7, .ref A8, .ref A9, .ref A10, .ref A11, .ref A12, .ref A13, .ref A14, .ref A15, .ref A16, .ref A17, .ref A18, .ref A19, .ref A20, .ref A21, .ref A22, .ref A23, .null, .int 0, .int 0, .int 0])) := by rw [ew_49, hp_set_ne ne_ha_A24]; exact ha
  have ne_hA0_A24 := hp_ne_n hA0 hn_A24
  have hA0 : w_49 A0 = some (.inl (G.2.2.1 2, 14, .inl (fun _ => 0))) := by rw [ew_49, hp_set_ne ne_hA0_A24]; exact hA0
  have ne_hA1_A24 := hp_ne_n hA1 hn_A24
  have hA1 : w_49 A1 = some (.inl (G.2.2.1 2, 14, .inl (fun _ => 0))) := by rw [ew_49, hp_set_ne ne_hA1_A24]; exact hA1
  have ne_hA2_A24 := hp_ne_n hA2 hn_A24
  have hA2 : w_49 A2 = some (.inl (G.2.2.1 2, 14, .inl (fun _ => 0))) := by rw [ew_49, hp_set_ne ne_hA2_A24]; exact hA2
  have ne_hA3_A24 := hp_ne_n hA3 hn_A24
  have hA3 : w_49 A3 = some (.inl (G.2.2.1 2, 14, .inl (fun _ => 0))) := by rw [ew_49, hp_set_ne ne_hA3_A24]; exact hA3
  have ne_hA4_A24 := hp_ne_n hA4 hn_A24
  have hA4 : w_49 A4 = some (.inl (G.2.2.1 0, 14, .inl (fun _ => 0))) := by rw [ew_49, hp_set_ne ne_hA4_A24]; exact hA4
  have ne_hA5_A24 := hp_ne_n hA5 hn_A24
  have hA5 : w_49 A5 = some (.inl (G.2.2.1 0, 14, .inl (fun _ => 0))) := by rw [ew_49, hp_set_ne ne_hA5_A24]; exact hA5
  have ne_hA6_A24 := hp_ne_n hA6 hn_A24
  have hA6 : w_49 A6 = some (.inl (G.2.2.1 0, 14, .inl (fun _ => 0))) := by rw [ew_49, hp_set_ne ne_hA6_A24]; exact hA6
  have ne_hA7_A24 := hp_ne_n hA7 hn_A24
  have hA7 : w_49 A7 = some (.inl (G.2.2.1 0, 14, .inl (fun _ => 0))) := by rw [ew_49, hp_set_ne ne_hA7_A24]; exact hA7
  have ne_hA8_A24 := hp_ne_n hA8 hn_A24
  have hA8 : w_49 A8 = some (.inl (G.2.2.1 0, 196, .inl (fun _ => 0))) := by rw [ew_49, hp_set_ne ne_hA8_A24]; exact hA8
  have ne_hA9_A24 := hp_ne_n hA9 hn_A24
  have hA9 : w_49 A9 = some (.inl (G.2.2.1 0, 14, .inl (fun _ => 0))) := by rw [ew_49, hp_set_ne ne_hA9_A24]; exact hA9
  have ne_hA10_A24 := hp_ne_n hA10 hn_A24
  have hA10 : w_49 A10 = some (.inl (G.2.2.1 0, 56, .inl (fun _ => 0))) := by rw [ew_49, hp_set_ne ne_hA10_A24]; exact hA10
  have ne_hA11_A24 := hp_ne_n hA11 hn_A24
  have hA11 : w_49 A11 = some (.inl (G.2.2.1 0, 14, .inl (fun _ => 0))) := by rw [ew_49, hp_set_ne ne_hA11_A24]; exact hA11
  have ne_hA12_A24 := hp_ne_n hA12 hn_A24
  have hA12 : w_49 A12 = some (.inl (G.2.2.1 0, 14, .inl (fun _ => 0))) := by rw [ew_49, hp_set_ne ne_hA12_A24]; exact hA12
  have ne_hA13_A24 := hp_ne_n hA13 hn_A24
  have hA13 : w_49 A13 = some (.inl (G.2.2.1 0, 14, .inl (fun _ => 0))) := by rw [ew_49, hp_set_ne ne_hA13_A24]; exact hA13
  have ne_hA14_A24 := hp_ne_n hA14 hn_A24
  have hA14 : w_49 A14 = some (.inl (G.2.2.1 1, 14, .inr (.inr (.inr (.inl (fun _ => FP.dconst0)))))) := by rw [ew_49, hp_set_ne ne_hA14_A24]; exact hA14
  have ne_hA15_A24 := hp_ne_n hA15 hn_A24
  have hA15 : w_49 A15 = some (.inl (G.2.2.1 1, 14, .inr (.inr (.inr (.inl (fun _ => FP.dconst0)))))) := by rw [ew_49, hp_set_ne ne_hA15_A24]; exact hA15
  have ne_hA16_A24 := hp_ne_n hA16 hn_A24
  have hA16 : w_49 A16 = some (.inl (G.2.2.1 1, 14, .inr (.inr (.inr (.inl (fun _ => FP.dconst0)))))) := by rw [ew_49, hp_set_ne ne_hA16_A24]; exact hA16
  have ne_hA17_A24 := hp_ne_n hA17 hn_A24
  have hA17 : w_49 A17 = some (.inl (G.2.2.1 1, 56, .inr (.inr (.inr (.inl (fun _ => FP.dconst0)))))) := by rw [ew_49, hp_set_ne ne_hA17_A24]; exact hA17
  have ne_hA18_A24 := hp_ne_n hA18 hn_A24
  have hA18 : w_49 A18 = some (.inl (G.2.2.1 1, 224, .inr (.inr (.inr (.inl (fun _ => FP.dconst0)))))) := by rw [ew_49, hp_set_ne ne_hA18_A24]; exact hA18
  have ne_hA19_A24 := hp_ne_n hA19 hn_A24
  have hA19 : w_49 A19 = some (.inl (G.2.2.1 1, 224, .inr (.inr (.inr (.inl (fun _ => FP.dconst0)))))) := by rw [ew_49, hp_set_ne ne_hA19_A24]; exact hA19
  have ne_hA20_A24 := hp_ne_n hA20 hn_A24
  have hA20 : w_49 A20 = some (.inl (G.2.2.1 1, 14, .inr (.inr (.inr (.inl (fun _ => FP.dconst0)))))) := by rw [ew_49, hp_set_ne ne_hA20_A24]; exact hA20
  have ne_hA21_A24 := hp_ne_n hA21 hn_A24
  have hA21 : w_49 A21 = some (.inl (G.2.2.1 1, 14, .inr (.inr (.inr (.inl (fun _ => FP.dconst0)))))) := by rw [ew_49, hp_set_ne ne_hA21_A24]; exact hA21
  have ne_hA22_A24 := hp_ne_n hA22 hn_A24
  have hA22 : w_49 A22 = some (.inl (G.2.2.1 1, 28, .inr (.inr (.inr (.inl (fun _ => FP.dconst0)))))) := by rw [ew_49, hp_set_ne ne_hA22_A24]; exact hA22
  have ne_hA23_A24 := hp_ne_n hA23 hn_A24
  have hA23 : w_49 A23 = some (.inl (G.2.2.1 1, 28, .inr (.inr (.inr (.inl (fun _ => FP.dconst0)))))) := by rw [ew_49, hp_set_ne ne_hA23_A24]; exact hA23
  have hA24 : w_49 A24 = some (.inl (G.2.2.1 0, 192, .inl (fun _ => 0))) := by rw [ew_49]; exact hp_set_eq _ _ _
  have nA24 : a ≠ A24 := ne_ha_A24
  have n0_24 : A0 ≠ A24 := ne_hA0_A24
  have n1_24 : A1 ≠ A24 := ne_hA1_A24
  have n2_24 : A2 ≠ A24 := ne_hA2_A24
  have n3_24 : A3 ≠ A24 := ne_hA3_A24
  have n4_24 : A4 ≠ A24 := ne_hA4_A24
  have n5_24 : A5 ≠ A24 := ne_hA5_A24
  have n6_24 : A6 ≠ A24 := ne_hA6_A24
  have n7_24 : A7 ≠ A24 := ne_hA7_A24
  have n8_24 : A8 ≠ A24 := ne_hA8_A24
  have n9_24 : A9 ≠ A24 := ne_hA9_A24
  have n10_24 : A10 ≠ A24 := ne_hA10_A24
  have n11_24 : A11 ≠ A24 := ne_hA11_A24
  have n12_24 : A12 ≠ A24 := ne_hA12_A24
  have n13_24 : A13 ≠ A24 := ne_hA13_A24
  have n14_24 : A14 ≠ A24 := ne_hA14_A24
  have n15_24 : A15 ≠ A24 := ne_hA15_A24
  have n16_24 : A16 ≠ A24 := ne_hA16_A24
  have n17_24 : A17 ≠ A24 := ne_hA17_A24
  have n18_24 : A18 ≠ A24 := ne_hA18_A24
  have n19_24 : A19 ≠ A24 := ne_hA19_A24
  have n20_24 : A20 ≠ A24 := ne_hA20_A24
  have n21_24 : A21 ≠ A24 := ne_hA21_A24
  have n22_24 : A22 ≠ A24 := ne_hA22_A24
  have n23_24 : A23 ≠ A24 := ne_hA23_A24
  have wA24 : w A24 = none := by
    cases hw : w A24 with
    | none => rfl
    | some x => rw [fr24 A24 x hw (Ne.symm nA24)] at hn_A24; cases hn_A24
  refine hp_putF (ci := 5) (v := .ref A24) (ty := .array .int) (C := R_Mo) (T := F_Mo) (N := 28) hx hb hg i_Mo t_Mo t_Mo_ok n_Mo hown hK hI hS ha rfl 24 (by decide) (hg _ k_797) (fun _ h9 => h9) rfl hin rfl (by decide +kernel) rfl rfl (Nat.le_of_ble_eq_true rfl) d_Mo_init_205 (fun H locs hI hS hsz => ?_)
  obtain ⟨w_50, ew_50⟩ : ∃ z9, z9 = hp_set w_49 a (.inr (5, [.ref A0, .ref A1, .ref A2, .ref A3, .ref A4, .ref A5, .ref A6, .ref A7, .ref A8, .ref A9, .ref A10, .ref A11, .ref A12, .ref A13, .ref A14, .ref A15, .ref A16, .ref A17, .ref A18, .ref A19, .ref A20, .ref A21, .ref A22, .ref A23, .ref A24, .int 0, .int 0, .int 0])) := ⟨_, rfl⟩
  have hI : eI G S0 w_50 H := by rw [ew_50]; exact hI
  have hA0 : w_50 A0 = some (.inl (G.2.2.1 2, 14, .inl (fun _ => 0))) := by rw [ew_50, hp_set_ne (hp_ne_ao hA0 ha)]; exact hA0
  have hA1 : w_50 A1 = some (.inl (G.2.2.1 2, 14, .inl (fun _ => 0))) := by rw [ew_50, hp_set_ne (hp_ne_ao hA1 ha)]; exact hA1
  have hA2 : w_50 A2 = some (.inl (G.2.2.1 2, 14, .inl (fun _ => 0))) := by rw [ew_50, hp_set_ne (hp_ne_ao hA2 ha)]; exact hA2
  have hA3 : w_50 A3 = some (.inl (G.2.2.1 2, 14, .inl (fun _ => 0))) := by rw [ew_50, hp_set_ne (hp_ne_ao hA3 ha)]; exact hA3
  have hA4 : w_50 A4 = some (.inl (G.2.2.1 0, 14, .inl (fun _ => 0))) := by rw [ew_50, hp_set_ne (hp_ne_ao hA4 ha)]; exact hA4
  have hA5 : w_50 A5 = some (.inl (G.2.2.1 0, 14, .inl (fun _ => 0))) := by rw [ew_50, hp_set_ne (hp_ne_ao hA5 ha)]; exact hA5
  have hA6 : w_50 A6 = some (.inl (G.2.2.1 0, 14, .inl (fun _ => 0))) := by rw [ew_50, hp_set_ne (hp_ne_ao hA6 ha)]; exact hA6
  have hA7 : w_50 A7 = some (.inl (G.2.2.1 0, 14, .inl (fun _ => 0))) := by rw [ew_50, hp_set_ne (hp_ne_ao hA7 ha)]; exact hA7
  have hA8 : w_50 A8 = some (.inl (G.2.2.1 0, 196, .inl (fun _ => 0))) := by rw [ew_50, hp_set_ne (hp_ne_ao hA8 ha)]; exact hA8
  have hA9 : w_50 A9 = some (.inl (G.2.2.1 0, 14, .inl (fun _ => 0))) := by rw [ew_50, hp_set_ne (hp_ne_ao hA9 ha)]; exact hA9
  have hA10 : w_50 A10 = some (.inl (G.2.2.1 0, 56, .inl (fun _ => 0))) := by rw [ew_50, hp_set_ne (hp_ne_ao hA10 ha)]; exact hA10
  have hA11 : w_50 A11 = some (.inl (G.2.2.1 0, 14, .inl (fun _ => 0))) := by rw [ew_50, hp_set_ne (hp_ne_ao hA11 ha)]; exact hA11
  have hA12 : w_50 A12 = some (.inl (G.2.2.1 0, 14, .inl (fun _ => 0))) := by rw [ew_50, hp_set_ne (hp_ne_ao hA12 ha)]; exact hA12
  have hA13 : w_50 A13 = some (.inl (G.2.2.1 0, 14, .inl (fun _ => 0))) := by rw [ew_50, hp_set_ne (hp_ne_ao hA13 ha)]; exact hA13
  have hA14 : w_50 A14 = some (.inl (G.2.2.1 1, 14, .inr (.inr (.inr (.inl (fun _ => FP.dconst0)))))) := by rw [ew_50, hp_set_ne (hp_ne_ao hA14 ha)]; exact hA14
  have hA15 : w_50 A15 = some (.inl (G.2.2.1 1, 14, .inr (.inr (.inr (.inl (fun _ => FP.dconst0)))))) := by rw [ew_50, hp_set_ne (hp_ne_ao hA15 ha)]; exact hA15
  have hA16 : w_50 A16 = some (.inl (G.2.2.1 1, 14, .inr (.inr (.inr (.inl (fun _ => FP.dconst0)))))) := by rw [ew_50, hp_set_ne (hp_ne_ao hA16 ha)]; exact hA16
  have hA17 : w_50 A17 = some (.inl (G.2.2.1 1, 56, .inr (.inr (.inr (.inl (fun _ => FP.dconst0)))))) := by rw [ew_50, hp_set_ne (hp_ne_ao hA17 ha)]; exact hA17
  have hA18 : w_50 A18 = some (.inl (G.2.2.1 1, 224, .inr (.inr (.inr (.inl (fun _ => FP.dconst0)))))) := by rw [ew_50, hp_set_ne (hp_ne_ao hA18 ha)]; exact hA18
  have hA19 : w_50 A19 = some (.inl (G.2.2.1 1, 224, .inr (.inr (.inr (.inl (fun _ => FP.dconst0)))))) := by rw [ew_50, hp_set_ne (hp_ne_ao hA19 ha)]; exact hA19
  have hA20 : w_50 A20 = some (.inl (G.2.2.1 1, 14, .inr (.inr (.inr (.inl (fun _ => FP.dconst0)))))) := by rw [ew_50, hp_set_ne (hp_ne_ao hA20 ha)]; exact hA20
  have hA21 : w_50 A21 = some (.inl (G.2.2.1 1, 14, .inr (.inr (.inr (.inl (fun _ => FP.dconst0)))))) := by rw [ew_50, hp_set_ne (hp_ne_ao hA21 ha)]; exact hA21
  have hA22 : w_50 A22 = some (.inl (G.2.2.1 1, 28, .inr (.inr (.inr (.inl (fun _ => FP.dconst0)))))) := by rw [ew_50, hp_set_ne (hp_ne_ao hA22 ha)]; exact hA22
  have hA23 : w_50 A23 = some (.inl (G.2.2.1 1, 28, .inr (.inr (.inr (.inl (fun _ => FP.dconst0)))))) := by rw [ew_50, hp_set_ne (hp_ne_ao hA23 ha)]; exact hA23
  have hA24 : w_50 A24 = some (.inl (G.2.2.1 0, 192, .inl (fun _ => 0))) := by rw [ew_50, hp_set_ne (hp_ne_ao hA24 ha)]; exact hA24
  have ha : w_50 a = some (.inr (5, [.ref A0, .ref A1, .ref A2, .ref A3, .ref A4, .ref A5, .ref A6, .ref A7, .ref A8, .ref A9, .ref A10, .ref A11, .ref A12, .ref A13, .ref A14, .ref A15, .ref A16, .ref A17, .ref A18, .ref A19, .ref A20, .ref A21, .ref A22, .ref A23, .ref A24, .int 0, .int 0, .int 0])) := by rw [ew_50]; exact hp_set_eq _ _ _
  have fr25 : ∀ b x, w b = some x → b ≠ a → w_50 b = some x := fun b x hb9 hba => by
    rw [ew_50, hp_set_ne hba, ew_49, hp_set_ne (hp_ne_n hb9 wA24)]
    exact fr24 b x hb9 hba
  have hnd : ([A0, A1, A2, A3, A4, A5, A6, A7, A8, A9, A10, A11, A12, A13, A14, A15, A16, A17, A18, A19, A20, A21, A22, A23, A24, a] : List Nat).Nodup := (List.nodup_cons.mpr ⟨(not_in n0_1 (not_in n0_2 (not_in n0_3 (not_in n0_4 (not_in n0_5 (not_in n0_6 (not_in n0_7 (not_in n0_8 (not_in n0_9 (not_in n0_10 (not_in n0_11 (not_in n0_12 (not_in n0_13 (not_in n0_14 (not_in n0_15 (not_in n0_16 (not_in n0_17 (not_in n0_18 (not_in n0_19 (not_in n0_20 (not_in n0_21 (not_in n0_22 (not_in n0_23 (not_in n0_24 (not_in (Ne.symm nA0) (List.not_mem_nil)))))))))))))))))))))))))), (List.nodup_cons.mpr ⟨(not_in n1_2 (not_in n1_3 (not_in n1_4 (not_in n1_5 (not_in n1_6 (not_in n1_7 (not_in n1_8 (not_in n1_9 (not_in n1_10 (not_in n1_11 (not_in n1_12 (not_in n1_13 (not_in n1_14 (not_in n1_15 (not_in n1_16 (not_in n1_17 (not_in n1_18 (not_in n1_19 (not_in n1_20 (not_in n1_21 (not_in n1_22 (not_in n1_23 (not_in n1_24 (not_in (Ne.symm nA1) (List.not_mem_nil))))))))))))))))))))))))), (List.nodup_cons.mpr ⟨(not_in n2_3 (not_in n2_4 (not_in n2_5 (not_in n2_6 (not_in n2_7 (not_in n2_8 (not_in n2_9 (not_in n2_10 (not_in n2_11 (not_in n2_12 (not_in n2_13 (not_in n2_14 (not_in n2_15 (not_in n2_16 (not_in n2_17 (not_in n2_18 (not_in n2_19 (not_in n2_20 (not_in n2_21 (not_in n2_22 (not_in n2_23 (not_in n2_24 (not_in (Ne.symm nA2) (List.not_mem_nil)))))))))))))))))))))))), (List.nodup_cons.mpr ⟨(not_in n3_4 (not_in n3_5 (not_in n3_6 (not_in n3_7 (not_in n3_8 (not_in n3_9 (not_in n3_10 (not_in n3_11 (not_in n3_12 (not_in n3_13 (not_in n3_14 (not_in n3_15 (not_in n3_16 (not_in n3_17 (not_in n3_18 (not_in n3_19 (not_in n3_20 (not_in n3_21 (not_in n3_22 (not_in n3_23 (not_in n3_24 (not_in (Ne.symm nA3) (List.not_mem_nil))))))))))))))))))))))), (List.nodup_cons.mpr ⟨(not_in n4_5 (not_in n4_6 (not_in n4_7 (not_in n4_8 (not_in n4_9 (not_in n4_10 (not_in n4_11 (not_in n4_12 (not_in n4_13 (not_in n4_14 (not_in n4_15 (not_in n4_16 (not_in n4_17 (not_in n4_18 (not_in n4_19 (not_in n4_20 (not_in n4_21 (not_in n4_22 (not_in n4_23 (not_in n4_24 (not_in (Ne.symm nA4) (List.not_mem_nil)))))))))))))))))))))), (List.nodup_cons.mpr ⟨(not_in n5_6 (not_in n5_7 (not_in n5_8 (not_in n5_9 (not_in n5_10 (not_in n5_11 (not_in n5_12 (not_in n5_13 (not_in n5_14 (not_in n5_15 (not_in n5_16 (not_in n5_17 (not_in n5_18 (not_in n5_19 (not_in n5_20 (not_in n5_21 (not_in n5_22 (not_in n5_23 (not_in n5_24 (not_in (Ne.symm nA5) (List.not_mem_nil))))))))))))))))))))), (List.nodup_cons.mpr ⟨(not_in n6_7 (not_in n6_8 (not_in n6_9 (not_in n6_10 (not_in n6_11 (not_in n6_12 (not_in n6_13 (not_in n6_14 (not_in n6_15 (not_in n6_16 (not_in n6_17 (not_in n6_18 (not_in n6_19 (not_in n6_20 (not_in n6_21 (not_in n6_22 (not_in n6_23 (not_in n6_24 (not_in (Ne.symm nA6) (List.not_mem_nil)))))))))))))))))))), (List.nodup_cons.mpr ⟨(not_in n7_8 (not_in n7_9 (not_in n7_10 (not_in n7_11 (not_in n7_12 (not_in n7_13 (not_in n7_14 (not_in n7_15 (not_in n7_16 (not_in n7_17 (not_in n7_18 (not_in n7_19 (not_in n7_20 (not_in n7_21 (not_in n7_22 (not_in n7_23 (not_in n7_24 (not_in (Ne.symm nA7) (List.not_mem_nil))))))))))))))))))), (List.nodup_cons.mpr ⟨(not_in n8_9 (not_in n8_10 (not_in n8_11 (not_in n8_12 (not_in n8_13 (not_in n8_14 (not_in n8_15 (not_in n8_16 (not_in n8_17 (not_in n8_18 (not_in n8_19 (not_in n8_20 (not_in n8_21 (not_in n8_22 (not_in n8_23 (not_in n8_24 (not_in (Ne.symm nA8) (List.not_mem_nil)))))))))))))))))), (List.nodup_cons.mpr ⟨(not_in n9_10 (not_in n9_11 (not_in n9_12 (not_in n9_13 (not_in n9_14 (not_in n9_15 (not_in n9_16 (not_in n9_17 (not_in n9_18 (not_in n9_19 (not_in n9_20 (not_in n9_21 (not_in n9_22 (not_in n9_23 (not_in n9_24 (not_in (Ne.symm nA9) (List.not_mem_nil))))))))))))))))), (List.nodup_cons.mpr ⟨(not_in n10_11 (not_in n10_12 (not_in n10_13 (not_in n10_14 (not_in n10_15 (not_in n10_16 (not_in n10_17 (not_in n10_18 (not_in n10_19 (not_in n10_20 (not_in n10_21 (not_in n10_22 (not_in n10_23 (not_in n10_24 (not_in (Ne.symm nA10) (List.not_mem_nil)))))))))))))))), (List.nodup_cons.mpr ⟨(not_in n11_12 (not_in n11_13 (not_in n11_14 (not_in n11_15 (not_in n11_16 (not_in n11_17 (not_in n11_18 (not_in n11_19 (not_in n11_20 (not_in n11_21 (not_in n11_22 (not_in n11_23 (not_in n11_24 (not_in (Ne.symm nA11) (List.not_mem_nil))))))))))))))), (List.nodup_cons.mpr ⟨(not_in n12_13 (not_in n12_14 (not_in n12_15 (not_in n12_16 (not_in n12_17 (not_in n12_18 (not_in n12_19 (not_in n12_20 (not_in n12_21 (not_in n12_22 (not_in n12_23 (not_in n12_24 (not_in (Ne.symm nA12) (List.not_mem_nil)))))))))))))), (List.nodup_cons.mpr ⟨(not_in n13_14 (not_in n13_15 (not_in n13_16 (not_in n13_17 (not_in n13_18 (not_in n13_19 (not_in n13_20 (not_in n13_21 (not_in n13_22 (not_in n13_23 (not_in n13_24 (not_in (Ne.symm nA13) (List.not_mem_nil))))))))))))), (List.nodup_cons.mpr ⟨(not_in n14_15 (not_in n14_16 (not_in n14_17 (not_in n14_18 (not_in n14_19 (not_in n14_20 (not_in n14_21 (not_in n14_22 (not_in n14_23 (not_in n14_24 (not_in (Ne.symm nA14) (List.not_mem_nil)))))))))))), (List.nodup_cons.mpr ⟨(not_in n15_16 (not_in n15_17 (not_in n15_18 (not_in n15_19 (not_in n15_20 (not_in n15_21 (not_in n15_22 (not_in n15_23 (not_in n15_24 (not_in (Ne.symm nA15) (List.not_mem_nil))))))))))), (List.nodup_cons.mpr ⟨(not_in n16_17 (not_in n16_18 (not_in n16_19 (not_in n16_20 (not_in n16_21 (not_in n16_22 (not_in n16_23 (not_in n16_24 (not_in (Ne.symm nA16) (List.not_mem_nil)))))))))), (List.nodup_cons.mpr ⟨(not_in n17_18 (not_in n17_19 (not_in n17_20 (not_in n17_21 (not_in n17_22 (not_in n17_23 (not_in n17_24 (not_in (Ne.symm nA17) (List.not_mem_nil))))))))), (List.nodup_cons.mpr ⟨(not_in n18_19 (not_in n18_20 (not_in n18_21 (not_in n18_22 (not_in n18_23 (not_in n18_24 (not_in (Ne.symm nA18) (List.not_mem_nil)))))))), (List.nodup_cons.mpr ⟨(not_in n19_20 (not_in n19_21 (not_in n19_22 (not_in n19_23 (not_in n19_24 (not_in (Ne.symm nA19) (List.not_mem_nil))))))), (List.nodup_cons.mpr ⟨(not_in n20_21 (not_in n20_22 (not_in n20_23 (not_in n20_24 (not_in (Ne.symm nA20) (List.not_mem_nil)))))), (List.nodup_cons.mpr ⟨(not_in n21_22 (not_in n21_23 (not_in n21_24 (not_in (Ne.symm nA21) (List.not_mem_nil))))), (List.nodup_cons.mpr ⟨(not_in n22_23 (not_in n22_24 (not_in (Ne.symm nA22) (List.not_mem_nil)))), (List.nodup_cons.mpr ⟨(not_in n23_24 (not_in (Ne.symm nA23) (List.not_mem_nil))), (List.nodup_cons.mpr ⟨(not_in (Ne.symm nA24) (List.not_mem_nil)), (List.nodup_cons.mpr ⟨List.not_mem_nil, List.nodup_nil⟩)⟩)⟩)⟩)⟩)⟩)⟩)⟩)⟩)⟩)⟩)⟩)⟩)⟩)⟩)⟩)⟩)⟩)⟩)⟩)⟩)⟩)⟩)⟩)⟩)⟩)
  have hQ : qInj (qL [A0, A1, A2, A3, A4, A5, A6, A7, A8, A9, A10, A11, A12, A13, A14, A15, A16, A17, A18, A19, A20, A21, A22, A23, A24, a]) := qL_inj hnd rfl
  have hall : ∀ j, j < 26 → w_50 (qL [A0, A1, A2, A3, A4, A5, A6, A7, A8, A9, A10, A11, A12, A13, A14, A15, A16, A17, A18, A19, A20, A21, A22, A23, A24, a] j) = some (mCell G (qL [A0, A1, A2, A3, A4, A5, A6, A7, A8, A9, A10, A11, A12, A13, A14, A15, A16, A17, A18, A19, A20, A21, A22, A23, A24, a]) x0 j) := fun j hj => match j, hj with
    | 0, _ => hA0
    | 1, _ => hA1
    | 2, _ => hA2
    | 3, _ => hA3
    | 4, _ => hA4
    | 5, _ => hA5
    | 6, _ => hA6
    | 7, _ => hA7
    | 8, _ => hA8
    | 9, _ => hA9
    | 10, _ => hA10
    | 11, _ => hA11
    | 12, _ => hA12
    | 13, _ => hA13
    | 14, _ => hA14
    | 15, _ => hA15
    | 16, _ => hA16
    | 17, _ => hA17
    | 18, _ => hA18
    | 19, _ => hA19
    | 20, _ => hA20
    | 21, _ => hA21
    | 22, _ => hA22
    | 23, _ => hA23
    | 24, _ => hA24
    | 25, _ => ha
    | j + 26, h => absurd h (by omega)
  have hnon : ∀ j, j < 25 → w (qL [A0, A1, A2, A3, A4, A5, A6, A7, A8, A9, A10, A11, A12, A13, A14, A15, A16, A17, A18, A19, A20, A21, A22, A23, A24, a] j) = none := fun j hj => match j, hj with
    | 0, _ => wA0
    | 1, _ => wA1
    | 2, _ => wA2
    | 3, _ => wA3
    | 4, _ => wA4
    | 5, _ => wA5
    | 6, _ => wA6
    | 7, _ => wA7
    | 8, _ => wA8
    | 9, _ => wA9
    | 10, _ => wA10
    | 11, _ => wA11
    | 12, _ => wA12
    | 13, _ => wA13
    | 14, _ => wA14
    | 15, _ => wA15
    | 16, _ => wA16
    | 17, _ => wA17
    | 18, _ => wA18
    | 19, _ => wA19
    | 20, _ => wA20
    | 21, _ => wA21
    | 22, _ => wA22
    | 23, _ => wA23
    | 24, _ => wA24
    | j + 25, h => absurd h (by omega)
  have hw : w_50 = mW G (qL [A0, A1, A2, A3, A4, A5, A6, A7, A8, A9, A10, A11, A12, A13, A14, A15, A16, A17, A18, A19, A20, A21, A22, A23, A24, a]) x0 w := by
    funext b
    by_cases h : ∃ j, j < 26 ∧ qL [A0, A1, A2, A3, A4, A5, A6, A7, A8, A9, A10, A11, A12, A13, A14, A15, A16, A17, A18, A19, A20, A21, A22, A23, A24, a] j = b
    · obtain ⟨j, hj, rfl⟩ := h
      rw [mW_at hQ j hj]
      exact hall j hj
    · have ho : ∀ j, j < 26 → qL [A0, A1, A2, A3, A4, A5, A6, A7, A8, A9, A10, A11, A12, A13, A14, A15, A16, A17, A18, A19, A20, A21, A22, A23, A24, a] j ≠ b := fun j hj e => h ⟨j, hj, e⟩
      rw [mW_out ho]
      have o25 : b ≠ a := fun e => ho 25 (by decide) e.symm
      have o0 : b ≠ A0 := fun e => ho 0 (by decide) e.symm
      have o1 : b ≠ A1 := fun e => ho 1 (by decide) e.symm
      have o2 : b ≠ A2 := fun e => ho 2 (by decide) e.symm
      have o3 : b ≠ A3 := fun e => ho 3 (by decide) e.symm
      have o4 : b ≠ A4 := fun e => ho 4 (by decide) e.symm
      have o5 : b ≠ A5 := fun e => ho 5 (by decide) e.symm
      have o6 : b ≠ A6 := fun e => ho 6 (by decide) e.symm
      have o7 : b ≠ A7 := fun e => ho 7 (by decide) e.symm
      have o8 : b ≠ A8 := fun e => ho 8 (by decide) e.symm
      have o9 : b ≠ A9 := fun e => ho 9 (by decide) e.symm
      have o10 : b ≠ A10 := fun e => ho 10 (by decide) e.symm
      have o11 : b ≠ A11 := fun e => ho 11 (by decide) e.symm
      have o12 : b ≠ A12 := fun e => ho 12 (by decide) e.symm
      have o13 : b ≠ A13 := fun e => ho 13 (by decide) e.symm
      have o14 : b ≠ A14 := fun e => ho 14 (by decide) e.symm
      have o15 : b ≠ A15 := fun e => ho 15 (by decide) e.symm
      have o16 : b ≠ A16 := fun e => ho 16 (by decide) e.symm
      have o17 : b ≠ A17 := fun e => ho 17 (by decide) e.symm
      have o18 : b ≠ A18 := fun e => ho 18 (by decide) e.symm
      have o19 : b ≠ A19 := fun e => ho 19 (by decide) e.symm
      have o20 : b ≠ A20 := fun e => ho 20 (by decide) e.symm
      have o21 : b ≠ A21 := fun e => ho 21 (by decide) e.symm
      have o22 : b ≠ A22 := fun e => ho 22 (by decide) e.symm
      have o23 : b ≠ A23 := fun e => ho 23 (by decide) e.symm
      have o24 : b ≠ A24 := fun e => ho 24 (by decide) e.symm
      rw [ew_50, hp_set_ne o25, ew_49, hp_set_ne o24, ew_48, hp_set_ne o25, ew_47, hp_set_ne o23, ew_46, hp_set_ne o25, ew_45, hp_set_ne o22, ew_44, hp_set_ne o25, ew_43, hp_set_ne o21, ew_42, hp_set_ne o25, ew_41, hp_set_ne o20, ew_40, hp_set_ne o25, ew_39, hp_set_ne o19, ew_38, hp_set_ne o25, ew_37, hp_set_ne o18, ew_36, hp_set_ne o25, ew_35, hp_set_ne o17, ew_34, hp_set_ne o25, ew_33, hp_set_ne o16, ew_32, hp_set_ne o25, ew_31, hp_set_ne o15, ew_30, hp_set_ne o25, ew_29, hp_set_ne o14, ew_28, hp_set_ne o25, ew_27, hp_set_ne o13, ew_26, hp_set_ne o25, ew_25, hp_set_ne o12, ew_24, hp_set_ne o25, ew_23, hp_set_ne o11, ew_22, hp_set_ne o25, ew_21, hp_set_ne o10, ew_20, hp_set_ne o25, ew_19, hp_set_ne o9, ew_18, hp_set_ne o25, ew_17, hp_set_ne o8, ew_16, hp_set_ne o25, ew_15, hp_set_ne o7, ew_14, hp_set_ne o25, ew_13, hp_set_ne o6, ew_12, hp_set_ne o25, ew_11, hp_set_ne o5, ew_10, hp_set_ne o25, ew_9, hp_set_ne o4, ew_8, hp_set_ne o25, ew_7, hp_set_ne o3, ew_6, hp_set_ne o25, ew_5, hp_set_ne o2, ew_4, hp_set_ne o25, ew_3, hp_set_ne o1, ew_2, hp_set_ne o25, ew_1, hp_set_ne o0]
  obtain ⟨Q, eQ⟩ : ∃ z9, z9 = qL [A0, A1, A2, A3, A4, A5, A6, A7, A8, A9, A10, A11, A12, A13, A14, A15, A16, A17, A18, A19, A20, A21, A22, A23, A24, a] := ⟨_, rfl⟩
  have hq25 : Q 25 = a := by rw [eQ]; rfl
  rw [← eQ] at hQ hw hnon
  rw [hw] at hI
  have hl : lv_has ls 1 [(0, .ref (Q 25))] := by rw [hq25]; exact hl
  obtain ⟨w0, ew0⟩ : ∃ z9, z9 = w := ⟨_, rfl⟩
  have hI : eI G S0 (mW G Q x0 w0) H := by rw [ew0]; exact hI
  refine lv_aload_n hx hb d_Mo_init_208 rfl (lv_at hl 0 rfl) ?_
  refine hp_get (ci := 5) (v := .ref (Q 0)) (C := R_Mo) (T := F_Mo) (N := 28) hx hb hg i_Mo hown hK hI (mw_o hQ) rfl 0 (by decide) (hg _ k_773) (fun _ h9 => h9) rfl d_Mo_init_209 ?_
  refine lv_iconst (v := 0) hx hb d_Mo_init_212 (by decide) ?_
  refine lv_iconst (v := 1) hx hb d_Mo_init_213 (by decide) ?_
  refine mv_zast hx hb hK hI hS 2 (x0.1 0) (mw_0 hQ) rfl 0 (Or.inr rfl) (fun f9 => mW G Q (xsI x0 0 f9) w0) (fun _ => mws_0 hQ) (rfl) (by omega) (by decide) d_Mo_init_214 (fun H locs f_1 ef_1 hI hS hsz => ?_)
  try dsimp only at hI
  refine lv_aload_n hx hb d_Mo_init_215 rfl (lv_at hl 0 rfl) ?_
  refine hp_get (ci := 5) (v := .ref (Q 6)) (C := R_Mo) (T := F_Mo) (N := 28) hx hb hg i_Mo hown hK hI (mw_o hQ) rfl 6 (by decide) (hg _ k_779) (fun _ h9 => h9) rfl d_Mo_init_216 ?_
  refine lv_iconst (v := 0) hx hb d_Mo_init_219 (by decide) ?_
  refine lv_iconst (v := (-1)) hx hb d_Mo_init_220 (by decide) ?_
  refine mv_iast hx hb hK hI hS 0 (x0.1 6) (mw_6 hQ) rfl 0 (fun f9 => mW G Q (xsI (xsI x0 0 f_1) 6 f9) w0) (fun _ => mws_6 hQ) (rfl) (by omega) (by decide) d_Mo_init_221 (fun H locs f_2 ef_2 hI hS hsz => ?_)
  try dsimp only at hI
  refine lv_aload_n hx hb d_Mo_init_222 rfl (lv_at hl 0 rfl) ?_
  refine hp_get (ci := 5) (v := .ref (Q 14)) (C := R_Mo) (T := F_Mo) (N := 28) hx hb hg i_Mo hown hK hI (mw_o hQ) rfl 14 (by decide) (hg _ k_787) (fun _ h9 => h9) rfl d_Mo_init_223 ?_
  refine lv_iconst (v := 0) hx hb d_Mo_init_226 (by decide) ?_
  refine lv_dconst1 hx hb d_Mo_init_227 ?_
  refine mv_dast hx hb hK hI hS 1 (x0.2.1 14) (mw_14 hQ) rfl 0 (fun f9 => mW G Q (xsD (xsI (xsI x0 0 f_1) 6 f_2) 14 f9) w0) (fun _ => mws_14 hQ) (rfl) (by omega) (by decide) d_Mo_init_228 (fun H locs f_3 ef_3 hI hS hsz => ?_)
  try dsimp only at hI
  refine lv_aload_n hx hb d_Mo_init_229 rfl (lv_at hl 0 rfl) ?_
  have hM := mN.d0 ef_1 ef_2 ef_3
  refine ec_v (va_runV (As := []) (rest := []) ⟨hx, hb, hml, hown, hts⟩ (m_Mo_sortNodes l G S0 Q hQ (xsD (xsI (xsI x0 0 f_1) 6 f_2) 14 f_3) w0 d0 dp0 t0_ok hM) (cwV 0 hts (gw_V k_769 k_771 k_42 k_67 k_772) rfl rfl rfl (by decide +kernel) ⟨Nat.le_of_ble_eq_true rfl, Nat.le_of_ble_eq_true rfl⟩) (eB.preV hE hI hS hz rfl (mw_o hQ)) rfl rfl hl.1 rfl (lv_room (Nat.le_of_ble_eq_true rfl)) d_Mo_init_230 ⟨Nat.le_of_ble_eq_true rfl, Nat.le_of_ble_eq_true rfl⟩) hS (fun w_51 H locs ew_51 hI hsz hS => ?_)
  obtain ⟨Y, ew_51, ⟨hY, hs⟩⟩ := ew_51
  subst ew_51
  refine W.widen (k := 25) (n := 1300) (Nat.le_of_ble_eq_true rfl) (Nat.le_of_ble_eq_true rfl) ?_
  exact W.vret hx hb hr (fun t9 ht9 hW9 => ⟨⟨(mW G Q Y w0), rfl, ⟨Q, Y, hq25, hQ, by rw [ew0], ⟨hM.sm hs, hY, mC.sm (X := xsD (xsI (xsI x0 0 f_1) 6 f_2) 14 f_3) ⟨fun _ _ => rfl, rfl⟩ hs⟩, hnon⟩, eWo ht9 hI⟩, hS.F ht9⟩) hS.2.2 d_Mo_init_233

/-! a new easel -/
def d0 : DS := (fun k => decide (k = 0), fun _ r => if r = 1 then 1 else 0, fun _ r => if r = 2 ∨ r = 3 then FP.dconst0 else FP.dconst1, fun _ => [], fun _ => none, fun _ _ => 0, fun _ _ _ => FP.dconst0, fun _ _ _ => FP.dconst0, fun _ => 0, 0)
def ms0 (a na ca : Nat) (A : Nat → Nat) (nf : Nat → Option Nat) : MS := ((a, na, ca, nf), fun _ r => A r, fun _ => 0, fun _ => 0, fun _ _ => FP.dconst0, fun _ _ => 0, fun _ => (1, FP.dconst0, FP.dconst0, FP.dconst0, FP.dconst0))
theorem d0_th {k : Nat} (h : sTh d0 k = true) : k = 0 := of_decide_eq_true h
theorem d0_ok : tOk d0 (fun _ => 0) := by
  refine ⟨rfl, rfl, rfl, rfl, fun k _ ht h0 => absurd (d0_th ht) h0, fun g _ _ => ⟨List.nodup_nil, (fun c hc => by cases hc), fun _ => rfl⟩, fun k _ _ => Nat.zero_le 5⟩
set_option maxHeartbeats 4000000 in
set_option maxRecDepth 100000 in
theorem m_Ea_init (l : Launch) (G : EG) (S0 : Nat) (w : hp_M) (a : Nat) (ha : w a = some (.inr (3, [.null, .null, .null, .int 0]))) : Met l y_Ea_init w_Ea_init (rl 6 20 300) (eP G S0 w [.ref a]) (va_Qv (fun z => ∃ ms, mEo ms = a ∧ ePic G ms d0 z ∧ nOk ms d0 ∧ (∀ b x, w b = some x → b ≠ a → z b = some x) ∧ (∀ b, Own ms d0 b → b = a ∨ w b = none)) (eW G S0) (hp_A S0)) 20 300 (hp_A S0) := by
  refine Met.ofW (cc := b_Ea_init) (maxL := 1) (ret := none) (by decide) rfl ?_
  intro p e s m args below meth c s₁ B hml hv
  obtain ⟨rfl, hE, hI, hz⟩ := hv
  have hx := B.exec
  have hb := B.bytes
  have hr := B.returns
  have hts := atoms_spec (ws := w_Ea_init) B.pre
  have hg : ∀ w ∈ gw, w.before _ s = true := fun w h => hts w (List.mem_cons_of_mem _ h)
  have hown : s.vm.findClass "SceneEasel" = some m.cls := findClass_of_methodNamed B.named
  have hlocks := B.notSynchronized
  have hK := hE.K
  have hin : meth.name = "<init>" := (name_of_methodNamed B.named B.method).1
  have hS : va_S (hp_A S0) s.heap s.heap [] := va_S.rf
  have hl := lv_entry ([.ref a]) (n := 1) (Nat.le_of_ble_eq_true rfl)
  rw [lg_entry_eq]
  generalize (lg_sl ([.ref a]) ++ List.replicate (1 - (lg_sl ([.ref a])).length) Slot.unset).toArray = ls at hl ⊢
  have hl : lv_has ls 1 [(0, .ref a)] := hl
  refine lv_aload_n hx hb d_Ea_init_0 rfl (lv_at hl 0 rfl) ?_
  refine W.objInit hx hb hown (hg _ k_85) (hg _ k_86) (hg _ k_87) rfl (hl.1.trans hml.symm) rfl d_Ea_init_1 (Nat.le_of_ble_eq_true rfl) (Nat.le_of_ble_eq_true rfl) ?_
  refine lv_aload_n hx hb d_Ea_init_4 rfl (lv_at hl 0 rfl) ?_
  refine lv_bipush (v := 14) hx hb d_Ea_init_5 (by decide) ?_
  refine hp_newq (N' := 14) hx hb hown (hg _ k_88) hE.aoN hK hI hS hz 4 rfl (by decide) (by decide) (by decide) (Nat.le_of_ble_eq_true rfl) (Nat.le_of_ble_eq_true rfl) d_Ea_init_7 (fun na H hn_na hs_na hz_na hI hS => ?_)
  obtain ⟨w_1, ew_1⟩ : ∃ z9, z9 = hp_set w na (.inl (G.2.2.1 4, 14, .inr (.inr (.inr (.inr (fun _ => none)))))) := ⟨_, rfl⟩
  have hI : eI G S0 w_1 H := by rw [ew_1]; exact hI
  have ne_ha_na := hp_ne_n ha hn_na
  have ha : w_1 a = some (.inr (3, [.null, .null, .null, .int 0])) := by rw [ew_1, hp_set_ne ne_ha_na]; exact ha
  have hna : w_1 na = some (.inl (G.2.2.1 4, 14, .inr (.inr (.inr (.inr (fun _ => none)))))) := by rw [ew_1]; exact hp_set_eq _ _ _
  have wna : w na = none := hn_na
  refine hp_putF (ci := 3) (v := .ref na) (ty := .array (.object "SceneEasel$Node")) (C := R_Ea) (T := F_Ea) (N := 4) hx hb hg i_Ea t_Ea t_Ea_ok n_Ea hown hK hI hS ha rfl 1 (by decide) (hg _ k_244) (fun _ h9 => h9) rfl hin rfl (by decide +kernel) rfl rfl (Nat.le_of_ble_eq_true rfl) d_Ea_init_10 (fun H locs hI hS hsz => ?_)
  obtain ⟨w_2, ew_2⟩ : ∃ z9, z9 = hp_set w_1 a (.inr (3, [.null, .ref na, .null, .int 0])) := ⟨_, rfl⟩
  have hI : eI G S0 w_2 H := by rw [ew_2]; exact hI
  have hna : w_2 na = some (.inl (G.2.2.1 4, 14, .inr (.inr (.inr (.inr (fun _ => none)))))) := by rw [ew_2, hp_set_ne (hp_ne_ao hna ha)]; exact hna
  have ha : w_2 a = some (.inr (3, [.null, .ref na, .null, .int 0])) := by rw [ew_2]; exact hp_set_eq _ _ _
  refine lv_aload_n hx hb d_Ea_init_13 rfl (lv_at hl 0 rfl) ?_
  refine lv_sipush (v := 192) hx hb d_Ea_init_14 (by decide) ?_
  have fr1 : ∀ b x, w b = some x → b ≠ a → w_2 b = some x := by
    intro b x f9 x9_0
    have nb_na : b ≠ na := hp_ne_n f9 hn_na
    have f9 : w_1 b = some x := by rw [ew_1, hp_set_ne nb_na]; exact f9
    have f9 : w_2 b = some x := by rw [ew_2, hp_set_ne x9_0]; exact f9
    exact f9
  refine hp_newa (atype := .int) (N' := 192) (a0 := (192, .inl (fun _ => 0))) hx hb (hg _ k_121) rfl hK hI hS hz 0 rfl (fun _ h => by cases h) (fun _ => rfl) (by decide) (by decide) (by decide) (Nat.le_of_ble_eq_true rfl) (Nat.le_of_ble_eq_true rfl) d_Ea_init_17 (fun ca H hn_ca hs_ca hz_ca hI hS => ?_)
  obtain ⟨w_3, ew_3⟩ : ∃ z9, z9 = hp_set w_2 ca (.inl (G.2.2.1 0, 192, .inl (fun _ => 0))) := ⟨_, rfl⟩
  have hI : eI G S0 w_3 H := by rw [ew_3]; exact hI
  have ne_ha_ca := hp_ne_n ha hn_ca
  have ha : w_3 a = some (.inr (3, [.null, .ref na, .null, .int 0])) := by rw [ew_3, hp_set_ne ne_ha_ca]; exact ha
  have ne_hna_ca := hp_ne_n hna hn_ca
  have hna : w_3 na = some (.inl (G.2.2.1 4, 14, .inr (.inr (.inr (.inr (fun _ => none)))))) := by rw [ew_3, hp_set_ne ne_hna_ca]; exact hna
  have hca : w_3 ca = some (.inl (G.2.2.1 0, 192, .inl (fun _ => 0))) := by rw [ew_3]; exact hp_set_eq _ _ _
  have naca : a ≠ ca := ne_ha_ca
  have wca : w ca = none := by
    cases hw : w ca with
    | none => rfl
    | some x => rw [fr1 ca x hw (Ne.symm naca)] at hn_ca; cases hn_ca
  refine hp_putF (ci := 3) (v := .ref ca) (ty := .array .int) (C := R_Ea) (T := F_Ea) (N := 4) hx hb hg i_Ea t_Ea t_Ea_ok n_Ea hown hK hI hS ha rfl 2 (by decide) (hg _ k_245) (fun _ h9 => h9) rfl hin rfl (by decide +kernel) rfl rfl (Nat.le_of_ble_eq_true rfl) d_Ea_init_19 (fun H locs hI hS hsz => ?_)
  obtain ⟨w_4, ew_4⟩ : ∃ z9, z9 = hp_set w_3 a (.inr (3, [.null, .ref na, .ref ca, .int 0])) := ⟨_, rfl⟩
  have hI : eI G S0 w_4 H := by rw [ew_4]; exact hI
  have hna : w_4 na = some (.inl (G.2.2.1 4, 14, .inr (.inr (.inr (.inr (fun _ => none)))))) := by rw [ew_4, hp_set_ne (hp_ne_ao hna ha)]; exact hna
  have hca : w_4 ca = some (.inl (G.2.2.1 0, 192, .inl (fun _ => 0))) := by rw [ew_4, hp_set_ne (hp_ne_ao hca ha)]; exact hca
  have ha : w_4 a = some (.inr (3, [.null, .ref na, .ref ca, .int 0])) := by rw [ew_4]; exact hp_set_eq _ _ _
  refine lv_aload_n hx hb d_Ea_init_22 rfl (lv_at hl 0 rfl) ?_
  have fr2 : ∀ b x, w b = some x → b ≠ a → w_4 b = some x := by
    intro b x f9 x9_0
    have nb_na : b ≠ na := hp_ne_n f9 hn_na
    have f9 : w_1 b = some x := by rw [ew_1, hp_set_ne nb_na]; exact f9
    have f9 : w_2 b = some x := by rw [ew_2, hp_set_ne x9_0]; exact f9
    have nb_ca : b ≠ ca := hp_ne_n f9 hn_ca
    have f9 : w_3 b = some x := by rw [ew_3, hp_set_ne nb_ca]; exact f9
    have f9 : w_4 b = some x := by rw [ew_4, hp_set_ne x9_0]; exact f9
    exact f9
  refine hp_new (ci := 1) (fs := [.int 0, .int 0, .int 0, .null, .null, .null, .null, .int 0, .double FP.dconst0, .double FP.dconst0, .double FP.dconst0, .double FP.dconst0, .int 0, .int 0, .int 0, .double FP.dconst0, .double FP.dconst0, .double FP.dconst0, .int 0, .int 0]) (T := F_No) (N := 20) hx hb hg i_No t_No t_No_ok hown (hg _ k_88) (hg _ k_90) (hg _ k_61) hK hI hS hz rfl n_No_fs (Nat.le_of_ble_eq_true rfl) (Nat.le_of_ble_eq_true rfl) d_Ea_init_23 (fun q H hn_q hs_q hz_q hI hS => ?_)
  obtain ⟨w4, ew4⟩ : ∃ z9, z9 = hp_set w_4 q (.inr (1, [.int 0, .int 0, .int 0, .null, .null, .null, .null, .int 0, .double FP.dconst0, .double FP.dconst0, .double FP.dconst0, .double FP.dconst0, .int 0, .int 0, .int 0, .double FP.dconst0, .double FP.dconst0, .double FP.dconst0, .int 0, .int 0])) := ⟨_, rfl⟩
  have hI : eI G S0 w4 H := by rw [ew4]; exact hI
  have ne_ha_q := hp_ne_n ha hn_q
  have ha : w4 a = some (.inr (3, [.null, .ref na, .ref ca, .int 0])) := by rw [ew4, hp_set_ne ne_ha_q]; exact ha
  have ne_hna_q := hp_ne_n hna hn_q
  have hna : w4 na = some (.inl (G.2.2.1 4, 14, .inr (.inr (.inr (.inr (fun _ => none)))))) := by rw [ew4, hp_set_ne ne_hna_q]; exact hna
  have ne_hca_q := hp_ne_n hca hn_q
  have hca : w4 ca = some (.inl (G.2.2.1 0, 192, .inl (fun _ => 0))) := by rw [ew4, hp_set_ne ne_hca_q]; exact hca
  have hq : w4 q = some (.inr (1, [.int 0, .int 0, .int 0, .null, .null, .null, .null, .int 0, .double FP.dconst0, .double FP.dconst0, .double FP.dconst0, .double FP.dconst0, .int 0, .int 0, .int 0, .double FP.dconst0, .double FP.dconst0, .double FP.dconst0, .int 0, .int 0])) := by rw [ew4]; exact hp_set_eq _ _ _
  have naq : a ≠ q := ne_ha_q
  have wq : w q = none := by
    cases hw : w q with
    | none => rfl
    | some x => rw [fr2 q x hw (Ne.symm naq)] at hn_q; cases hn_q
  have fr4 : ∀ b x, w b = some x → b ≠ a → w4 b = some x := by
    intro b x f9 x9_0
    have nb_na : b ≠ na := hp_ne_n f9 hn_na
    have f9 : w_1 b = some x := by rw [ew_1, hp_set_ne nb_na]; exact f9
    have f9 : w_2 b = some x := by rw [ew_2, hp_set_ne x9_0]; exact f9
    have nb_ca : b ≠ ca := hp_ne_n f9 hn_ca
    have f9 : w_3 b = some x := by rw [ew_3, hp_set_ne nb_ca]; exact f9
    have f9 : w_4 b = some x := by rw [ew_4, hp_set_ne x9_0]; exact f9
    have nb_q : b ≠ q := hp_ne_n f9 hn_q
    have f9 : w4 b = some x := by rw [ew4, hp_set_ne nb_q]; exact f9
    exact f9
  refine lv_dup hx hb d_Ea_init_26 rfl ?_
  refine lv_iconst (v := 0) hx hb d_Ea_init_27 (by decide) ?_
  refine lv_iconst (v := 0) hx hb d_Ea_init_28 (by decide) ?_
  refine lv_iconst (v := 1) hx hb d_Ea_init_29 (by decide) ?_
  refine ec_v (va_runIN (As := [.int 0, .int 0, .int 1]) (rest := [.ref q, .ref a]) ⟨hx, hb, hml, hown, hts⟩ (m_No_init l G S0 w4 q 0 0 1 hq) ⟨va_cnB 3 hts (gw_code k_93) rfl rfl rfl (hE.Nw q_91) (hg _ k_61) (by decide +kernel) ⟨Nat.le_of_ble_eq_true rfl, Nat.le_of_ble_eq_true rfl⟩, rfl, hg _ k_92⟩ (eB.preS hE hI hS hz) rfl rfl hl.1 rfl (lv_room (Nat.le_of_ble_eq_true rfl)) d_Ea_init_30 ⟨Nat.le_of_ble_eq_true rfl, Nat.le_of_ble_eq_true rfl⟩) hS (fun w5 H locs ew5 hI hsz hS => ?_)
  obtain ⟨A, hA⟩ := ew5
  have hhas := hA.has
  obtain ⟨a0, b0, b1, b2, b3, b4, b5, b6, b7⟩ := hA
  have naq2 : na ≠ q := ne_hna_q
  have caq2 : ca ≠ q := ne_hca_q
  have nac2 : na ≠ ca := ne_hna_ca
  have ha5 := b7 a _ ha naq
  have hna5 := b7 na _ hna naq2
  have hca5 := b7 ca _ hca caq2
  have fA : ∀ r, vq 4 r → r ≠ 0 → w4 (A r) = none := b6
  have neA : ∀ r, vq 4 r → A r ≠ a ∧ A r ≠ na ∧ A r ≠ ca := fun r hr => by
    by_cases h0 : r = 0
    · rw [h0, a0]; exact ⟨Ne.symm naq, Ne.symm naq2, Ne.symm caq2⟩
    · have h1 := fA r hr h0
      exact ⟨Ne.symm (hp_ne_n ha h1), Ne.symm (hp_ne_n hna h1), Ne.symm (hp_ne_n hca h1)⟩
  have wA : ∀ r, vq 4 r → w (A r) = none := fun r hr => by
    by_cases h0 : r = 0
    · rw [h0, a0]; exact wq
    · cases hw : w (A r) with
      | none => rfl
      | some x =>
        have h1 := fA r hr h0
        rw [fr4 _ x hw (neA r hr).1] at h1
        cases h1
  have b0z := b0
  refine hp_putF (ci := 3) (v := .ref q) (ty := .object "SceneEasel$Node") (C := R_Ea) (T := F_Ea) (N := 4) hx hb hg i_Ea t_Ea t_Ea_ok n_Ea hown hK hI hS ha5 rfl 0 (by decide) (hg _ k_243) (fun _ h9 => h9) rfl hin rfl (by decide +kernel) rfl rfl (Nat.le_of_ble_eq_true rfl) d_Ea_init_33 (fun H locs hI hS hsz => ?_)
  obtain ⟨w_5, ew_5⟩ : ∃ z9, z9 = hp_set w5 a (.inr (3, [.ref q, .ref na, .ref ca, .int 0])) := ⟨_, rfl⟩
  have hI : eI G S0 w_5 H := by rw [ew_5]; exact hI
  have b0 : w_5 q = some (.inr (1, [.int 0, .int 0, .int 1, .ref (A 1), .ref (A 2), .ref (A 3), .null, .int 0, .double FP.dconst1, .double FP.dconst1, .double FP.dconst0, .double FP.dconst0, .int 0, .int 0, .int 0, .double FP.dconst1, .double FP.dconst0, .double FP.dconst0, .int 0, .int 0])) := by rw [ew_5, hp_set_ne (hp_ne_c (by decide) b0 ha5)]; exact b0
  have hna5 : w_5 na = some (.inl (G.2.2.1 4, 14, .inr (.inr (.inr (.inr (fun _ => none)))))) := by rw [ew_5, hp_set_ne (hp_ne_ao hna5 ha5)]; exact hna5
  have hca5 : w_5 ca = some (.inl (G.2.2.1 0, 192, .inl (fun _ => 0))) := by rw [ew_5, hp_set_ne (hp_ne_ao hca5 ha5)]; exact hca5
  have ha5 : w_5 a = some (.inr (3, [.ref q, .ref na, .ref ca, .int 0])) := by rw [ew_5]; exact hp_set_eq _ _ _
  refine lv_aload_n hx hb d_Ea_init_36 rfl (lv_at hl 0 rfl) ?_
  refine hp_get (ci := 3) (v := .ref na) (C := R_Ea) (T := F_Ea) (N := 4) hx hb hg i_Ea hown hK hI ha5 rfl 1 (by decide) (hg _ k_244) (fun _ h9 => h9) rfl d_Ea_init_37 ?_
  refine lv_iconst (v := 0) hx hb d_Ea_init_40 (by decide) ?_
  refine lv_aload_n hx hb d_Ea_init_41 rfl (lv_at hl 0 rfl) ?_
  refine hp_get (ci := 3) (v := .ref q) (C := R_Ea) (T := F_Ea) (N := 4) hx hb hg i_Ea hown hK hI ha5 rfl 0 (by decide) (hg _ k_243) (fun _ h9 => h9) rfl d_Ea_init_42 ?_
  refine hp_aastC hx hb hK hI hS 4 1 hna5 rfl b0 rfl (by unfold vp_in; decide) d_Ea_init_45 (fun H locs hI hS hsz => ?_)
  obtain ⟨f_6, ef_6⟩ : ∃ z9, z9 = va_up (fun _ => none) (0 : Int32).toNatClampNeg (some q) := ⟨_, rfl⟩
  rw [← ef_6] at hI
  obtain ⟨w_7, ew_7⟩ : ∃ z9, z9 = hp_set w_5 na (.inl (G.2.2.1 4, 14, .inr (.inr (.inr (.inr f_6))))) := ⟨_, rfl⟩
  have hI : eI G S0 w_7 H := by rw [ew_7]; exact hI
  have ha5 : w_7 a = some (.inr (3, [.ref q, .ref na, .ref ca, .int 0])) := by rw [ew_7, hp_set_ne (hp_ne_oa ha5 hna5)]; exact ha5
  have b0 : w_7 q = some (.inr (1, [.int 0, .int 0, .int 1, .ref (A 1), .ref (A 2), .ref (A 3), .null, .int 0, .double FP.dconst1, .double FP.dconst1, .double FP.dconst0, .double FP.dconst0, .int 0, .int 0, .int 0, .double FP.dconst1, .double FP.dconst0, .double FP.dconst0, .int 0, .int 0])) := by rw [ew_7, hp_set_ne (hp_ne_oa b0 hna5)]; exact b0
  have hca5 : w_7 ca = some (.inl (G.2.2.1 0, 192, .inl (fun _ => 0))) := by rw [ew_7, hp_set_ne (Ne.symm nac2)]; exact hca5
  have hna5 : w_7 na = some (.inl (G.2.2.1 4, 14, .inr (.inr (.inr (.inr f_6))))) := by rw [ew_7]; exact hp_set_eq _ _ _
  have ez : ∀ b, b ≠ a → b ≠ na → w_7 b = w5 b := fun b x1 x2 => by rw [ew_7, hp_set_ne x2, ew_5, hp_set_ne x1]
  have v17 : ∀ r, r < 17 → r ≠ 4 → vq 4 r := fun r h1 h2 => by unfold vq; omega
  have cz : ∀ r, r < 17 → r ≠ 4 → w_7 (A r) = some (cellOf G (ms0 a na ca A (va_up (fun _ => none) 0 (some q))) d0 0 r) := fun r hr h4 => by
    rw [ez _ (neA r (v17 r hr h4)).1 (neA r (v17 r hr h4)).2.1]
    have p4 : trF (ms0 a na ca A (va_up (fun _ => none) 0 (some q))) 0 = trA A 4 := rfl
    unfold cellOf
    rw [p4]
    by_cases q0 : r = 0
    · rw [q0, if_pos rfl, a0]; exact b0z
    rw [if_neg q0]
    by_cases q1 : r = 1
    · rw [q1, if_pos rfl]; exact b1
    rw [if_neg q1]
    by_cases q2 : r = 2
    · rw [q2, if_pos rfl]; exact b2
    rw [if_neg q2]
    by_cases q3 : r = 3
    · rw [q3, if_pos rfl]; exact b3
    rw [if_neg q3, if_neg h4]
    by_cases q9 : r < 9
    · rw [if_pos q9]
      have := (b4 (r - 5) (by omega)).1
      rw [show 5 + (r - 5) = r by omega, show 9 + (r - 5) = r + 4 by omega, show 13 + (r - 5) = r + 8 by omega] at this
      exact this
    rw [if_neg q9]
    by_cases q13 : r < 13
    · rw [if_pos q13]
      have := (b4 (r - 9) (by omega)).2.1
      rw [show 9 + (r - 9) = r by omega] at this
      exact this
    rw [if_neg q13]
    have := (b4 (r - 13) (by omega)).2.2
    rw [show 13 + (r - 13) = r by omega] at this
    exact this
  have vN : ∀ k r, vR (ms0 a na ca A (va_up (fun _ => none) 0 (some q))) k r → r < 17 ∧ r ≠ 4 := fun k r hr => ⟨hr.1, fun e => hr.2 e rfl⟩
  have hpz : ePic G (ms0 a na ca A (va_up (fun _ => none) 0 (some q))) d0 w_7 := by
    refine ⟨by show w_7 a = some (.inr (3, [.ref (A 0), .ref na, .ref ca, .int 0])); rw [a0]; exact ha5, by show w_7 na = _; rw [ef_6] at hna5; exact hna5, hca5, fun k hk ht => ?_, fun k r k' r' hk hk' ht ht' hv hv' e => ⟨(d0_th ht).trans (d0_th ht').symm, b5 r r' (v17 r (vN k r hv).1 (vN k r hv).2) (v17 r' (vN k' r' hv').1 (vN k' r' hv').2) e⟩⟩
    rw [d0_th ht]
    exact nPic_iff.mpr ⟨fun r hr => cz r (vN 0 r hr).1 (vN 0 r hr).2, fun i hi => Nat.zero_le _, Nat.zero_le _, Or.inl rfl⟩
  have hno : nOk (ms0 a na ca A (va_up (fun _ => none) 0 (some q))) d0 := fun k hk => by
    show va_up (fun _ => none) 0 (some q) k = if decide (k = 0) = true then some (A 0) else none
    unfold va_up
    by_cases e : k = 0
    · rw [if_pos e, if_pos (decide_eq_true e), a0]
    · rw [if_neg e, if_neg (by rw [decide_eq_false e]; decide)]
  have hfr : ∀ b x, w b = some x → b ≠ a → w_7 b = some x := fun b x hb hba => by
    rw [ez b hba (hp_ne_n hb wna)]
    exact b7 b x (fr4 b x hb hba) (hp_ne_n hb wq)
  have hown : ∀ b, Own (ms0 a na ca A (va_up (fun _ => none) 0 (some q))) d0 b → b = a ∨ w b = none := fun b hb => by
    rcases hb with e | e | e | ⟨k, r, hk, ht, hr, e⟩
    · exact Or.inl e
    · exact Or.inr (by rw [e]; exact wna)
    · exact Or.inr (by rw [e]; exact wca)
    · exact Or.inr (by rw [e]; exact wA r (v17 r (vN k r hr).1 (vN k r hr).2))
  refine W.widen (k := 20) (n := 300) (Nat.le_of_ble_eq_true rfl) (Nat.le_of_ble_eq_true rfl) ?_
  exact W.vret hx hb hr (fun t9 ht9 hW9 => ⟨⟨w_7, rfl, ⟨_, rfl, hpz, hno, hfr, hown⟩, eWo ht9 hI⟩, hS.F ht9⟩) hS.2.2 d_Ea_init_46

/-! Easel's calls: into, remove -/
def dUn (d : DS) (k gp : Nat) : DS := dPa (dCh d gp ((sCh d gp).eraseIdx (rkF d k))) k none
def dInto (d : DS) (k gp g : Nat) : DS := dCh (dPa (dUn d k gp) k (some g)) g (sCh (dUn d k gp) g ++ [k])
theorem dUn_ch {d : DS} {k gp g c : Nat} (h : c ∈ sCh (dUn d k gp) g) : c ∈ sCh d g := by
  have h : c ∈ fset (sCh d) gp ((sCh d gp).eraseIdx (rkF d k)) g := h
  by_cases e : g = gp
  · subst e
    rw [fset_eq] at h
    exact List.mem_of_mem_eraseIdx h
  · rw [fset_ne e] at h
    exact h
theorem dUn_len {d : DS} {k gp g : Nat} : (sCh (dUn d k gp) g).length ≤ (sCh d g).length := by
  show (fset (sCh d) gp ((sCh d gp).eraseIdx (rkF d k)) g).length ≤ _
  by_cases e : g = gp
  · subst e
    rw [fset_eq, List.length_eraseIdx]
    split <;> omega
  · rw [fset_ne e]
    exact Nat.le_refl _
theorem nOk.dd {m m' : MS} {d d' : DS} (h : nOk m d) (e1 : m'.1 = m.1) (e2 : ∀ j, mAd m' j 0 = mAd m j 0) (e3 : sTh d' = sTh d) : nOk m' d' := fun k hk => by
  have h1 := h k hk
  unfold noF at h1 ⊢
  rw [e2, e3, show mNf m' = mNf m by show m'.1.2.2.2 = m.1.2.2.2; rw [e1]]
  exact h1
def okInto (d : DS) (n gr : Int32) (k g gp : Nat) : Prop := k < 14 ∧ n = nI k ∧ sTh d k = true ∧ k ≠ 0 ∧ g < 14 ∧ gr = nI g ∧ sTh d g = true ∧ sNi d g 0 = 0 ∧ gp < 14 ∧ sTh d gp = true ∧ sPa d k = some gp ∧ k ∈ sCh d gp
set_option maxHeartbeats 4000000 in
set_option maxRecDepth 100000 in
theorem m_Ea_into (l : Launch) (hlt : l.stackTraces = false) (G : EG) (S0 : Nat) (w : hp_M) (ms : MS) (d : DS) (hp' : ePic G ms d w) (hno : nOk ms d) (dp : Nat → Nat) (htr : tOk d dp) (n gr : Int32) : vx_Met l y_Ea_into w_Ea_into (rl 22 40 200) (eP G S0 w [.ref (mEo ms), .int n, .int gr]) (va_Qv (fun z => ∃ k g gp, okInto d n gr k g gp ∧ ¬ inn d g k ∧ dp g + (mxD d dp k 14 - dp k + 1) ≤ 5 ∧ pubR G ms d w (dInto d k gp g) z) (eW G S0) (hp_A S0)) (eX G S0 (fun E z => z = w ∧ ((E = iae ∧ ¬ ((isN d n ∧ n ≠ 0) ∧ isGroup d gr)) ∨ (E = ise ∧ ∃ k g gp, okInto d n gr k g gp ∧ (inn d g k ∨ 5 < dp g + (mxD d dp k 14 - dp k + 1)))))) 40 200 (hp_A S0) := by
  refine vx_ofW (cc := b_Ea_into) (maxL := 5) (ret := none) (by decide) rfl ?_
  intro p e s m args below meth c s₁ B hml hnx hv
  obtain ⟨rfl, hE, hI, hz⟩ := hv
  have hx := B.exec
  have hb := B.bytes
  have hr := B.returns
  have hts := atoms_spec (ws := w_Ea_into) B.pre
  have hg : ∀ w ∈ gw, w.before _ s = true := fun w h => hts w (List.mem_cons_of_mem _ h)
  have hown : s.vm.findClass "SceneEasel" = some m.cls := findClass_of_methodNamed B.named
  have hlocks := B.notSynchronized
  have hK := hE.K
  have hS : va_S (hp_A S0) s.heap s.heap [] := va_S.rf
  have hl := lv_entry ([.ref (mEo ms), .int n, .int gr]) (n := 5) (Nat.le_of_ble_eq_true rfl)
  rw [lg_entry_eq]
  generalize (lg_sl ([.ref (mEo ms), .int n, .int gr]) ++ List.replicate (5 - (lg_sl ([.ref (mEo ms), .int n, .int gr])).length) Slot.unset).toArray = ls at hl ⊢
  have hl : lv_has ls 5 [(0, .ref (mEo ms)), (1, .int n), (2, .int gr)] := hl
  have hob := hp'.1
  refine lv_aload_n hx hb d_Ea_into_0 rfl (lv_at hl 0 rfl) ?_
  refine lv_iload_n hx hb d_Ea_into_1 rfl (lv_at hl 1 rfl) ?_
  refine xc_o (vx_runV (As := [.int n]) (rest := []) ⟨hx, hb, hml, hown, hts⟩ (m_Ea_requireInner l hlt G S0 w ms d hp' hno htr.1 n) (cwV 1 hts (gw_V k_487 k_489 k_15 k_60 k_490) rfl rfl rfl (by decide +kernel) ⟨Nat.le_of_ble_eq_true rfl, Nat.le_of_ble_eq_true rfl⟩) (eB.preV hE hI hS hz rfl hob) rfl rfl hl.1 rfl (lv_room (Nat.le_of_ble_eq_true rfl)) d_Ea_into_2 ⟨Nat.le_of_ble_eq_true rfl, Nat.le_of_ble_eq_true rfl⟩) hS (fun E9 ce9 q9 u9 H9 locs9 hpx9 hI9 hsz9 hS9 g1 g2 g3 => xc_out hnx hlocks g1 g2 g3 (⟨hpx9.2.1, Or.inl ⟨hpx9.1, fun h => hpx9.2.2 h.1⟩⟩) hI9 hS9 (Nat.le_of_ble_eq_true rfl) (Nat.le_of_ble_eq_true rfl)) (fun nd w_1 H locs ew_1 hI hsz hS => ?_)
  obtain ⟨ew_1, h1⟩ := ew_1
  have ew_1 := ew_1.symm
  subst ew_1
  obtain ⟨k, hk, ek, ht, hk0, end_⟩ := h1
  subst end_
  refine lv_astore_n (lv' := [(3, .ref (mAd ms k 0)), (0, .ref (mEo ms)), (1, .int n), (2, .int gr)]) hx hb d_Ea_into_5 rfl hl (by decide) rfl (fun ls hl => ?_)
  refine lv_aload_n hx hb d_Ea_into_6 rfl (lv_at hl 1 rfl) ?_
  refine lv_iload_n hx hb d_Ea_into_7 rfl (lv_at hl 3 rfl) ?_
  refine xc_o (vx_runV (As := [.int gr]) (rest := []) ⟨hx, hb, hml, hown, hts⟩ (m_Ea_requireGroup l hlt G S0 w ms d hp' hno gr) (cwV 1 hts (gw_V k_296 k_298 k_6 k_60 k_299) rfl rfl rfl (by decide +kernel) ⟨Nat.le_of_ble_eq_true rfl, Nat.le_of_ble_eq_true rfl⟩) (eB.preV hE hI hS hz rfl hob) rfl rfl hl.1 rfl (lv_room (Nat.le_of_ble_eq_true rfl)) d_Ea_into_8 ⟨Nat.le_of_ble_eq_true rfl, Nat.le_of_ble_eq_true rfl⟩) hS (fun E9 ce9 q9 u9 H9 locs9 hpx9 hI9 hsz9 hS9 g1 g2 g3 => xc_out hnx hlocks g1 g2 g3 (⟨hpx9.2.1, Or.inl ⟨hpx9.1, fun h => hpx9.2.2 h.2⟩⟩) hI9 hS9 (Nat.le_of_ble_eq_true rfl) (Nat.le_of_ble_eq_true rfl)) (fun ng w_2 H locs ew_2 hI hsz hS => ?_)
  obtain ⟨ew_2, h2⟩ := ew_2
  have ew_2 := ew_2.symm
  subst ew_2
  obtain ⟨g, hg1, eg, hgt, hg0, eng⟩ := h2
  subst eng
  obtain ⟨gp, hgp1, hpa, hgpt, hgp0, hdk, hkc⟩ := htr.2.2.2.2.1 k hk ht hk0
  have hok : okInto d n gr k g gp := ⟨hk, ek, ht, hk0, hg1, eg, hgt, hg0, hgp1, hgpt, hpa, hkc⟩
  have hn := hp'.node hk ht
  have hng := hp'.node hg1 hgt
  refine lv_astore (lv' := [(4, .ref (mAd ms g 0)), (3, .ref (mAd ms k 0)), (0, .ref (mEo ms)), (1, .int n), (2, .int gr)]) hx hb d_Ea_into_11 hl (by decide) rfl (fun ls hl => ?_)
  refine lv_aload hx hb d_Ea_into_13 (lv_at hl 0 rfl) ?_
  refine lv_aload_n hx hb d_Ea_into_15 rfl (lv_at hl 1 rfl) ?_
  refine ec_i (va_runVN (As := [.ref (mAd ms k 0)]) (rest := []) ⟨hx, hb, hml, hown, hts⟩ (m_No_isIn l G S0 w ms d dp hp' htr g k hg1 hgt hk ht) ⟨va_cnB 1 hts (gw_code k_279) rfl rfl rfl (hE.Nw q_276) (hg _ k_61) (by decide +kernel) ⟨Nat.le_of_ble_eq_true rfl, Nat.le_of_ble_eq_true rfl⟩, hg _ k_278, hg _ k_4⟩ (eB.preV hE hI hS hz rfl hng) rfl rfl hl.1 rfl (lv_room (Nat.le_of_ble_eq_true rfl)) d_Ea_into_16 ⟨Nat.le_of_ble_eq_true rfl, Nat.le_of_ble_eq_true rfl⟩) hS (fun ii w_3 H locs ew_3 hI hsz hS => ?_)
  obtain ⟨eii, ew_3⟩ := ew_3
  have ew_3 := ew_3.symm
  subst ew_3
  rcases eii with ⟨e1, e2⟩ | ⟨e1, e2⟩
  · rw [e1]
    refine lv_if_eq (tgt := 32) hx hb d_Ea_into_19 (by decide) (fun c9 => absurd c9 (by decide)) (fun c9 => ?_)
    exact xt_throw (names := rte) (text := "a group can't be in itself") k_381 k_72 (by decide +kernel) xf_ise x1_ise x2_ise x3_ise rfl hx hb hlt hown hg hE hI hS (hl.1.trans hml.symm) d_Ea_into_22 d_Ea_into_25 d_Ea_into_26 d_Ea_into_28 d_Ea_into_31 hnx hlocks (⟨rfl, Or.inr ⟨rfl, k, g, gp, hok, Or.inl e2⟩⟩) (Nat.le_of_ble_eq_true rfl) (Nat.le_of_ble_eq_true rfl) (Nat.le_of_ble_eq_true rfl) (Nat.le_of_ble_eq_true rfl) (Nat.le_of_ble_eq_true rfl) (Nat.le_of_ble_eq_true rfl)
  · rw [e1]
    refine lv_if_eq (tgt := 32) hx hb d_Ea_into_19 (by decide) (fun c9 => ?_) (fun c9 => absurd (rfl) c9)
    refine lv_aload hx hb d_Ea_into_32 (lv_at hl 0 rfl) ?_
    refine ec_i (va_runVN (As := []) (rest := []) ⟨hx, hb, hml, hown, hts⟩ (m_No_depth l G S0 w ms d dp hp' htr g hg1 hgt) ⟨va_cnB 0 hts (gw_code k_283) rfl rfl rfl (hE.Nw q_280) (hg _ k_61) (by decide +kernel) ⟨Nat.le_of_ble_eq_true rfl, Nat.le_of_ble_eq_true rfl⟩, hg _ k_282, hg _ k_5⟩ (eB.preV hE hI hS hz rfl hng) rfl rfl hl.1 rfl (lv_room (Nat.le_of_ble_eq_true rfl)) d_Ea_into_34 ⟨Nat.le_of_ble_eq_true rfl, Nat.le_of_ble_eq_true rfl⟩) hS (fun dd w_4 H locs ew_4 hI hsz hS => ?_)
    obtain ⟨edd, ew_4⟩ := ew_4
    have ew_4 := ew_4.symm
    subst ew_4
    rw [edd]
    refine lv_aload_n hx hb d_Ea_into_37 rfl (lv_at hl 2 rfl) ?_
    refine lv_aload_n hx hb d_Ea_into_38 rfl (lv_at hl 1 rfl) ?_
    refine ec_i (va_runV (As := [.ref (mAd ms k 0)]) (rest := [.int (nI (dp g))]) ⟨hx, hb, hml, hown, hts⟩ (m_Ea_levelsOf l G S0 w ms d dp hp' hno htr k hk ht) (cwV 1 hts (gw_V k_576 k_578 k_18 k_60 k_579) rfl rfl rfl (by decide +kernel) ⟨Nat.le_of_ble_eq_true rfl, Nat.le_of_ble_eq_true rfl⟩) (eB.preV hE hI hS hz rfl hob) rfl rfl hl.1 rfl (lv_room (Nat.le_of_ble_eq_true rfl)) d_Ea_into_39 ⟨Nat.le_of_ble_eq_true rfl, Nat.le_of_ble_eq_true rfl⟩) hS (fun lv w_5 H locs ew_5 hI hsz hS => ?_)
    obtain ⟨elv, ew_5⟩ := ew_5
    have ew_5 := ew_5.symm
    subst ew_5
    rw [elv]
    have hm5 := mxD_5 htr (n := k) 14 (Nat.le_refl 14)
    have hd5 := htr.2.2.2.2.2.2 g hg1 hgt
    refine lv_iadd hx hb d_Ea_into_42 ?_
    rw [nI_add]
    refine lv_iconst (v := 5) hx hb d_Ea_into_43 (by decide) ?_
    refine lv_icmp_le (tgt := 57) hx hb d_Ea_into_44 (by decide) (fun c2 => ?_) (fun c2 => ?_)
    · have hle : dp g + (mxD d dp k 14 - dp k + 1) ≤ 5 := (nI_leI (a := dp g + (mxD d dp k 14 - dp k + 1)) (b := 5) (by omega) (by decide)).mp c2
      have hkg : k ≠ g := fun e => e2 (by rw [e]; exact inn_self d g)
      have hkgp : k ≠ gp := fun e => by rw [← e] at hdk; omega
      refine lv_aload_n hx hb d_Ea_into_57 rfl (lv_at hl 1 rfl) ?_
      refine ec_v (va_runVN (As := []) (rest := []) ⟨hx, hb, hml, hown, hts⟩ (m_No_unhang l G S0 w ms d dp hp' htr k gp hk ht hgp1 hgpt hpa hkc hkgp) ⟨va_cnB 0 hts (gw_code k_583) rfl rfl rfl (hE.Nw q_580) (hg _ k_61) (by decide +kernel) ⟨Nat.le_of_ble_eq_true rfl, Nat.le_of_ble_eq_true rfl⟩, hg _ k_582, hg _ k_19⟩ (eB.preV hE hI hS hz rfl hn) rfl rfl hl.1 rfl (lv_room (Nat.le_of_ble_eq_true rfl)) d_Ea_into_58 ⟨Nat.le_of_ble_eq_true rfl, Nat.le_of_ble_eq_true rfl⟩) hS (fun w1 H locs ew1 hI hsz hS => ?_)
      obtain ⟨m1, e11, e12, hp1, hf1⟩ := ew1
      have hp1 : ePic G m1 (dUn d k gp) w1 := hp1
      have hf1 : fR ms d w m1 (dUn d k gp) w1 := hf1
      have hhang := m_No_hangInto l G S0 w1 m1 (dUn d k gp) hp1 k g hk ht hg1 hgt hkg (fun c hc => ⟨(htr.child hg1 hgt (dUn_ch hc)).1, (htr.child hg1 hgt (dUn_ch hc)).2.1⟩) (Nat.le_trans dUn_len (htr.len hg1 hgt))
      rw [e12, e12] at hhang
      have hn1 := hp1.node hk ht
      rw [e12] at hn1
      refine lv_aload_n hx hb d_Ea_into_61 rfl (lv_at hl 1 rfl) ?_
      refine lv_aload hx hb d_Ea_into_62 (lv_at hl 0 rfl) ?_
      refine ec_v (va_runVN (As := [.ref (mAd ms g 0)]) (rest := []) ⟨hx, hb, hml, hown, hts⟩ (hhang) ⟨va_cnB 1 hts (gw_code k_401) rfl rfl rfl (hE.Nw q_398) (hg _ k_61) (by decide +kernel) ⟨Nat.le_of_ble_eq_true rfl, Nat.le_of_ble_eq_true rfl⟩, hg _ k_400, hg _ k_10⟩ (eB.preV hE hI hS hz rfl hn1) rfl rfl hl.1 rfl (lv_room (Nat.le_of_ble_eq_true rfl)) d_Ea_into_64 ⟨Nat.le_of_ble_eq_true rfl, Nat.le_of_ble_eq_true rfl⟩) hS (fun w2 H locs ew2 hI hsz hS => ?_)
      obtain ⟨m2, e21, e22, hp2, hf2⟩ := ew2
      refine vx_ret ?_
      refine W.widen (k := 40) (n := 200) (Nat.le_of_ble_eq_true rfl) (Nat.le_of_ble_eq_true rfl) ?_
      exact W.vret hx hb hr (fun t9 ht9 hW9 => ⟨⟨w2, rfl, ⟨k, g, gp, hok, e2, hle, m2, by show m2.1.1 = ms.1.1; rw [e21, e11], hp2, hno.dd (e21.trans e11) (fun j => (e22 j).trans (e12 j)) rfl, hf1.tr hf2⟩, eWo ht9 hI⟩, hS.F ht9⟩) hS.2.2 d_Ea_into_67
    · have hgt5 : 5 < dp g + (mxD d dp k 14 - dp k + 1) := by
        rcases Nat.lt_or_ge 5 (dp g + (mxD d dp k 14 - dp k + 1)) with q | q
        · exact q
        · exact absurd ((nI_leI (a := dp g + (mxD d dp k 14 - dp k + 1)) (b := 5) (by omega) (by decide)).mpr q) c2
      exact xt_throw (names := rte) (text := "no room: too deep") k_381 k_72 (by decide +kernel) xf_ise x1_ise x2_ise x3_ise rfl hx hb hlt hown hg hE hI hS (hl.1.trans hml.symm) d_Ea_into_47 d_Ea_into_50 d_Ea_into_51 d_Ea_into_53 d_Ea_into_56 hnx hlocks (⟨rfl, Or.inr ⟨rfl, k, g, gp, hok, Or.inr hgt5⟩⟩) (Nat.le_of_ble_eq_true rfl) (Nat.le_of_ble_eq_true rfl) (Nat.le_of_ble_eq_true rfl) (Nat.le_of_ble_eq_true rfl) (Nat.le_of_ble_eq_true rfl) (Nat.le_of_ble_eq_true rfl)
/-- the array of the nodes, of which the first are gone through -/
noncomputable def nfR (m : MS) (d : DS) (k i : Nat) : Nat → Option Nat := fun j => @ite (Option Nat) (j < i ∧ sTh d j = true ∧ inn d j k) (Classical.propDecidable _) none (mNf m j)
noncomputable def gnN (d : DS) (k : Nat) : Nat → Nat
  | 0 => 0
  | i + 1 => @ite Nat (sTh d i = true ∧ inn d i k) (Classical.propDecidable _) (gnN d k i + 1) (gnN d k i)
theorem gnN_y {d : DS} {k i : Nat} (h : sTh d i = true ∧ inn d i k) : gnN d k (i + 1) = gnN d k i + 1 := if_pos h
theorem gnN_n {d : DS} {k i : Nat} (h : ¬ (sTh d i = true ∧ inn d i k)) : gnN d k (i + 1) = gnN d k i := if_neg h
theorem gnN_le (d : DS) (k : Nat) : ∀ i, gnN d k i ≤ i
  | 0 => Nat.le_refl 0
  | i + 1 => by
    have := gnN_le d k i
    by_cases q : sTh d i = true ∧ inn d i k
    · rw [gnN_y q]; omega
    · rw [gnN_n q]; omega
theorem nfR_0 (m : MS) (d : DS) (k : Nat) : nfR m d k 0 = mNf m := funext fun j => if_neg (fun h => absurd h.1 (Nat.not_lt_zero j))
theorem nfR_y {m : MS} {d : DS} {k i : Nat} (h : sTh d i = true ∧ inn d i k) : va_up (nfR m d k i) i none = nfR m d k (i + 1) := by
  funext j
  unfold va_up nfR
  by_cases e : j = i
  · subst e
    rw [if_pos rfl, if_pos ⟨by omega, h⟩]
  · rw [if_neg e]
    by_cases q : j < i ∧ sTh d j = true ∧ inn d j k
    · rw [if_pos q, if_pos ⟨by omega, q.2⟩]
    · rw [if_neg q, if_neg (fun q2 => q ⟨by omega, q2.2⟩)]
theorem nfR_n {m : MS} {d : DS} {k i : Nat} (h : ¬ (sTh d i = true ∧ inn d i k)) : nfR m d k i = nfR m d k (i + 1) := by
  funext j
  unfold nfR
  by_cases q : j < i ∧ sTh d j = true ∧ inn d j k
  · rw [if_pos q, if_pos ⟨by omega, q.2⟩]
  · rw [if_neg q, if_neg (fun q2 => ?_)]
    by_cases e : j = i
    · subst e; exact h q2.2
    · exact q ⟨by omega, q2.2⟩
def msF (m : MS) (nf : Nat → Option Nat) : MS := ((m.1.1, m.1.2.1, m.1.2.2.1, nf), m.2)
theorem ePic.nf {G : EG} {m : MS} {d : DS} {w : hp_M} (h : ePic G m d w) (nf : Nat → Option Nat) : ePic G (msF m nf) d (hp_set w (mNa m) (aN G 14 nf)) := by
  have hne := h.neE
  refine ⟨?_, hp_set_eq _ _ _, ?_, fun k hk ht => ?_, h.2.2.2.2⟩
  · show hp_set w (mNa m) _ (mEo m) = _
    rw [hp_set_ne hne.1]
    exact h.1
  · show hp_set w (mNa m) _ (mCa m) = _
    rw [hp_set_ne (Ne.symm hne.2.2)]
    exact h.2.2.1
  · have hob := nPic_iff.mp (h.2.2.2.1 k hk ht)
    refine nPic_iff.mpr ⟨fun r hr => ?_, hob.2⟩
    show hp_set w (mNa m) _ (mAd m k r) = _
    rw [hp_set_ne (Ne.symm (h.ne3 hk ht hr).2.1)]
    exact hob.1 r hr
/-- fewer nodes are there -/
noncomputable def dTh (d : DS) (P : Nat → Prop) : DS := (fun j => @ite Bool (P j) (Classical.propDecidable _) (sTh d j) false, d.2)
theorem dTh_t {d : DS} {P : Nat → Prop} {j : Nat} : sTh (dTh d P) j = true ↔ sTh d j = true ∧ P j := by
  show @ite Bool (P j) (Classical.propDecidable _) (sTh d j) false = true ↔ _
  by_cases h : P j
  · rw [if_pos h]; exact ⟨fun q => ⟨q, h⟩, fun q => q.1⟩
  · rw [if_neg h]; exact ⟨(fun q => by cases q), fun q => absurd q.2 h⟩
theorem ePic.drop {G : EG} {m : MS} {d : DS} {w : hp_M} (h : ePic G m d w) (P : Nat → Prop) : ePic G m (dTh d P) w :=
  ⟨h.1, h.2.1, h.2.2.1, fun k hk ht => h.2.2.2.1 k hk (dTh_t.mp ht).1, fun k r k' r' hk hk' ht ht' hv hv' e => h.2.2.2.2 k r k' r' hk hk' (dTh_t.mp ht).1 (dTh_t.mp ht').1 hv hv' e⟩
theorem fR.drop {m : MS} {d : DS} {w : hp_M} (P : Nat → Prop) : fR m d w m (dTh d P) w :=
  ⟨fun _ _ h _ => h, fun a q => Or.inl (by
    rcases q with e | e | e | ⟨k, r, hk, ht, hr, e⟩
    · exact Or.inl e
    · exact Or.inr (Or.inl e)
    · exact Or.inr (Or.inr (Or.inl e))
    · exact Or.inr (Or.inr (Or.inr ⟨k, r, hk, (dTh_t.mp ht).1, hr, e⟩)))⟩
noncomputable def dRem (d : DS) (k gp : Nat) : DS := dTh (dUn d k gp) (fun j => ¬ inn d j k)
theorem dRem_t {d : DS} {k gp j : Nat} : sTh (dRem d k gp) j = true ↔ sTh d j = true ∧ ¬ inn d j k := dTh_t (d := dUn d k gp)
set_option maxHeartbeats 4000000 in
set_option maxRecDepth 100000 in
theorem m_Ea_remove (l : Launch) (hlt : l.stackTraces = false) (G : EG) (S0 : Nat) (w : hp_M) (ms : MS) (d : DS) (hp' : ePic G ms d w) (hno : nOk ms d) (dp : Nat → Nat) (htr : tOk d dp) (n : Int32) : vx_Met l y_Ea_remove w_Ea_remove (rl 22 40 200) (eP G S0 w [.ref (mEo ms), .int n]) (va_Qi (fun r z => ∃ k gp, k < 14 ∧ n = nI k ∧ sTh d k = true ∧ k ≠ 0 ∧ gp < 14 ∧ sTh d gp = true ∧ sPa d k = some gp ∧ k ∈ sCh d gp ∧ r = nI (gnN d k 14) ∧ pubR G ms d w (dRem d k gp) z) (eW G S0) (hp_A S0)) (eX G S0 (pIA w (¬ (isN d n ∧ n ≠ 0)))) 40 200 (hp_A S0) := by
  refine vx_ofW (cc := b_Ea_remove) (maxL := 5) (ret := (some .int)) (by decide) rfl ?_
  intro p e s m args below meth c s₁ B hml hnx hv
  obtain ⟨rfl, hE, hI, hz⟩ := hv
  have hx := B.exec
  have hb := B.bytes
  have hr := B.returns
  have hts := atoms_spec (ws := w_Ea_remove) B.pre
  have hg : ∀ w ∈ gw, w.before _ s = true := fun w h => hts w (List.mem_cons_of_mem _ h)
  have hown : s.vm.findClass "SceneEasel" = some m.cls := findClass_of_methodNamed B.named
  have hlocks := B.notSynchronized
  have hK := hE.K
  have hS : va_S (hp_A S0) s.heap s.heap [] := va_S.rf
  have hl := lv_entry ([.ref (mEo ms), .int n]) (n := 5) (Nat.le_of_ble_eq_true rfl)
  rw [lg_entry_eq]
  generalize (lg_sl ([.ref (mEo ms), .int n]) ++ List.replicate (5 - (lg_sl ([.ref (mEo ms), .int n])).length) Slot.unset).toArray = ls at hl ⊢
  have hl : lv_has ls 5 [(0, .ref (mEo ms)), (1, .int n)] := hl
  have hob := hp'.1
  refine lv_aload_n hx hb d_Ea_remove_0 rfl (lv_at hl 0 rfl) ?_
  refine lv_iload_n hx hb d_Ea_remove_1 rfl (lv_at hl 1 rfl) ?_
  refine xc_o (vx_runV (As := [.int n]) (rest := []) ⟨hx, hb, hml, hown, hts⟩ (m_Ea_requireInner l hlt G S0 w ms d hp' hno htr.1 n) (cwV 1 hts (gw_V k_487 k_489 k_15 k_60 k_490) rfl rfl rfl (by decide +kernel) ⟨Nat.le_of_ble_eq_true rfl, Nat.le_of_ble_eq_true rfl⟩) (eB.preV hE hI hS hz rfl hob) rfl rfl hl.1 rfl (lv_room (Nat.le_of_ble_eq_true rfl)) d_Ea_remove_2 ⟨Nat.le_of_ble_eq_true rfl, Nat.le_of_ble_eq_true rfl⟩) hS (fun E9 ce9 q9 u9 H9 locs9 hpx9 hI9 hsz9 hS9 g1 g2 g3 => xc_out hnx hlocks g1 g2 g3 (hpx9) hI9 hS9 (Nat.le_of_ble_eq_true rfl) (Nat.le_of_ble_eq_true rfl)) (fun nd w_1 H locs ew_1 hI hsz hS => ?_)
  obtain ⟨ew_1, h1⟩ := ew_1
  have ew_1 := ew_1.symm
  subst ew_1
  obtain ⟨k, hk, ek, ht, hk0, end_⟩ := h1
  subst end_
  obtain ⟨gp, hgp1, hpa, hgpt, hgp0, hdk, hkc⟩ := htr.2.2.2.2.1 k hk ht hk0
  have hkgp : k ≠ gp := fun e => by rw [← e] at hdk; omega
  refine lv_astore_n (lv' := [(2, .ref (mAd ms k 0)), (0, .ref (mEo ms)), (1, .int n)]) hx hb d_Ea_remove_5 rfl hl (by decide) rfl (fun ls hl => ?_)
  refine lv_iconst (v := 0) hx hb d_Ea_remove_6 (by decide) ?_
  refine lv_istore_n (lv' := [(3, .int 0), (2, .ref (mAd ms k 0)), (0, .ref (mEo ms)), (1, .int n)]) hx hb d_Ea_remove_7 rfl hl (by decide) rfl (fun ls hl => ?_)
  refine lv_iconst (v := 0) hx hb d_Ea_remove_8 (by decide) ?_
  refine lv_istore (lv' := [(4, .int 0), (3, .int 0), (2, .ref (mAd ms k 0)), (0, .ref (mEo ms)), (1, .int n)]) hx hb d_Ea_remove_9 hl (by decide) rfl (fun ls hl => ?_)
  refine W.lpw (fun j (q : Nat × hp_M) => match q with | (i, z) => i ≤ 14 ∧ z = hp_set w (mNa ms) (aN G 14 (nfR ms d k i)) ∧ j = 14 - i) (fun (q : Nat × hp_M) => match q with | (i, z) => z) (fun (q : Nat × hp_M) => match q with | (i, z) => [(4, .int (nI i)), (3, .int (nI (gnN d k i))), (2, .ref (mAd ms k 0)), (0, .ref (mEo ms)), (1, .int n)]) (fun (q : Nat × hp_M) => match q with | (i, z) => 2) (fun (q : Nat × hp_M) => match q with | (i, z) => 12) 5 11 (fun (q : Nat × hp_M) => match q with | (i, z) => []) (14) ((0, w)) (⟨by omega, by show w = hp_set w (mNa ms) (aN G 14 (nfR ms d k 0)); rw [nfR_0, hp_set_self hp'.2.1], rfl⟩) (lv_sub hl [0, 1, 2, 3, 4] rfl) hI hS ?_
  rintro j ⟨i, z⟩ ls H locs hP hl hI hS ih
  try dsimp only at hP hl hI ⊢
  obtain ⟨h1, ez, h3⟩ := hP
  have hpz : ePic G (msF ms (nfR ms d k i)) d z := by rw [ez]; exact hp'.nf _
  have hobz := hpz.1
  have hnaz := hpz.2.1
  have hobz : z (mEo ms) = some (.inr (3, [.ref (mAd ms 0 0), .ref (mNa ms), .ref (mCa ms), .int (sPt d)])) := hobz
  have hnaz : z (mNa ms) = some (aN G 14 (nfR ms d k i)) := hnaz
  have hnk : z (mAd ms k 0) = some (nC (msF ms (nfR ms d k i)) d k) := hpz.node hk ht
  refine lv_iload hx hb d_Ea_remove_11 (lv_at hl 0 rfl) ?_
  refine lv_bipush (v := 14) hx hb d_Ea_remove_13 (by decide) ?_
  refine lv_icmp_ge (tgt := 59) hx hb d_Ea_remove_15 (by decide) (fun c1 => ?_) (fun c1 => ?_)
  · have hi : i = 14 := by
      have := (nI_leI (a := 14) (b := i) (by omega) (by omega)).mp c1
      omega
    have hunh := m_No_unhang l G S0 z (msF ms (nfR ms d k i)) d dp hpz htr k gp hk ht hgp1 hgpt hpa hkc hkgp
    have hunh : Met l y_No_unhang w_No_unhang (rl 4 0 0) (eP G S0 z [.ref (mAd ms k 0)]) _ 0 0 (hp_A S0) := hunh
    refine lv_aload_n hx hb d_Ea_remove_59 rfl (lv_at hl 2 rfl) ?_
    refine ec_v (va_runVN (As := []) (rest := []) ⟨hx, hb, hml, hown, hts⟩ (hunh) ⟨va_cnB 0 hts (gw_code k_583) rfl rfl rfl (hE.Nw q_580) (hg _ k_61) (by decide +kernel) ⟨Nat.le_of_ble_eq_true rfl, Nat.le_of_ble_eq_true rfl⟩, hg _ k_582, hg _ k_19⟩ (eB.preV hE hI hS hz rfl hnk) rfl rfl hl.1 rfl (lv_room (Nat.le_of_ble_eq_true rfl)) d_Ea_remove_60 ⟨Nat.le_of_ble_eq_true rfl, Nat.le_of_ble_eq_true rfl⟩) hS (fun w2 H locs ew2 hI hsz hS => ?_)
    obtain ⟨m2, e21, e22, hp2, hf2⟩ := ew2
    have hf0 : fR ms d w (msF ms (nfR ms d k i)) d z := ⟨fun a x q1 q2 => by rw [ez, hp_set_ne (fun e => q2 (Or.inr (Or.inl e)))]; exact q1, fun a q => Or.inl q⟩
    have hno2 : nOk m2 (dRem d k gp) := fun j hj => by
      have e1 : mNf m2 = nfR ms d k i := by show m2.1.2.2.2 = _; rw [e21]; rfl
      rw [e1, hi]
      unfold noF nfR
      rw [e22]
      by_cases q : sTh d j = true ∧ inn d j k
      · rw [if_pos ⟨hj, q⟩, if_neg (fun h => (dRem_t.mp h).2 q.2)]
      · rw [if_neg (fun h => q h.2), hno j hj]
        unfold noF
        by_cases q2 : sTh d j = true
        · rw [if_pos q2, if_pos (dRem_t.mpr ⟨q2, fun h => q ⟨q2, h⟩⟩)]; rfl
        · rw [if_neg q2, if_neg (fun h => q2 (dRem_t.mp h).1)]
    refine lv_iload_n hx hb d_Ea_remove_63 rfl (lv_at hl 1 rfl) ?_
    refine vx_ret ?_
    refine W.widen (k := 40) (n := 200) (Nat.le_of_ble_eq_true rfl) (Nat.le_of_ble_eq_true rfl) ?_
    exact W.iret (v := (nI (gnN d k i))) hx hb hr (fun t9 ht9 hW9 => ⟨⟨(nI (gnN d k i)), w2, rfl, ⟨k, gp, hk, ek, ht, hk0, hgp1, hgpt, hpa, hkc, by rw [hi], m2, by show m2.1.1 = ms.1.1; rw [e21]; rfl, hp2.drop _, hno2, (hf0.tr hf2).tr (fR.drop _)⟩, eWo ht9 hI⟩, hS.F ht9⟩) hS.2.2 d_Ea_remove_64
  · have hi : i < 14 := by
      rcases Nat.lt_or_ge i 14 with q | q
      · exact q
      · exact absurd ((nI_leI (a := 14) (b := i) (by omega) (by omega)).mpr q) c1
    have hnfi : nfR ms d k i i = noF ms d i := by
      unfold nfR
      rw [if_neg (fun h => absurd h.1 (Nat.lt_irrefl i))]
      exact hno i hi
    refine lv_aload_n hx hb d_Ea_remove_18 rfl (lv_at hl 3 rfl) ?_
    refine hp_get (ci := 3) (v := .ref (mNa ms)) (C := R_Ea) (T := F_Ea) (N := 4) hx hb hg i_Ea hown hK hI hobz rfl 1 (by decide) (hg _ k_244) (fun _ h9 => h9) rfl d_Ea_remove_19 ?_
    refine lv_iload hx hb d_Ea_remove_22 (lv_at hl 0 rfl) ?_
    refine hp_aald hx hb hK hI 4 hnaz rfl (vp_in_nI hi (by decide)) d_Ea_remove_24 ?_
    rw [nI_clamp (n := i) (by omega)]
    rw [hnfi]
    by_cases hti : sTh d i = true
    · rw [show noF ms d i = some (mAd ms i 0) from if_pos hti]
      refine lv_ifnull hx hb d_Ea_remove_25 ?_
      have hni : z (mAd ms i 0) = some (nC (msF ms (nfR ms d k i)) d i) := hpz.node hi hti
      have hii := m_No_isIn l G S0 z (msF ms (nfR ms d k i)) d dp hpz htr i k hi hti hk ht
      have hii : Met l y_No_isIn w_No_isIn (rl 0 0 0) (eP G S0 z [.ref (mAd ms i 0), .ref (mAd ms k 0)]) _ 0 0 (hp_A S0) := hii
      refine lv_aload_n hx hb d_Ea_remove_28 rfl (lv_at hl 3 rfl) ?_
      refine hp_get (ci := 3) (v := .ref (mNa ms)) (C := R_Ea) (T := F_Ea) (N := 4) hx hb hg i_Ea hown hK hI hobz rfl 1 (by decide) (hg _ k_244) (fun _ h9 => h9) rfl d_Ea_remove_29 ?_
      refine lv_iload hx hb d_Ea_remove_32 (lv_at hl 0 rfl) ?_
      refine hp_aald hx hb hK hI 4 hnaz rfl (vp_in_nI hi (by decide)) d_Ea_remove_34 ?_
      rw [nI_clamp (n := i) (by omega)]
      rw [hnfi, show noF ms d i = some (mAd ms i 0) from if_pos hti]
      refine lv_aload_n hx hb d_Ea_remove_35 rfl (lv_at hl 2 rfl) ?_
      refine ec_i (va_runVN (As := [.ref (mAd ms k 0)]) (rest := []) ⟨hx, hb, hml, hown, hts⟩ (hii) ⟨va_cnB 1 hts (gw_code k_279) rfl rfl rfl (hE.Nw q_276) (hg _ k_61) (by decide +kernel) ⟨Nat.le_of_ble_eq_true rfl, Nat.le_of_ble_eq_true rfl⟩, hg _ k_278, hg _ k_4⟩ (eB.preV hE hI hS hz rfl hni) rfl rfl hl.1 rfl (lv_room (Nat.le_of_ble_eq_true rfl)) d_Ea_remove_36 ⟨Nat.le_of_ble_eq_true rfl, Nat.le_of_ble_eq_true rfl⟩) hS (fun ii w_3 H locs ew_3 hI hsz hS => ?_)
      obtain ⟨eii, ew_3⟩ := ew_3
      have ew_3 := ew_3.symm
      subst ew_3
      rcases eii with ⟨e1, e2⟩ | ⟨e1, e2⟩
      · rw [e1]
        refine lv_if_eq (tgt := 53) hx hb d_Ea_remove_39 (by decide) (fun c9 => absurd c9 (by decide)) (fun c9 => ?_)
        refine lv_aload_n hx hb d_Ea_remove_42 rfl (lv_at hl 3 rfl) ?_
        refine hp_get (ci := 3) (v := .ref (mNa ms)) (C := R_Ea) (T := F_Ea) (N := 4) hx hb hg i_Ea hown hK hI hobz rfl 1 (by decide) (hg _ k_244) (fun _ h9 => h9) rfl d_Ea_remove_43 ?_
        refine lv_iload hx hb d_Ea_remove_46 (lv_at hl 0 rfl) ?_
        refine lv_null hx hb d_Ea_remove_48 ?_
        refine hp_aastN hx hb hK hI hS 4 hnaz rfl (vp_in_nI hi (by decide)) d_Ea_remove_49 (fun H locs hI hS hsz => ?_)
        rw [nI_clamp (n := i) (by omega)] at hI
        obtain ⟨f_4, ef_4⟩ : ∃ z9, z9 = va_up (nfR ms d k i) i none := ⟨_, rfl⟩
        rw [← ef_4] at hI
        obtain ⟨w_5, ew_5⟩ : ∃ z9, z9 = hp_set z (mNa ms) (.inl (G.2.2.1 4, 14, .inr (.inr (.inr (.inr f_4))))) := ⟨_, rfl⟩
        have hI : eI G S0 w_5 H := by rw [ew_5]; exact hI
        have hobz : w_5 (mEo ms) = some (.inr (3, [.ref (mAd ms 0 0), .ref (mNa ms), .ref (mCa ms), .int (sPt d)])) := by rw [ew_5, hp_set_ne (hp_ne_oa hobz hnaz)]; exact hobz
        have hnaz : w_5 (mNa ms) = some (.inl (G.2.2.1 4, 14, .inr (.inr (.inr (.inr f_4))))) := by rw [ew_5]; exact hp_set_eq _ _ _
        refine lv_iinc (v := nI (gnN d k i + 1)) (lv' := [(3, .int (nI (gnN d k i + 1))), (4, .int (nI i)), (2, .ref (mAd ms k 0)), (0, .ref (mEo ms)), (1, .int n)]) hx hb d_Ea_remove_50 hl (k := 1) rfl (nI_inc _) (by decide) rfl (fun ls hl => ?_)
        rw [← gnN_y ⟨hti, e2⟩] at hl
        refine lv_iinc (v := nI (i + 1)) (lv' := [(4, .int (nI (i + 1))), (3, .int (nI (gnN d k (i + 1)))), (2, .ref (mAd ms k 0)), (0, .ref (mEo ms)), (1, .int n)]) hx hb d_Ea_remove_53 hl (k := 1) rfl (nI_inc i) (by decide) rfl (fun ls hl => ?_)
        refine lv_goto (tgt := 11) hx hb d_Ea_remove_56 (by decide) ?_
        exact ih (14 - (i + 1)) ((i + 1, w_5)) ls H locs (by omega) (⟨by omega, by rw [ew_5, ef_4, nfR_y ⟨hti, e2⟩, ez, hp_set_set], rfl⟩) (lv_sub hl [0, 1, 2, 3, 4] rfl) hI hS
      · rw [e1]
        refine lv_if_eq (tgt := 53) hx hb d_Ea_remove_39 (by decide) (fun c9 => ?_) (fun c9 => absurd (rfl) c9)
        refine lv_iinc (v := nI (i + 1)) (lv' := [(4, .int (nI (i + 1))), (3, .int (nI (gnN d k i))), (2, .ref (mAd ms k 0)), (0, .ref (mEo ms)), (1, .int n)]) hx hb d_Ea_remove_53 hl (k := 0) rfl (nI_inc i) (by decide) rfl (fun ls hl => ?_)
        refine lv_goto (tgt := 11) hx hb d_Ea_remove_56 (by decide) ?_
        rw [← gnN_n (fun h => e2 h.2)] at hl
        exact ih (14 - (i + 1)) ((i + 1, z)) ls H locs (by omega) (⟨by omega, by rw [← nfR_n (fun h => e2 h.2)]; exact ez, rfl⟩) (lv_sub hl [0, 1, 2, 3, 4] rfl) hI hS
    · rw [show noF ms d i = none from if_neg hti]
      refine lv_ifnullN (tgt := 53) hx hb d_Ea_remove_25 (by decide) ?_
      refine lv_iinc (v := nI (i + 1)) (lv' := [(4, .int (nI (i + 1))), (3, .int (nI (gnN d k i))), (2, .ref (mAd ms k 0)), (0, .ref (mEo ms)), (1, .int n)]) hx hb d_Ea_remove_53 hl (k := 0) rfl (nI_inc i) (by decide) rfl (fun ls hl => ?_)
      refine lv_goto (tgt := 11) hx hb d_Ea_remove_56 (by decide) ?_
      rw [← gnN_n (k := k) (fun h => hti h.1)] at hl
      exact ih (14 - (i + 1)) ((i + 1, z)) ls H locs (by omega) (⟨by omega, by rw [← nfR_n (fun h => hti h.1)]; exact ez, rfl⟩) (lv_sub hl [0, 1, 2, 3, 4] rfl) hI hS

/-! measuring -/
/-- the extents changed -/
def msX (m : MS) (X : Nat → Int32 × UInt64 × UInt64 × UInt64 × UInt64) : MS := (m.1, m.2.1, m.2.2.1, m.2.2.2.1, m.2.2.2.2.1, m.2.2.2.2.2.1, X)
abbrev X5 : Type := Int32 × UInt64 × UInt64 × UInt64 × UInt64
def upX (X : Nat → X5) (k : Nat) (x : X5) : Nat → X5 := fun j => if j = k then x else X j
theorem upX_eq (X : Nat → X5) (k : Nat) (x : X5) : upX X k x k = x := if_pos rfl
theorem upX_ne {X : Nat → X5} {k j : Nat} {x : X5} (h : j ≠ k) : upX X k x j = X j := if_neg h
theorem ePic.ex {G : EG} {m : MS} {d : DS} {w : hp_M} {X : Nat → X5} (h : ePic G (msX m X) d w) {k : Nat} (hk : k < 14) (ht : sTh d k = true) : w (mAd m k 3) = some (oEx (X k).1 (X k).2.1 (X k).2.2.1 (X k).2.2.2.1 (X k).2.2.2.2) := (h.2.2.2.1 k hk ht).2.2.2.2.1
theorem ePic.setX {G : EG} {m : MS} {d : DS} {w : hp_M} {X : Nat → X5} (h : ePic G (msX m X) d w) {k : Nat} (hk : k < 14) (ht : sTh d k = true) (x : X5) : ePic G (msX m (upX X k x)) d (hp_set w (mAd m k 3) (oEx x.1 x.2.1 x.2.2.1 x.2.2.2.1 x.2.2.2.2)) := by
  have h3 : vR (msX m X) k 3 := ⟨by decide, fun e => absurd e (by decide)⟩
  have := h.set1 (m' := msX m (upX X k x)) (d' := d) hk ht h3 rfl rfl rfl rfl rfl rfl (fun j r hj hjt hr hne => ?_) (fun j hj hjt => ⟨fun i hi => (nPic_iff.mp (h.2.2.2.1 j hj hjt)).2.1 i hi, (nPic_iff.mp (h.2.2.2.1 j hj hjt)).2.2.1⟩)
  · have e : cellOf G (msX m (upX X k x)) d k 3 = oEx x.1 x.2.1 x.2.2.1 x.2.2.2.1 x.2.2.2.2 := by
      show oEx (upX X k x k).1 (upX X k x k).2.1 (upX X k x k).2.2.1 (upX X k x k).2.2.2.1 (upX X k x k).2.2.2.2 = _
      rw [upX_eq]
    rw [e] at this
    exact this
  · by_cases h3 : r = 3
    · subst h3
      have hj : j ≠ k := fun e => hne ⟨e, rfl⟩
      show oEx (upX X k x j).1 (upX X k x j).2.1 (upX X k x j).2.2.1 (upX X k x j).2.2.2.1 (upX X k x j).2.2.2.2 = oEx (X j).1 (X j).2.1 (X j).2.2.1 (X j).2.2.2.1 (X j).2.2.2.2
      rw [upX_ne hj]
    · unfold cellOf
      by_cases q0 : r = 0
      · rw [if_pos q0, if_pos q0]; rfl
      rw [if_neg q0, if_neg q0]
      by_cases q1 : r = 1
      · rw [if_pos q1, if_pos q1]; rfl
      rw [if_neg q1, if_neg q1]
      by_cases q2 : r = 2
      · rw [if_pos q2, if_pos q2]; rfl
      rw [if_neg q2, if_neg q2, if_neg h3, if_neg h3]
      rfl
/-- only extents have changed -/
def frX (m : MS) (d : DS) (w z : hp_M) : Prop := ∀ a, (∀ j, j < 14 → sTh d j = true → a ≠ mAd m j 3) → z a = w a
theorem frX.rf (m : MS) (d : DS) (w : hp_M) : frX m d w w := fun _ _ => rfl
theorem frX.tr {m : MS} {d : DS} {w x z : hp_M} (h1 : frX m d w x) (h2 : frX m d x z) : frX m d w z := fun a h => (h2 a h).trans (h1 a h)
theorem frX.st {m : MS} {d : DS} {w : hp_M} {k : Nat} (hk : k < 14) (ht : sTh d k = true) (x : va_E) : frX m d w (hp_set w (mAd m k 3) x) := fun a h => hp_set_ne (h k hk ht)
def exO (g : Nat) (o : Option B4) (x : X5) : Prop := match o with
  | none => x.1 = 1
  | some q => x.1 = 0 ∧ exQ g q x.2
set_option maxHeartbeats 4000000 in
set_option maxRecDepth 100000 in
theorem m_No_layOut (l : Launch) (G : EG) (S0 : Nat) (w : hp_M) (ms : MS) (d : DS) (X : Nat → X5) (hp' : ePic G (msX ms X) d w) (hv0 : vOk d) (hrd : rdy d (mNx ms) (fun j => mNi ms j 0)) (f : Nat) (hf : f ≤ 4) (k : Nat) (hk : k < 14) (hkt : sTh d k = true) (q : B4) (h0 : (X k).1 = 0) (hq : exQ (6 + 2 * f) q (X k).2) (hqb : bB (Qb f * 2 ^ (6 + 2 * f)) q) : Met l y_No_layOutExtent w_No_layOutExtent (rl 2 0 0) (eP G S0 w [.ref (mAd ms k 0)]) (va_Qv (fun z => z = hp_set w (mAd ms k 3) (oXq (lyD (mNx ms k 0) (mNx ms k 1) (tu d k) (mNi ms k 0) (X k).2))) (eW G S0) (hp_A S0)) 0 0 (hp_A S0) := by
  refine Met.ofW (cc := b_No_layOutExtent) (maxL := 2) (ret := none) (by decide) rfl ?_
  intro p e s m args below meth c s₁ B hml hv
  obtain ⟨rfl, hE, hI, hz⟩ := hv
  have hx := B.exec
  have hb := B.bytes
  have hr := B.returns
  have hts := atoms_spec (ws := w_No_layOutExtent) B.pre
  have hg : ∀ w ∈ gw, w.before _ s = true := fun w h => hts w (List.mem_cons_of_mem _ h)
  have hown : s.vm.findClass "SceneEasel$Node" = some m.cls := findClass_of_methodNamed B.named
  have hlocks := B.notSynchronized
  have hK := hE.K
  have hS : va_S (hp_A S0) s.heap s.heap [] := va_S.rf
  have hl := lv_entry ([.ref (mAd ms k 0)]) (n := 2) (Nat.le_of_ble_eq_true rfl)
  rw [lg_entry_eq]
  generalize (lg_sl ([.ref (mAd ms k 0)]) ++ List.replicate (2 - (lg_sl ([.ref (mAd ms k 0)])).length) Slot.unset).toArray = ls at hl ⊢
  have hl : lv_has ls 2 [(0, .ref (mAd ms k 0))] := hl
  have hn : w (mAd ms k 0) = some (nC ms d k) := hp'.node hk hkt
  have hex := hp'.ex hk hkt
  rw [h0] at hex
  obtain ⟨hx0, hx1, hs5⟩ := hrd k hk hkt
  obtain ⟨t, ht4, ht⟩ := (hv0 k hk hkt).2.2.2.1
  have etu := tu_eq ht4 ht
  rw [etu]
  have hly := fun t => ly_ok hf hq hqb hx0 hx1 (t := t) (s := mNi ms k 0) hs5
  have hsc := (hly 0).2.2
  refine lv_aload_n hx hb d_No_layOutExtent_0 rfl (lv_at hl 0 rfl) ?_
  refine hp_get (ci := 1) (v := .ref (mAd ms k 3)) (C := R_No) (T := F_No) (N := 20) hx hb hg i_No hown hK hI hn rfl 5 (by decide) (hg _ k_175) (fun _ h9 => h9) rfl d_No_layOutExtent_1 ?_
  refine lv_aload_n hx hb d_No_layOutExtent_4 rfl (lv_at hl 0 rfl) ?_
  refine hp_get (ci := 1) (v := .int (mNi ms k 0)) (C := R_No) (T := F_No) (N := 20) hx hb hg i_No hown hK hI hn rfl 18 (by decide) (hg _ k_199) (fun _ h9 => h9) rfl d_No_layOutExtent_5 ?_
  refine ec_d (va_runSN (As := [.int (mNi ms k 0)]) (rest := [.ref (mAd ms k 3)]) ⟨hx, hb, hml, hown, hts⟩ (m_Ea_powerOfTwo l G S0 w (mNi ms k 0) hs5) ⟨va_cnB 1 hts (gw_code k_681) rfl rfl rfl (hE.Nw q_679) (hg _ k_60) (by decide +kernel) ⟨Nat.le_of_ble_eq_true rfl, Nat.le_of_ble_eq_true rfl⟩, hg _ k_680, trivial⟩ (eB.preS hE hI hS hz) rfl rfl hl.1 rfl (lv_room (Nat.le_of_ble_eq_true rfl)) d_No_layOutExtent_8 ⟨Nat.le_of_ble_eq_true rfl, Nat.le_of_ble_eq_true rfl⟩) hS (fun pw w_1 H locs ew_1 hI hsz hS => ?_)
  obtain ⟨epw, ew_1⟩ := ew_1
  have ew_1 := ew_1.symm
  subst ew_1
  subst epw
  refine ec_v (va_runVN (As := [.double (pw2 (mNi ms k 0))]) (rest := []) ⟨hx, hb, hml, hown, hts⟩ (m_Ex_scale l G S0 w (mAd ms k 3) (pw2 (mNi ms k 0)) hex hsc.1.nn hsc.2.1.nn hsc.2.2.1.nn hsc.2.2.2.nn) ⟨va_cnB 1 hts (gw_code k_734) rfl rfl rfl (hE.Nw q_731) (hg _ k_65) (by decide +kernel) ⟨Nat.le_of_ble_eq_true rfl, Nat.le_of_ble_eq_true rfl⟩, hg _ k_733, hg _ k_37⟩ (eB.preV hE hI hS hz rfl hex) rfl rfl hl.1 rfl (lv_room (Nat.le_of_ble_eq_true rfl)) d_No_layOutExtent_11 ⟨Nat.le_of_ble_eq_true rfl, Nat.le_of_ble_eq_true rfl⟩) hS (fun w1 H locs ew1 hI hsz hS => ?_)
  have ew1 : w1 = hp_set w (mAd ms k 3) (oXq (tsD (scD (pw2 (mNi ms k 0)) (X k).2) 0)) := ew1
  rw [ew1] at hI
  refine lv_iconst (v := 0) hx hb d_No_layOutExtent_14 (by decide) ?_
  refine lv_istore_n (lv' := [(1, .int 0), (0, .ref (mAd ms k 0))]) hx hb d_No_layOutExtent_15 rfl hl (by decide) rfl (fun ls hl => ?_)
  refine W.lpw (fun j (i : Nat) => i ≤ t ∧ j = t - i) (fun (i : Nat) => hp_set w (mAd ms k 3) (oXq (tsD (scD (pw2 (mNi ms k 0)) (X k).2) i))) (fun (i : Nat) => [(1, .int (nI i)), (0, .ref (mAd ms k 0))]) (fun (i : Nat) => 0) (fun (i : Nat) => 0) 2 16 (fun (i : Nat) => []) (t) (0) (⟨Nat.zero_le _, rfl⟩) (lv_sub hl [0, 1] rfl) hI hS ?_
  rintro j i ls H locs hP hl hI hS ih
  try dsimp only at hP hl hI ⊢
  obtain ⟨h1, h2⟩ := hP
  obtain ⟨wi, ewi⟩ : ∃ z, z = hp_set w (mAd ms k 3) (oXq (tsD (scD (pw2 (mNi ms k 0)) (X k).2) i)) := ⟨_, rfl⟩
  rw [← ewi] at hI
  have hn : wi (mAd ms k 0) = some (nC ms d k) := by rw [ewi, hp_set_ne (hp_ne_c (by decide) hn hex)]; exact hn
  have hex' : wi (mAd ms k 3) = some (oXq (tsD (scD (pw2 (mNi ms k 0)) (X k).2) i)) := by rw [ewi]; exact hp_set_eq _ _ _
  refine lv_iload_n hx hb d_No_layOutExtent_16 rfl (lv_at hl 0 rfl) ?_
  refine lv_aload_n hx hb d_No_layOutExtent_17 rfl (lv_at hl 1 rfl) ?_
  refine hp_get (ci := 1) (v := .int (sNi d k 3)) (C := R_No) (T := F_No) (N := 20) hx hb hg i_No hown hK hI hn rfl 12 (by decide) (hg _ k_190) (fun _ h9 => h9) rfl d_No_layOutExtent_18 ?_
  refine lv_icmp_ge (tgt := 37) hx hb d_No_layOutExtent_21 (by decide) (fun c1 => ?_) (fun c1 => ?_)
  · have hi : i = t := by
      rw [ht] at c1
      have := (nI_leI (a := t) (b := i) (by omega) (by omega)).mp c1
      omega
    subst hi
    have hsh := (hly i).1
    refine lv_aload_n hx hb d_No_layOutExtent_37 rfl (lv_at hl 1 rfl) ?_
    refine hp_get (ci := 1) (v := .ref (mAd ms k 3)) (C := R_No) (T := F_No) (N := 20) hx hb hg i_No hown hK hI hn rfl 5 (by decide) (hg _ k_175) (fun _ h9 => h9) rfl d_No_layOutExtent_38 ?_
    refine lv_aload_n hx hb d_No_layOutExtent_41 rfl (lv_at hl 1 rfl) ?_
    refine hp_get (ci := 1) (v := .double (mNx ms k 0)) (C := R_No) (T := F_No) (N := 20) hx hb hg i_No hown hK hI hn rfl 16 (by decide) (hg _ k_197) (fun _ h9 => h9) rfl d_No_layOutExtent_42 ?_
    refine lv_aload_n hx hb d_No_layOutExtent_45 rfl (lv_at hl 1 rfl) ?_
    refine hp_get (ci := 1) (v := .double (mNx ms k 1)) (C := R_No) (T := F_No) (N := 20) hx hb hg i_No hown hK hI hn rfl 17 (by decide) (hg _ k_198) (fun _ h9 => h9) rfl d_No_layOutExtent_46 ?_
    refine ec_v (va_runVN (As := [.double (mNx ms k 0), .double (mNx ms k 1)]) (rest := []) ⟨hx, hb, hml, hown, hts⟩ (m_Ex_shift l G S0 wi (mAd ms k 3) (mNx ms k 0) (mNx ms k 1) hex' hsh.1.nn hsh.2.1.nn hsh.2.2.1.nn hsh.2.2.2.nn) ⟨va_cnB 2 hts (gw_code k_743) rfl rfl rfl (hE.Nw q_740) (hg _ k_65) (by decide +kernel) ⟨Nat.le_of_ble_eq_true rfl, Nat.le_of_ble_eq_true rfl⟩, hg _ k_742, hg _ k_39⟩ (eB.preV hE hI hS hz rfl hex') rfl rfl hl.1 rfl (lv_room (Nat.le_of_ble_eq_true rfl)) d_No_layOutExtent_49 ⟨Nat.le_of_ble_eq_true rfl, Nat.le_of_ble_eq_true rfl⟩) hS (fun w2 H locs ew2 hI hsz hS => ?_)
    exact W.vret hx hb hr (fun t ht hW => ⟨⟨w2, rfl, by rw [ew2, ewi, hp_set_set]; rfl, eWo ht hI⟩, hS.F ht⟩) hS.2.2 d_No_layOutExtent_52
  · have hi : i < t := by
      rw [ht] at c1
      rcases Nat.lt_or_ge i t with q | q
      · exact q
      · exact absurd ((nI_leI (a := t) (b := i) (by omega) (by omega)).mpr q) c1
    refine lv_aload_n hx hb d_No_layOutExtent_24 rfl (lv_at hl 1 rfl) ?_
    refine hp_get (ci := 1) (v := .ref (mAd ms k 3)) (C := R_No) (T := F_No) (N := 20) hx hb hg i_No hown hK hI hn rfl 5 (by decide) (hg _ k_175) (fun _ h9 => h9) rfl d_No_layOutExtent_25 ?_
    refine ec_v (va_runVN (As := []) (rest := []) ⟨hx, hb, hml, hown, hts⟩ (m_Ex_turnOnce l G S0 wi (mAd ms k 3) hex') ⟨va_cnB 0 hts (gw_code k_739) rfl rfl rfl (hE.Nw q_736) (hg _ k_65) (by decide +kernel) ⟨Nat.le_of_ble_eq_true rfl, Nat.le_of_ble_eq_true rfl⟩, hg _ k_738, hg _ k_38⟩ (eB.preV hE hI hS hz rfl hex') rfl rfl hl.1 rfl (lv_room (Nat.le_of_ble_eq_true rfl)) d_No_layOutExtent_28 ⟨Nat.le_of_ble_eq_true rfl, Nat.le_of_ble_eq_true rfl⟩) hS (fun w2 H locs ew2 hI hsz hS => ?_)
    have ew2 : w2 = hp_set w (mAd ms k 3) (oXq (tsD (scD (pw2 (mNi ms k 0)) (X k).2) (i + 1))) := by rw [ew2, ewi, hp_set_set]; rfl
    rw [ew2] at hI
    refine lv_iinc (v := nI (i + 1)) (lv' := [(1, .int (nI (i + 1))), (0, .ref (mAd ms k 0))]) hx hb d_No_layOutExtent_31 hl (k := 0) rfl (nI_inc i) (by decide) rfl (fun ls hl => ?_)
    refine lv_goto (tgt := 16) hx hb d_No_layOutExtent_34 (by decide) ?_
    exact ih (t - (i + 1)) (i + 1) ls H locs (by omega) (⟨by omega, rfl⟩) (lv_sub hl [0, 1] rfl) hI hS
def MEc (l : Launch) (G : EG) (S0 : Nat) (ms : MS) (d : DS) (dp : Nat → Nat) (f : Nat) : Prop :=
  ∀ (w : hp_M) (X : Nat → X5), ePic G (msX ms X) d w → ∀ k, k < 14 → sTh d k = true → k ≠ 0 → dp k + f = 5 → Met l y_No_measure w_No_measure (rl (2 * f + 5) 0 0) (eP G S0 w [.ref (mAd ms k 0)]) (va_Qv (fun z => ∃ X', ePic G (msX ms X') d z ∧ (∀ j, dp j < dp k → X' j = X j) ∧ exO (6 + 2 * (f + 1)) (bA d (mNx ms) (fun j => mNi ms j 0) (f + 1) k) (X' k) ∧ frX ms d w z) (eW G S0) (hp_A S0)) 0 0 (hp_A S0)
theorem kdB_step (d : DS) (T : Nat → Option B4) (L : List Nat) {i : Nat} (h : i < L.length) : kdB d T (L.take (i + 1)) = if sNi d L[i] 2 = 0 then jnO (kdB d T (L.take i)) (T L[i]) else kdB d T (L.take i) := by
  unfold kdB
  rw [List.take_succ_eq_append_getElem h, List.foldl_append]
  rfl
theorem kdB_all (d : DS) (T : Nat → Option B4) (L : List Nat) : kdB d T (L.take L.length) = kdB d T L := by
  rw [List.take_length]
set_option maxHeartbeats 4000000 in
set_option maxRecDepth 100000 in
theorem m_No_measureInside (l : Launch) (G : EG) (S0 : Nat) (ms : MS) (d : DS) (dp : Nat → Nat) (htr : tOk d dp) (hv0 : vOk d) (f : Nat) (hME : ∀ f', f' + 1 = f → MEc l G S0 ms d dp f') (w : hp_M) (X : Nat → X5) (hp' : ePic G (msX ms X) d w) (k : Nat) (hk : k < 14) (hkt : sTh d k = true) (hdk : dp k + f = 5) : Met l y_No_measureInside w_No_measureInside (rl (2 * f + 4) 0 0) (eP G S0 w [.ref (mAd ms k 0)]) (va_Qv (fun z => ∃ X', ePic G (msX ms X') d z ∧ (∀ j, dp j < dp k → X' j = X j) ∧ exO (6 + 2 * f) (kdB d (bA d (mNx ms) (fun j => mNi ms j 0) f) (sCh d k)) (X' k) ∧ frX ms d w z) (eW G S0) (hp_A S0)) 0 0 (hp_A S0) := by
  refine Met.ofW (cc := b_No_measureInside) (maxL := 3) (ret := none) (by decide) rfl ?_
  intro p e s m args below meth c s₁ B hml hv
  obtain ⟨rfl, hE, hI, hz⟩ := hv
  have hx := B.exec
  have hb := B.bytes
  have hr := B.returns
  have hts := atoms_spec (ws := w_No_measureInside) B.pre
  have hg : ∀ w ∈ gw, w.before _ s = true := fun w h => hts w (List.mem_cons_of_mem _ h)
  have hown : s.vm.findClass "SceneEasel$Node" = some m.cls := findClass_of_methodNamed B.named
  have hlocks := B.notSynchronized
  have hK := hE.K
  have hS : va_S (hp_A S0) s.heap s.heap [] := va_S.rf
  have hl := lv_entry ([.ref (mAd ms k 0)]) (n := 3) (Nat.le_of_ble_eq_true rfl)
  rw [lg_entry_eq]
  generalize (lg_sl ([.ref (mAd ms k 0)]) ++ List.replicate (3 - (lg_sl ([.ref (mAd ms k 0)])).length) Slot.unset).toArray = ls at hl ⊢
  have hl : lv_has ls 3 [(0, .ref (mAd ms k 0))] := hl
  have hn : w (mAd ms k 0) = some (nC ms d k) := hp'.node hk hkt
  have hex := hp'.ex hk hkt
  refine lv_aload_n hx hb d_No_measureInside_0 rfl (lv_at hl 0 rfl) ?_
  refine hp_get (ci := 1) (v := .ref (mAd ms k 3)) (C := R_No) (T := F_No) (N := 20) hx hb hg i_No hown hK hI hn rfl 5 (by decide) (hg _ k_175) (fun _ h9 => h9) rfl d_No_measureInside_1 ?_
  refine ec_v (va_runVN (As := []) (rest := []) ⟨hx, hb, hml, hown, hts⟩ (m_Ex_clear l G S0 w (mAd ms k 3) hex) ⟨va_cnB 0 hts (gw_code k_717) rfl rfl rfl (hE.Nw q_714) (hg _ k_65) (by decide +kernel) ⟨by show 10 + (0) + 1 ≤ 10 + (2 * f + 4); omega, by show 8 + (1 + 11) + (100 + 60 * (0)) ≤ 100 + 60 * (2 * f + 4); omega⟩, hg _ k_716, hg _ k_33⟩ (eB.preV hE hI hS hz rfl hex) rfl rfl hl.1 rfl (lv_room (Nat.le_of_ble_eq_true rfl)) d_No_measureInside_4 ⟨Nat.le_of_ble_eq_true rfl, Nat.le_of_ble_eq_true rfl⟩) hS (fun w1 H locs ew1 hI hsz hS => ?_)
  have hp1 : ePic G (msX ms (upX X k (1, (X k).2))) d w1 := by rw [ew1]; exact hp'.setX hk hkt (1, (X k).2)
  have hf1 : frX ms d w w1 := by rw [ew1]; exact frX.st hk hkt _
  refine lv_iconst (v := 0) hx hb d_No_measureInside_7 (by decide) ?_
  refine lv_istore_n (lv' := [(1, .int 0), (0, .ref (mAd ms k 0))]) hx hb d_No_measureInside_8 rfl hl (by decide) rfl (fun ls hl => ?_)
  refine W.lpw (fun j (q : Nat × (Nat → X5) × hp_M) => match q with | (i, Y, z) => i ≤ (sCh d k).length ∧ ePic G (msX ms Y) d z ∧ (∀ j, dp j < dp k → Y j = X j) ∧ exO (6 + 2 * f) (kdB d (bA d (mNx ms) (fun j => mNi ms j 0) f) ((sCh d k).take i)) (Y k) ∧ frX ms d w z ∧ j = (sCh d k).length - i) (fun (q : Nat × (Nat → X5) × hp_M) => match q with | (i, Y, z) => z) (fun (q : Nat × (Nat → X5) × hp_M) => match q with | (i, Y, z) => [(1, .int (nI i)), (0, .ref (mAd ms k 0))]) (fun (q : Nat × (Nat → X5) × hp_M) => match q with | (i, Y, z) => 0) (fun (q : Nat × (Nat → X5) × hp_M) => match q with | (i, Y, z) => 0) 3 9 (fun (q : Nat × (Nat → X5) × hp_M) => match q with | (i, Y, z) => []) ((sCh d k).length) ((0, upX X k (1, (X k).2), w1)) (⟨Nat.zero_le _, hp1, fun j hj => upX_ne (fun e => by subst e; omega), by show (upX X k (1, (X k).2) k).1 = 1; rw [upX_eq], hf1, rfl⟩) (lv_sub hl [0, 1] rfl) hI hS ?_
  rintro j ⟨i, Y, z⟩ ls H locs hP hl hI hS ih
  try dsimp only at hP hl hI ⊢
  obtain ⟨h1, hpz, h3, h4, h5, h6⟩ := hP
  have hn : z (mAd ms k 0) = some (nC ms d k) := hpz.node hk hkt
  have hex' := hpz.ex hk hkt
  obtain ⟨-, hal0, -, -, -, -, hlc0, hcap0⟩ := hpz.2.2.2.1 k hk hkt
  have hal0 : z (mAd ms k 1) = some (oAl (mMc ms k) (elA G ms k) (sCh d k).length) := hal0
  have hlc0 : (sCh d k).length ≤ mCap ms k := hlc0
  have hcap0 : mCap ms k = 0 ∨ mCap ms k = 10 ∨ mCap ms k = 15 := hcap0
  refine lv_iload_n hx hb d_No_measureInside_9 rfl (lv_at hl 0 rfl) ?_
  refine lv_aload_n hx hb d_No_measureInside_10 rfl (lv_at hl 1 rfl) ?_
  refine hp_get (ci := 1) (v := .ref (mAd ms k 1)) (C := R_No) (T := F_No) (N := 20) hx hb hg i_No hown hK hI hn rfl 3 (by decide) (hg _ k_171) (fun _ h9 => h9) rfl d_No_measureInside_11 ?_
  refine ec_i (va_runV (As := []) (rest := [.int (nI i)]) ⟨hx, hb, hml, hown, hts⟩ (m_Al_size l G S0 z (mAd ms k 1) (elA G ms k) (sCh d k).length hal0) (cwV 0 hts (gw_V k_588 k_589 k_590 k_64 k_591) rfl rfl rfl (by decide +kernel) ⟨by show 10 + (0) + 1 ≤ 10 + (2 * f + 4); omega, by show 8 + (1 + 11) + (100 + 60 * (0)) ≤ 100 + 60 * (2 * f + 4); omega⟩) (eB.preV hE hI hS hz rfl hal0) rfl rfl hl.1 rfl (lv_room (Nat.le_of_ble_eq_true rfl)) d_No_measureInside_14 ⟨Nat.le_of_ble_eq_true rfl, Nat.le_of_ble_eq_true rfl⟩) hS (fun sz w_1 H locs ew_1 hI hsz hS => ?_)
  obtain ⟨esz, ew_1⟩ := ew_1
  have ew_1 := ew_1.symm
  subst ew_1
  subst esz
  refine lv_icmp_ge (tgt := 60) hx hb d_No_measureInside_17 (by decide) (fun c1 => ?_) (fun c1 => ?_)
  · have hi : i = (sCh d k).length := by
      have := (nI_leI (a := (sCh d k).length) (b := i) (by omega) (by omega)).mp c1
      omega
    rw [hi, kdB_all] at h4
    exact W.vret hx hb hr (fun t ht hW => ⟨⟨z, rfl, ⟨Y, hpz, h3, h4, h5⟩, eWo ht hI⟩, hS.F ht⟩) hS.2.2 d_No_measureInside_60
  · have hi : i < (sCh d k).length := by
      rcases Nat.lt_or_ge i (sCh d k).length with q | q
      · exact q
      · exact absurd ((nI_leI (a := (sCh d k).length) (b := i) (by omega) (by omega)).mpr q) c1
    have hz0 : 0 < (sCh d k).length := by omega
    obtain ⟨hal, hel, hlc, hcap⟩ := hpz.list hk hkt hz0
    have hal : z (mAd ms k 1) = some (oAl (mMc ms k) (mAd ms k 4) (sCh d k).length) := hal
    have hel : z (mAd ms k 4) = some (aO G (mCap ms k) (elF ms d k)) := hel
    obtain ⟨c1', c2', c3', c4', c5', c6'⟩ := htr.child hk hkt (List.getElem_mem hi)
    have hstep := kdB_step d (bA d (mNx ms) (fun j => mNi ms j 0) f) (sCh d k) hi
    generalize hcc : (sCh d k)[i] = cn at c1' c2' c3' c4' c5' c6' hstep
    obtain ⟨f', ef⟩ : ∃ f', f' + 1 = f := ⟨f - 1, by omega⟩
    subst ef
    have hnc : z (mAd ms cn 0) = some (nC ms d cn) := hpz.node c1' c2'
    refine lv_aload_n hx hb d_No_measureInside_20 rfl (lv_at hl 1 rfl) ?_
    refine hp_get (ci := 1) (v := .ref (mAd ms k 1)) (C := R_No) (T := F_No) (N := 20) hx hb hg i_No hown hK hI hn rfl 3 (by decide) (hg _ k_171) (fun _ h9 => h9) rfl d_No_measureInside_21 ?_
    refine lv_iload_n hx hb d_No_measureInside_24 rfl (lv_at hl 0 rfl) ?_
    refine ec_o (va_runV (As := [.int (nI i)]) (rest := []) ⟨hx, hb, hml, hown, hts⟩ (m_Al_get l G S0 z (mAd ms k 1) (mAd ms k 4) (sCh d k).length i (mCap ms k) (elF ms d k) hi hlc hcap hal hel) (cwV 1 hts (gw_V k_592 k_593 k_594 k_64 k_595) rfl rfl rfl (by decide +kernel) ⟨by show 10 + (2) + 1 ≤ 10 + (2 * (f' + 1) + 4); omega, by show 8 + (2 + 11) + (100 + 60 * (2)) ≤ 100 + 60 * (2 * (f' + 1) + 4); omega⟩) (eB.preV hE hI hS hz rfl hal) rfl rfl hl.1 rfl (lv_room (Nat.le_of_ble_eq_true rfl)) d_No_measureInside_25 ⟨Nat.le_of_ble_eq_true rfl, Nat.le_of_ble_eq_true rfl⟩) hS (fun gt w_2 H locs ew_2 hI hsz hS => ?_)
    obtain ⟨egt, ew_2⟩ := ew_2
    have ew_2 := ew_2.symm
    subst ew_2
    rw [elF_lt hi, hcc] at egt
    subst egt
    refine va_castE hx hb hown (hg _ k_674) (hp_recv hK hI rfl hnc) d_No_measureInside_28 ?_
    refine lv_astore_n (lv' := [(2, .ref (mAd ms cn 0)), (1, .int (nI i)), (0, .ref (mAd ms k 0))]) hx hb d_No_measureInside_31 rfl hl (by decide) rfl (fun ls hl => ?_)
    refine lv_aload_n hx hb d_No_measureInside_32 rfl (lv_at hl 0 rfl) ?_
    refine hp_get (ci := 1) (v := .int (sNi d cn 2)) (C := R_No) (T := F_No) (N := 20) hx hb hg i_No hown hK hI hnc rfl 7 (by decide) (hg _ k_180) (fun _ h9 => h9) rfl d_No_measureInside_33 ?_
    refine lv_if_ne (tgt := 54) hx hb d_No_measureInside_36 (by decide) (fun c2 => ?_) (fun c2 => ?_)
    · rw [if_neg c2] at hstep
      refine lv_iinc (v := nI (i + 1)) (lv' := [(1, .int (nI (i + 1))), (2, .ref (mAd ms cn 0)), (0, .ref (mAd ms k 0))]) hx hb d_No_measureInside_54 hl (k := 1) rfl (nI_inc i) (by decide) rfl (fun ls hl => ?_)
      refine lv_goto (tgt := 9) hx hb d_No_measureInside_57 (by decide) ?_
      exact ih ((sCh d k).length - (i + 1)) ((i + 1, Y, z)) ls H locs (by omega) (⟨by omega, hpz, h3, by rw [hstep]; exact h4, h5, rfl⟩) (lv_sub hl [0, 2] rfl) hI hS
    · rw [if_pos c2] at hstep
      refine lv_aload_n hx hb d_No_measureInside_39 rfl (lv_at hl 0 rfl) ?_
      refine ec_v (va_runV (As := []) (rest := []) ⟨hx, hb, hml, hown, hts⟩ (hME f' rfl z Y hpz cn c1' c2' c4' (by omega)) (cwV 0 hts (gw_V k_718 k_720 k_34 k_61 k_721) rfl rfl rfl (by decide +kernel) ⟨by show 10 + (2 * f' + 5) + 1 ≤ 10 + (2 * (f' + 1) + 4); omega, by show 8 + (1 + 11) + (100 + 60 * (2 * f' + 5)) ≤ 100 + 60 * (2 * (f' + 1) + 4); omega⟩) (eB.preV hE hI hS hz rfl hnc) rfl rfl hl.1 rfl (lv_room (Nat.le_of_ble_eq_true rfl)) d_No_measureInside_40 ⟨Nat.le_of_ble_eq_true rfl, Nat.le_of_ble_eq_true rfl⟩) hS (fun w3 H locs ew3 hI hsz hS => ?_)
      obtain ⟨Y2, hp2, g3, g4, g5⟩ := ew3
      have hYk : Y2 k = Y k := g3 k (by omega)
      have hnk : cn ≠ k := fun e => by subst e; omega
      have hn2 : w3 (mAd ms k 0) = some (nC ms d k) := hp2.node hk hkt
      have hnc2 : w3 (mAd ms cn 0) = some (nC ms d cn) := hp2.node c1' c2'
      have hex2 := hp2.ex hk hkt
      have hexc := hp2.ex c1' c2'
      have hne3 : mAd ms cn 3 ≠ mAd ms k 3 := fun e => hnk (hp2.2.2.2.2 cn 3 k 3 c1' hk c2' hkt ⟨by decide, fun e => absurd e (by decide)⟩ ⟨by decide, fun e => absurd e (by decide)⟩ e).1
      refine lv_aload_n hx hb d_No_measureInside_43 rfl (lv_at hl 2 rfl) ?_
      refine hp_get (ci := 1) (v := .ref (mAd ms k 3)) (C := R_No) (T := F_No) (N := 20) hx hb hg i_No hown hK hI hn2 rfl 5 (by decide) (hg _ k_175) (fun _ h9 => h9) rfl d_No_measureInside_44 ?_
      refine lv_aload_n hx hb d_No_measureInside_47 rfl (lv_at hl 0 rfl) ?_
      refine hp_get (ci := 1) (v := .ref (mAd ms cn 3)) (C := R_No) (T := F_No) (N := 20) hx hb hg i_No hown hK hI hnc2 rfl 5 (by decide) (hg _ k_175) (fun _ h9 => h9) rfl d_No_measureInside_48 ?_
      rw [← hYk] at h4
      cases hT : bA d (mNx ms) (fun j => mNi ms j 0) (f' + 1) cn with
      | none =>
        rw [hT] at g4 hstep
        have g4 : (Y2 cn).1 = 1 := g4
        refine ec_v (va_runVN (As := [.ref (mAd ms cn 3)]) (rest := []) ⟨hx, hb, hml, hown, hts⟩ (m_Ex_join0 l G S0 w3 (mAd ms k 3) (mAd ms cn 3) hex2 hexc (by rw [g4]; decide)) ⟨va_cnB 1 hts (gw_code k_747) rfl rfl rfl (hE.Nw q_744) (hg _ k_65) (by decide +kernel) ⟨by show 10 + (1) + 1 ≤ 10 + (2 * (f' + 1) + 4); omega, by show 8 + (2 + 11) + (100 + 60 * (1)) ≤ 100 + 60 * (2 * (f' + 1) + 4); omega⟩, hg _ k_746, hg _ k_40⟩ (eB.preV hE hI hS hz rfl hex2) rfl rfl hl.1 rfl (lv_room (Nat.le_of_ble_eq_true rfl)) d_No_measureInside_51 ⟨Nat.le_of_ble_eq_true rfl, Nat.le_of_ble_eq_true rfl⟩) hS (fun w4 H locs ew4 hI hsz hS => ?_)
        rw [ew4] at hI
        refine lv_iinc (v := nI (i + 1)) (lv' := [(1, .int (nI (i + 1))), (2, .ref (mAd ms cn 0)), (0, .ref (mAd ms k 0))]) hx hb d_No_measureInside_54 hl (k := 1) rfl (nI_inc i) (by decide) rfl (fun ls hl => ?_)
        refine lv_goto (tgt := 9) hx hb d_No_measureInside_57 (by decide) ?_
        exact ih ((sCh d k).length - (i + 1)) ((i + 1, Y2, w3)) ls H locs (by omega) (⟨by omega, hp2, fun j hj => by rw [g3 j (by omega), h3 j hj], by rw [hstep]; exact h4, h5.tr g5, rfl⟩) (lv_sub hl [0, 2] rfl) hI hS
      | some q2 =>
        rw [hT] at g4 hstep
        obtain ⟨g40, g4q⟩ : (Y2 cn).1 = 0 ∧ exQ (6 + 2 * (f' + 1)) q2 (Y2 cn).2 := g4
        cases hA : kdB d (bA d (mNx ms) (fun j => mNi ms j 0) (f' + 1)) ((sCh d k).take i) with
        | none =>
          rw [hA] at h4 hstep
          have h4 : (Y2 k).1 = 1 := h4
          refine ec_v (va_runVN (As := [.ref (mAd ms cn 3)]) (rest := []) ⟨hx, hb, hml, hown, hts⟩ (m_Ex_join1 l G S0 w3 (mAd ms k 3) (mAd ms cn 3) hex2 hexc g40 (by rw [h4]; decide)) ⟨va_cnB 1 hts (gw_code k_747) rfl rfl rfl (hE.Nw q_744) (hg _ k_65) (by decide +kernel) ⟨by show 10 + (1) + 1 ≤ 10 + (2 * (f' + 1) + 4); omega, by show 8 + (2 + 11) + (100 + 60 * (1)) ≤ 100 + 60 * (2 * (f' + 1) + 4); omega⟩, hg _ k_746, hg _ k_40⟩ (eB.preV hE hI hS hz rfl hex2) rfl rfl hl.1 rfl (lv_room (Nat.le_of_ble_eq_true rfl)) d_No_measureInside_51 ⟨Nat.le_of_ble_eq_true rfl, Nat.le_of_ble_eq_true rfl⟩) hS (fun w4 H locs ew4 hI hsz hS => ?_)
          have hp4 : ePic G (msX ms (upX Y2 k (0, (Y2 cn).2))) d w4 := by rw [ew4]; exact hp2.setX hk hkt (0, (Y2 cn).2)
          have hf4 : frX ms d w3 w4 := by rw [ew4]; exact frX.st hk hkt _
          refine lv_iinc (v := nI (i + 1)) (lv' := [(1, .int (nI (i + 1))), (2, .ref (mAd ms cn 0)), (0, .ref (mAd ms k 0))]) hx hb d_No_measureInside_54 hl (k := 1) rfl (nI_inc i) (by decide) rfl (fun ls hl => ?_)
          refine lv_goto (tgt := 9) hx hb d_No_measureInside_57 (by decide) ?_
          exact ih ((sCh d k).length - (i + 1)) ((i + 1, upX Y2 k (0, (Y2 cn).2), w4)) ls H locs (by omega) (⟨by omega, hp4, fun j hj => by rw [upX_ne (fun e => by subst e; omega), g3 j (by omega), h3 j hj], by rw [hstep]; show (upX Y2 k (0, (Y2 cn).2) k).1 = 0 ∧ exQ _ _ (upX Y2 k (0, (Y2 cn).2) k).2; rw [upX_eq]; exact ⟨rfl, g4q⟩, (h5.tr g5).tr hf4, rfl⟩) (lv_sub hl [0, 2] rfl) hI hS
        | some q1 =>
          rw [hA] at h4 hstep
          obtain ⟨h40, h4q⟩ : (Y2 k).1 = 0 ∧ exQ (6 + 2 * (f' + 1)) q1 (Y2 k).2 := h4
          refine ec_v (va_runVN (As := [.ref (mAd ms cn 3)]) (rest := []) ⟨hx, hb, hml, hown, hts⟩ (m_Ex_join2 l G S0 w3 (mAd ms k 3) (mAd ms cn 3) hne3 hex2 hexc g40 h40) ⟨va_cnB 1 hts (gw_code k_747) rfl rfl rfl (hE.Nw q_744) (hg _ k_65) (by decide +kernel) ⟨by show 10 + (1) + 1 ≤ 10 + (2 * (f' + 1) + 4); omega, by show 8 + (2 + 11) + (100 + 60 * (1)) ≤ 100 + 60 * (2 * (f' + 1) + 4); omega⟩, hg _ k_746, hg _ k_40⟩ (eB.preV hE hI hS hz rfl hex2) rfl rfl hl.1 rfl (lv_room (Nat.le_of_ble_eq_true rfl)) d_No_measureInside_51 ⟨Nat.le_of_ble_eq_true rfl, Nat.le_of_ble_eq_true rfl⟩) hS (fun w4 H locs ew4 hI hsz hS => ?_)
          have hp4 : ePic G (msX ms (upX Y2 k ((Y2 k).1, jnD (Y2 k).2 (Y2 cn).2))) d w4 := by rw [ew4]; exact hp2.setX hk hkt ((Y2 k).1, jnD (Y2 k).2 (Y2 cn).2)
          have hf4 : frX ms d w3 w4 := by rw [ew4]; exact frX.st hk hkt _
          refine lv_iinc (v := nI (i + 1)) (lv' := [(1, .int (nI (i + 1))), (2, .ref (mAd ms cn 0)), (0, .ref (mAd ms k 0))]) hx hb d_No_measureInside_54 hl (k := 1) rfl (nI_inc i) (by decide) rfl (fun ls hl => ?_)
          refine lv_goto (tgt := 9) hx hb d_No_measureInside_57 (by decide) ?_
          exact ih ((sCh d k).length - (i + 1)) ((i + 1, upX Y2 k ((Y2 k).1, jnD (Y2 k).2 (Y2 cn).2), w4)) ls H locs (by omega) (⟨by omega, hp4, fun j hj => by rw [upX_ne (fun e => by subst e; omega), g3 j (by omega), h3 j hj], by rw [hstep]; show (upX Y2 k ((Y2 k).1, jnD (Y2 k).2 (Y2 cn).2) k).1 = 0 ∧ exQ _ _ (upX Y2 k ((Y2 k).1, jnD (Y2 k).2 (Y2 cn).2) k).2; rw [upX_eq]; exact ⟨h40, h4q.jn g4q⟩, (h5.tr g5).tr hf4, rfl⟩) (lv_sub hl [0, 2] rfl) hI hS
set_option maxHeartbeats 4000000 in
set_option maxRecDepth 100000 in
theorem m_No_measure (l : Launch) (G : EG) (S0 : Nat) (ms : MS) (d : DS) (dp : Nat → Nat) (htr : tOk d dp) (hv0 : vOk d) (hrd : rdy d (mNx ms) (fun j => mNi ms j 0)) (f : Nat) (hME : ∀ f', f' + 1 = f → MEc l G S0 ms d dp f') : MEc l G S0 ms d dp f := by
  intro w X hp' k hk hkt hk0 hdk
  refine Met.ofW (cc := b_No_measure) (maxL := 1) (ret := none) (by decide) rfl ?_
  intro p e s m args below meth c s₁ B hml hv
  obtain ⟨rfl, hE, hI, hz⟩ := hv
  have hx := B.exec
  have hb := B.bytes
  have hr := B.returns
  have hts := atoms_spec (ws := w_No_measure) B.pre
  have hg : ∀ w ∈ gw, w.before _ s = true := fun w h => hts w (List.mem_cons_of_mem _ h)
  have hown : s.vm.findClass "SceneEasel$Node" = some m.cls := findClass_of_methodNamed B.named
  have hlocks := B.notSynchronized
  have hK := hE.K
  have hS : va_S (hp_A S0) s.heap s.heap [] := va_S.rf
  have hl := lv_entry ([.ref (mAd ms k 0)]) (n := 1) (Nat.le_of_ble_eq_true rfl)
  rw [lg_entry_eq]
  generalize (lg_sl ([.ref (mAd ms k 0)]) ++ List.replicate (1 - (lg_sl ([.ref (mAd ms k 0)])).length) Slot.unset).toArray = ls at hl ⊢
  have hl : lv_has ls 1 [(0, .ref (mAd ms k 0))] := hl
  have hn : w (mAd ms k 0) = some (nC ms d k) := hp'.node hk hkt
  have hex := hp'.ex hk hkt
  have hdp1 : 1 ≤ dp k := by
    obtain ⟨g, -, -, -, -, e5, -⟩ := htr.2.2.2.2.1 k hk hkt hk0
    omega
  have hf4 : f ≤ 4 := by omega
  obtain ⟨hx0, hx1, hs5⟩ := hrd k hk hkt
  refine W.midw (G := G) (S0 := S0) (fun (q : (Nat → X5) × hp_M) => match q with | (Y, z) => ePic G (msX ms Y) d z ∧ (∀ j, dp j < dp k → Y j = X j) ∧ exO (6 + 2 * f) (if sNi d k 0 = 0 then kdB d (bA d (mNx ms) (fun j => mNi ms j 0) f) (sCh d k) else some (spB d f k)) (Y k) ∧ frX ms d w z) (fun (q : (Nat → X5) × hp_M) => match q with | (Y, z) => z) (fun (q : (Nat → X5) × hp_M) => match q with | (Y, z) => [(0, .ref (mAd ms k 0))]) (fun (q : (Nat → X5) × hp_M) => match q with | (Y, z) => 0) (fun (q : (Nat → X5) × hp_M) => match q with | (Y, z) => 0) 1 67 (fun (q : (Nat → X5) × hp_M) => match q with | (Y, z) => []) ?_ (fun J => ?_)
  · rintro ⟨Y, z⟩ ls H locs hP hl hI hS
    try dsimp only at hP hl hI ⊢
    obtain ⟨hpz, h3, h4, h5⟩ := hP
    have hn : z (mAd ms k 0) = some (nC ms d k) := hpz.node hk hkt
    have hex' := hpz.ex hk hkt
    have hbA : bA d (mNx ms) (fun j => mNi ms j 0) (f + 1) k = (if sNi d k 0 = 0 then kdB d (bA d (mNx ms) (fun j => mNi ms j 0) f) (sCh d k) else some (spB d f k)).map (lyB f (fxv 6 (mNx ms k 0)) (fxv 6 (mNx ms k 1)) (tu d k) (mNi ms k 0)) := rfl
    have hib : bO (Qb f * 2 ^ (6 + 2 * f)) (if sNi d k 0 = 0 then kdB d (bA d (mNx ms) (fun j => mNi ms j 0) f) (sCh d k) else some (spB d f k)) := by
      by_cases h : sNi d k 0 = 0
      · rw [if_pos h]
        exact kdB_b _ _ (fun x hx => bA_b htr hv0 hrd f (by omega) x (htr.child hk hkt hx).1 (htr.child hk hkt hx).2.1) (fun q hq => by cases hq)
      · rw [if_neg h]
        intro q hq
        cases hq
        exact (sp_ok (by omega) (hv0 k hk hkt)).2
    generalize (if sNi d k 0 = 0 then kdB d (bA d (mNx ms) (fun j => mNi ms j 0) f) (sCh d k) else some (spB d f k)) = o at h4 hbA hib
    refine lv_aload_n hx hb d_No_measure_67 rfl (lv_at hl 0 rfl) ?_
    refine hp_get (ci := 1) (v := .ref (mAd ms k 3)) (C := R_No) (T := F_No) (N := 20) hx hb hg i_No hown hK hI hn rfl 5 (by decide) (hg _ k_175) (fun _ h9 => h9) rfl d_No_measure_68 ?_
    refine hp_getN (ci := 0) (v := .int (Y k).1) (C := R_Ex) (T := F_Ex) (N := 5) hx hb hg i_Ex hown hK hI hex' rfl 0 (by decide) (hE.N q_131) (fun _ h9 => h9) rfl d_No_measure_71 ?_
    cases o with
    | none =>
      have h4 : (Y k).1 = 1 := h4
      refine lv_if_ne (tgt := 81) hx hb d_No_measure_74 (by decide) (fun c9 => ?_) (fun c9 => absurd c9 ((by rw [h4]; decide)))
      exact W.vret hx hb hr (fun t ht hW => ⟨⟨z, rfl, ⟨Y, hpz, h3, by rw [hbA]; exact h4, h5⟩, eWo ht hI⟩, hS.F ht⟩) hS.2.2 d_No_measure_81
    | some q =>
      obtain ⟨h40, h4q⟩ : (Y k).1 = 0 ∧ exQ (6 + 2 * f) q (Y k).2 := h4
      refine lv_if_ne (tgt := 81) hx hb d_No_measure_74 (by decide) (fun c9 => absurd c9 ((fun h => h h40))) (fun c9 => ?_)
      refine lv_aload_n hx hb d_No_measure_77 rfl (lv_at hl 0 rfl) ?_
      refine ec_v (va_runV (As := []) (rest := []) ⟨hx, hb, hml, hown, hts⟩ (m_No_layOut l G S0 z ms d Y hpz hv0 hrd f hf4 k hk hkt q h40 h4q (hib q rfl)) (cwV 0 hts (gw_V k_727 k_729 k_36 k_61 k_730) rfl rfl rfl (by decide +kernel) ⟨by show 10 + (2) + 1 ≤ 10 + (2 * f + 5); omega, by show 8 + (2 + 11) + (100 + 60 * (2)) ≤ 100 + 60 * (2 * f + 5); omega⟩) (eB.preV hE hI hS hz rfl hn) rfl rfl hl.1 rfl (lv_room (Nat.le_of_ble_eq_true rfl)) d_No_measure_78 ⟨Nat.le_of_ble_eq_true rfl, Nat.le_of_ble_eq_true rfl⟩) hS (fun w2 H locs ew2 hI hsz hS => ?_)
      have hly := ly_ok hf4 h4q (hib q rfl) hx0 hx1 (t := tu d k) (s := mNi ms k 0) hs5
      have hp2 : ePic G (msX ms (upX Y k (0, lyD (mNx ms k 0) (mNx ms k 1) (tu d k) (mNi ms k 0) (Y k).2))) d w2 := by rw [ew2]; exact hpz.setX hk hkt (0, lyD (mNx ms k 0) (mNx ms k 1) (tu d k) (mNi ms k 0) (Y k).2)
      have hf2 : frX ms d z w2 := by rw [ew2]; exact frX.st hk hkt _
      exact W.vret hx hb hr (fun t ht hW => ⟨⟨w2, rfl, ⟨_, hp2, fun j hj => by rw [upX_ne (fun e => by subst e; omega), h3 j hj], by rw [hbA]; show (upX Y k _ k).1 = 0 ∧ exQ _ _ (upX Y k _ k).2; rw [upX_eq]; exact ⟨rfl, hly.1⟩, h5.tr hf2⟩, eWo ht hI⟩, hS.F ht⟩) hS.2.2 d_No_measure_81
  · refine lv_aload_n hx hb d_No_measure_0 rfl (lv_at hl 0 rfl) ?_
    refine hp_get (ci := 1) (v := .int (sNi d k 0)) (C := R_No) (T := F_No) (N := 20) hx hb hg i_No hown hK hI hn rfl 1 (by decide) (hg _ k_168) (fun _ h9 => h9) rfl d_No_measure_1 ?_
    refine lv_if_ne (tgt := 14) hx hb d_No_measure_4 (by decide) (fun c1 => ?_) (fun c1 => ?_)
    · refine lv_aload_n hx hb d_No_measure_14 rfl (lv_at hl 0 rfl) ?_
      refine hp_get (ci := 1) (v := .int (sNi d k 0)) (C := R_No) (T := F_No) (N := 20) hx hb hg i_No hown hK hI hn rfl 1 (by decide) (hg _ k_168) (fun _ h9 => h9) rfl d_No_measure_15 ?_
      refine lv_iconst (v := 2) hx hb d_No_measure_18 (by decide) ?_
      refine lv_icmp_ne (tgt := 50) hx hb d_No_measure_19 (by decide) (fun c2 => ?_) (fun c2 => ?_)
      · refine lv_aload_n hx hb d_No_measure_50 rfl (lv_at hl 0 rfl) ?_
        refine hp_get (ci := 1) (v := .ref (mAd ms k 3)) (C := R_No) (T := F_No) (N := 20) hx hb hg i_No hown hK hI hn rfl 5 (by decide) (hg _ k_175) (fun _ h9 => h9) rfl d_No_measure_51 ?_
        refine lv_dconst0 hx hb d_No_measure_54 ?_
        refine lv_dconst0 hx hb d_No_measure_55 ?_
        refine lv_aload_n hx hb d_No_measure_56 rfl (lv_at hl 0 rfl) ?_
        refine hp_get (ci := 1) (v := .double (sNd d k 0)) (C := R_No) (T := F_No) (N := 20) hx hb hg i_No hown hK hI hn rfl 8 (by decide) (hg _ k_181) (fun _ h9 => h9) rfl d_No_measure_57 ?_
        refine lv_aload_n hx hb d_No_measure_60 rfl (lv_at hl 0 rfl) ?_
        refine hp_get (ci := 1) (v := .double (sNd d k 1)) (C := R_No) (T := F_No) (N := 20) hx hb hg i_No hown hK hI hn rfl 9 (by decide) (hg _ k_183) (fun _ h9 => h9) rfl d_No_measure_61 ?_
        refine ec_v (va_runVN (As := [.double FP.dconst0, .double FP.dconst0, .double (sNd d k 0), .double (sNd d k 1)]) (rest := []) ⟨hx, hb, hml, hown, hts⟩ (m_Ex_span l G S0 w (mAd ms k 3) FP.dconst0 FP.dconst0 (sNd d k 0) (sNd d k 1) hex) ⟨va_cnB 4 hts (gw_code k_726) rfl rfl rfl (hE.Nw q_723) (hg _ k_65) (by decide +kernel) ⟨by show 10 + (0) + 1 ≤ 10 + (2 * f + 5); omega, by show 8 + (9 + 11) + (100 + 60 * (0)) ≤ 100 + 60 * (2 * f + 5); omega⟩, hg _ k_725, hg _ k_35⟩ (eB.preV hE hI hS hz rfl hex) rfl rfl hl.1 rfl (lv_room (Nat.le_of_ble_eq_true rfl)) d_No_measure_64 ⟨Nat.le_of_ble_eq_true rfl, Nat.le_of_ble_eq_true rfl⟩) hS (fun w2 H locs ew2 hI hsz hS => ?_)
        have hsp := sp_ok (f := f) (by omega) (hv0 k hk hkt)
        have esp : spD d k = (FP.dconst0, FP.dconst0, sNd d k 0, sNd d k 1) := if_neg c2
        rw [esp] at hsp
        have hp2 : ePic G (msX ms (upX X k (0, FP.dconst0, FP.dconst0, sNd d k 0, sNd d k 1))) d w2 := by rw [ew2]; exact hp'.setX hk hkt (0, FP.dconst0, FP.dconst0, sNd d k 0, sNd d k 1)
        have hf2 : frX ms d w w2 := by rw [ew2]; exact frX.st hk hkt _
        exact J ((upX X k (0, FP.dconst0, FP.dconst0, sNd d k 0, sNd d k 1), w2)) ls H locs (⟨hp2, fun j hj => upX_ne (fun e => by subst e; omega), by rw [if_neg c1]; show (upX X k _ k).1 = 0 ∧ exQ _ _ (upX X k _ k).2; rw [upX_eq]; exact ⟨rfl, hsp.1⟩, hf2⟩) (lv_sub hl [0] rfl) hI hS
      · refine lv_aload_n hx hb d_No_measure_22 rfl (lv_at hl 0 rfl) ?_
        refine hp_get (ci := 1) (v := .ref (mAd ms k 3)) (C := R_No) (T := F_No) (N := 20) hx hb hg i_No hown hK hI hn rfl 5 (by decide) (hg _ k_175) (fun _ h9 => h9) rfl d_No_measure_23 ?_
        refine lv_aload_n hx hb d_No_measure_26 rfl (lv_at hl 0 rfl) ?_
        refine hp_get (ci := 1) (v := .double (sNd d k 0)) (C := R_No) (T := F_No) (N := 20) hx hb hg i_No hown hK hI hn rfl 8 (by decide) (hg _ k_181) (fun _ h9 => h9) rfl d_No_measure_27 ?_
        refine lv_dneg hx hb d_No_measure_30 ?_
        refine lv_aload_n hx hb d_No_measure_31 rfl (lv_at hl 0 rfl) ?_
        refine hp_get (ci := 1) (v := .double (sNd d k 0)) (C := R_No) (T := F_No) (N := 20) hx hb hg i_No hown hK hI hn rfl 8 (by decide) (hg _ k_181) (fun _ h9 => h9) rfl d_No_measure_32 ?_
        refine lv_dneg hx hb d_No_measure_35 ?_
        refine lv_aload_n hx hb d_No_measure_36 rfl (lv_at hl 0 rfl) ?_
        refine hp_get (ci := 1) (v := .double (sNd d k 0)) (C := R_No) (T := F_No) (N := 20) hx hb hg i_No hown hK hI hn rfl 8 (by decide) (hg _ k_181) (fun _ h9 => h9) rfl d_No_measure_37 ?_
        refine lv_aload_n hx hb d_No_measure_40 rfl (lv_at hl 0 rfl) ?_
        refine hp_get (ci := 1) (v := .double (sNd d k 0)) (C := R_No) (T := F_No) (N := 20) hx hb hg i_No hown hK hI hn rfl 8 (by decide) (hg _ k_181) (fun _ h9 => h9) rfl d_No_measure_41 ?_
        refine ec_v (va_runVN (As := [.double (FP.dneg (sNd d k 0)), .double (FP.dneg (sNd d k 0)), .double (sNd d k 0), .double (sNd d k 0)]) (rest := []) ⟨hx, hb, hml, hown, hts⟩ (m_Ex_span l G S0 w (mAd ms k 3) (FP.dneg (sNd d k 0)) (FP.dneg (sNd d k 0)) (sNd d k 0) (sNd d k 0) hex) ⟨va_cnB 4 hts (gw_code k_726) rfl rfl rfl (hE.Nw q_723) (hg _ k_65) (by decide +kernel) ⟨by show 10 + (0) + 1 ≤ 10 + (2 * f + 5); omega, by show 8 + (9 + 11) + (100 + 60 * (0)) ≤ 100 + 60 * (2 * f + 5); omega⟩, hg _ k_725, hg _ k_35⟩ (eB.preV hE hI hS hz rfl hex) rfl rfl hl.1 rfl (lv_room (Nat.le_of_ble_eq_true rfl)) d_No_measure_44 ⟨Nat.le_of_ble_eq_true rfl, Nat.le_of_ble_eq_true rfl⟩) hS (fun w2 H locs ew2 hI hsz hS => ?_)
        have hsp := sp_ok (f := f) (by omega) (hv0 k hk hkt)
        have esp : spD d k = (FP.dneg (sNd d k 0), FP.dneg (sNd d k 0), sNd d k 0, sNd d k 0) := if_pos c2
        rw [esp] at hsp
        have hp2 : ePic G (msX ms (upX X k (0, FP.dneg (sNd d k 0), FP.dneg (sNd d k 0), sNd d k 0, sNd d k 0))) d w2 := by rw [ew2]; exact hp'.setX hk hkt (0, FP.dneg (sNd d k 0), FP.dneg (sNd d k 0), sNd d k 0, sNd d k 0)
        have hf2 : frX ms d w w2 := by rw [ew2]; exact frX.st hk hkt _
        refine lv_goto (tgt := 67) hx hb d_No_measure_47 (by decide) ?_
        exact J ((upX X k (0, FP.dneg (sNd d k 0), FP.dneg (sNd d k 0), sNd d k 0, sNd d k 0), w2)) ls H locs (⟨hp2, fun j hj => upX_ne (fun e => by subst e; omega), by rw [if_neg c1]; show (upX X k _ k).1 = 0 ∧ exQ _ _ (upX X k _ k).2; rw [upX_eq]; exact ⟨rfl, hsp.1⟩, hf2⟩) (lv_sub hl [0] rfl) hI hS
    · refine lv_aload_n hx hb d_No_measure_7 rfl (lv_at hl 0 rfl) ?_
      refine ec_v (va_runV (As := []) (rest := []) ⟨hx, hb, hml, hown, hts⟩ (m_No_measureInside l G S0 ms d dp htr hv0 f hME w X hp' k hk hkt hdk) (cwV 0 hts (gw_V k_722 k_712 k_32 k_61 k_713) rfl rfl rfl (by decide +kernel) ⟨by show 10 + (2 * f + 4) + 1 ≤ 10 + (2 * f + 5); omega, by show 8 + (3 + 11) + (100 + 60 * (2 * f + 4)) ≤ 100 + 60 * (2 * f + 5); omega⟩) (eB.preV hE hI hS hz rfl hn) rfl rfl hl.1 rfl (lv_room (Nat.le_of_ble_eq_true rfl)) d_No_measure_8 ⟨Nat.le_of_ble_eq_true rfl, Nat.le_of_ble_eq_true rfl⟩) hS (fun w2 H locs ew2 hI hsz hS => ?_)
      obtain ⟨Y, g1, g2, g3, g4⟩ := ew2
      refine lv_goto (tgt := 67) hx hb d_No_measure_11 (by decide) ?_
      exact J ((Y, w2)) ls H locs (⟨g1, g2, by rw [if_pos c1]; exact g3, g4⟩) (lv_sub hl [0] rfl) hI hS
theorem ME_all (l : Launch) (G : EG) (S0 : Nat) (ms : MS) (d : DS) (dp : Nat → Nat) (htr : tOk d dp) (hv0 : vOk d) (hrd : rdy d (mNx ms) (fun j => mNi ms j 0)) : ∀ f, MEc l G S0 ms d dp f
  | 0 => m_No_measure l G S0 ms d dp htr hv0 hrd 0 (fun f' h => by omega)
  | f + 1 => m_No_measure l G S0 ms d dp htr hv0 hrd (f + 1) (fun f' h => by
      have e : f' = f := by omega
      subst e
      exact ME_all l G S0 ms d dp htr hv0 hrd f')

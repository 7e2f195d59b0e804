/-! ArrayList: add, remove -/
theorem hp_over {w : hp_M} {a b : Nat} {x y z : va_E} (h : a ≠ b) : hp_set (hp_set (hp_set w a x) b y) a z = hp_set (hp_set w b y) a z := by
  rw [hp_set_comm h, hp_set_set]
theorem hp_4 {w : hp_M} {a b : Nat} {x y z t : va_E} (h : a ≠ b) : hp_set (hp_set (hp_set (hp_set w a x) b y) a z) b t = hp_set (hp_set w b t) a z := by
  rw [hp_over h, hp_set_comm h, hp_set_set]
/-- what an add leaves -/
def adR (G : EG) (S0 : Nat) (w : hp_M) (a ea cap n : Nat) (f : Nat → Option Nat) (mc : Int32) (x : Nat) (z : hp_M) : Prop := ∃ ea' cap', z = hp_set (hp_set w ea' (aO G cap' (va_up f n (some x)))) a (oAl (mc + 1) ea' (n + 1)) ∧ ((ea' = ea ∧ cap' = cap ∧ cap ≠ 0) ∨ (w ea' = none ∧ S0 ≤ ea')) ∧ n + 1 ≤ cap' ∧ (cap' = 10 ∨ cap' = 15)
theorem cpy_10 {f : Nat → Option Nat} (h : ∀ j, 10 ≤ j → f j = none) : va_cpy f (fun _ => none) 0 0 10 = f := by
  funext j
  unfold va_cpy
  by_cases hj : 0 ≤ j ∧ j < 0 + 10
  · rw [if_pos hj]; congr 1; omega
  · rw [if_neg hj]; exact (h j (by omega)).symm
set_option maxHeartbeats 4000000 in
set_option maxRecDepth 100000 in
theorem m_Al_add_a (l : Launch) (G : EG) (S0 : Nat) (w : hp_M) (a x : Nat) (f : Nat → Option Nat) {mc : Int32} {fs : List Value} (ha : w a = some (oAl mc (eO G) 0)) (hf : ∀ j, 0 ≤ j → f j = none) (hel : ∀ i y, f i = some y → ∃ fs, w y = some (.inr (1, fs))) (hx0 : w x = some (.inr (1, fs))) : Met l y_Al_add1 w_Al_add1 (rl 6 1 15) (eP G S0 w [.ref a, .ref x]) (va_Qi (fun r z => r = 1 ∧ adR G S0 w a (eO G) 0 0 f mc x z) (eW G S0) (hp_A S0)) 1 15 (hp_A S0) := by
  have ha0 := ha
  have ha0 := ha
  refine Met.ofW (cc := b_Al_add1) (maxL := 2) (ret := (some .boolean)) (by decide) rfl ?_
  intro p e s m args below meth c s₁ B hml hv
  obtain ⟨rfl, hE, hI, hz⟩ := hv
  have hx := B.exec
  have hb := B.bytes
  have hr := B.returns
  have hts := atoms_spec (ws := w_Al_add1) B.pre
  have hg : ∀ w ∈ gw, w.before _ s = true := fun w h => hts w (List.mem_cons_of_mem _ h)
  have hown : s.vm.findClass "java/util/ArrayList" = some m.cls := findClass_of_methodNamed B.named
  have hlocks := B.notSynchronized
  have hK := hE.K
  have hS : va_S (hp_A S0) s.heap s.heap [] := va_S.rf
  have hl := lv_entry ([.ref a, .ref x]) (n := 2) (Nat.le_of_ble_eq_true rfl)
  rw [lg_entry_eq]
  generalize (lg_sl ([.ref a, .ref x]) ++ List.replicate (2 - (lg_sl ([.ref a, .ref x])).length) Slot.unset).toArray = ls at hl ⊢
  have hl : lv_has ls 2 [(0, .ref a), (1, .ref x)] := hl
  have hnxa : x ≠ a := hp_ne_c (by decide) hx0 ha
  refine lv_aload_n hx hb d_Al_add1_0 rfl (lv_at hl 0 rfl) ?_
  refine lv_dup hx hb d_Al_add1_1 rfl ?_
  refine hp_get (ci := 4) (v := .int mc) (C := R_Al) (T := F_Al) (N := 3) hx hb hg i_Al hown hK hI ha rfl 0 (by decide) (hg _ k_112) (fun x9 h9 => u_same (hg _ k_same) x9 h9) rfl d_Al_add1_2 ?_
  refine lv_iconst (v := 1) hx hb d_Al_add1_5 (by decide) ?_
  refine lv_iadd hx hb d_Al_add1_6 ?_
  refine hp_putC (ci := 4) (v := .int (mc + 1)) (ty := .int) (C := R_Al) (T := F_Al) (N := 3) hx hb hg i_Al t_Al t_Al_ok n_Al hown hK hI hS ha rfl 0 (by decide) (hg _ k_112) (fun x9 h9 => u_same (hg _ k_same) x9 h9) rfl (by decide +kernel) rfl rfl (Nat.le_of_ble_eq_true rfl) d_Al_add1_7 (fun H locs hI hS hsz => ?_)
  obtain ⟨w_1, ew_1⟩ : ∃ z9, z9 = hp_set w a (.inr (4, [.int (mc + 1), .ref (eO G), .int (nI 0)])) := ⟨_, rfl⟩
  have hI : eI G S0 w_1 H := by rw [ew_1]; exact hI
  have ha : w_1 a = some (.inr (4, [.int (mc + 1), .ref (eO G), .int (nI 0)])) := by rw [ew_1]; exact hp_set_eq _ _ _
  have hx1 : w_1 x = some (.inr (1, fs)) := by rw [ew_1, hp_set_ne hnxa]; exact hx0
  have hel1 : ∀ i y, f i = some y → ∃ fs, w_1 y = some (.inr (1, fs)) := fun i y hy => by
    obtain ⟨fs, hfs⟩ := hel i y hy
    refine ⟨fs, ?_⟩
    rw [ew_1, hp_set_ne (fun e => ?_)]
    · exact hfs
    · subst e
      rw [ha0] at hfs
      cases hfs
  refine lv_aload_n hx hb d_Al_add1_10 rfl (lv_at hl 0 rfl) ?_
  refine lv_aload_n hx hb d_Al_add1_11 rfl (lv_at hl 1 rfl) ?_
  refine lv_aload_n hx hb d_Al_add1_12 rfl (lv_at hl 0 rfl) ?_
  refine hp_get (ci := 4) (v := .ref (eO G)) (C := R_Al) (T := F_Al) (N := 3) hx hb hg i_Al hown hK hI ha rfl 1 (by decide) (hg _ k_109) (fun _ h9 => h9) rfl d_Al_add1_13 ?_
  refine lv_aload_n hx hb d_Al_add1_16 rfl (lv_at hl 0 rfl) ?_
  refine hp_get (ci := 4) (v := .int (nI 0)) (C := R_Al) (T := F_Al) (N := 3) hx hb hg i_Al hown hK hI ha rfl 2 (by decide) (hg _ k_110) (fun _ h9 => h9) rfl d_Al_add1_17 ?_
  refine ec_v (va_runV (As := [.ref x, .ref (eO G), .int (nI 0)]) (rest := []) ⟨hx, hb, hml, hown, hts⟩ (m_Al_add2_0 l G S0 w_1 a x ha hx1) (cwV 3 hts (gw_V k_406 k_408 k_11 k_64 k_409) rfl rfl rfl (by decide +kernel) ⟨Nat.le_of_ble_eq_true rfl, Nat.le_of_ble_eq_true rfl⟩) (eB.preV hE hI hS hz rfl ha) rfl rfl hl.1 rfl (lv_room (Nat.le_of_ble_eq_true rfl)) d_Al_add1_20 ⟨Nat.le_of_ble_eq_true rfl, Nat.le_of_ble_eq_true rfl⟩) hS (fun w2 H locs ew2 hI hsz hS => ?_)
  obtain ⟨q, h1, h2, h3⟩ := ew2
  have hnaq : a ≠ q := hp_ne_n ha h1
  have hqw : w q = none := by rw [ew_1, hp_set_ne (Ne.symm hnaq)] at h1; exact h1
  refine lv_iconst (v := 1) hx hb d_Al_add1_23 (by decide) ?_
  exact W.zret (v := 1) hx hb hr rfl (fun t ht hW => ⟨⟨1, w2, rfl, ⟨rfl, q, 10, by rw [h3, ew_1, hp_over hnaq, show f = fun _ => none from funext fun j => hf j (Nat.zero_le j)], Or.inr ⟨hqw, h2⟩, by decide, Or.inl rfl⟩, eWo ht hI⟩, hS.F ht⟩) hS.2.2 d_Al_add1_24
set_option maxHeartbeats 4000000 in
set_option maxRecDepth 100000 in
theorem m_Al_add_b (l : Launch) (G : EG) (S0 : Nat) (w : hp_M) (a x ea n cap : Nat) (f : Nat → Option Nat) {mc : Int32} {fs : List Value} (ha : w a = some (oAl mc ea n)) (he : w ea = some (aO G cap f)) (hlt : n < cap) (hcap : cap = 10 ∨ cap = 15) (hf : ∀ j, n ≤ j → f j = none) (hel : ∀ i y, f i = some y → ∃ fs, w y = some (.inr (1, fs))) (hx0 : w x = some (.inr (1, fs))) : Met l y_Al_add1 w_Al_add1 (rl 6 1 15) (eP G S0 w [.ref a, .ref x]) (va_Qi (fun r z => r = 1 ∧ adR G S0 w a ea cap n f mc x z) (eW G S0) (hp_A S0)) 1 15 (hp_A S0) := by
  have ha0 := ha
  have ha0 := ha
  refine Met.ofW (cc := b_Al_add1) (maxL := 2) (ret := (some .boolean)) (by decide) rfl ?_
  intro p e s m args below meth c s₁ B hml hv
  obtain ⟨rfl, hE, hI, hz⟩ := hv
  have hx := B.exec
  have hb := B.bytes
  have hr := B.returns
  have hts := atoms_spec (ws := w_Al_add1) B.pre
  have hg : ∀ w ∈ gw, w.before _ s = true := fun w h => hts w (List.mem_cons_of_mem _ h)
  have hown : s.vm.findClass "java/util/ArrayList" = some m.cls := findClass_of_methodNamed B.named
  have hlocks := B.notSynchronized
  have hK := hE.K
  have hS : va_S (hp_A S0) s.heap s.heap [] := va_S.rf
  have hl := lv_entry ([.ref a, .ref x]) (n := 2) (Nat.le_of_ble_eq_true rfl)
  rw [lg_entry_eq]
  generalize (lg_sl ([.ref a, .ref x]) ++ List.replicate (2 - (lg_sl ([.ref a, .ref x])).length) Slot.unset).toArray = ls at hl ⊢
  have hl : lv_has ls 2 [(0, .ref a), (1, .ref x)] := hl
  have hnxa : x ≠ a := hp_ne_c (by decide) hx0 ha
  refine lv_aload_n hx hb d_Al_add1_0 rfl (lv_at hl 0 rfl) ?_
  refine lv_dup hx hb d_Al_add1_1 rfl ?_
  refine hp_get (ci := 4) (v := .int mc) (C := R_Al) (T := F_Al) (N := 3) hx hb hg i_Al hown hK hI ha rfl 0 (by decide) (hg _ k_112) (fun x9 h9 => u_same (hg _ k_same) x9 h9) rfl d_Al_add1_2 ?_
  refine lv_iconst (v := 1) hx hb d_Al_add1_5 (by decide) ?_
  refine lv_iadd hx hb d_Al_add1_6 ?_
  refine hp_putC (ci := 4) (v := .int (mc + 1)) (ty := .int) (C := R_Al) (T := F_Al) (N := 3) hx hb hg i_Al t_Al t_Al_ok n_Al hown hK hI hS ha rfl 0 (by decide) (hg _ k_112) (fun x9 h9 => u_same (hg _ k_same) x9 h9) rfl (by decide +kernel) rfl rfl (Nat.le_of_ble_eq_true rfl) d_Al_add1_7 (fun H locs hI hS hsz => ?_)
  obtain ⟨w_1, ew_1⟩ : ∃ z9, z9 = hp_set w a (.inr (4, [.int (mc + 1), .ref ea, .int (nI n)])) := ⟨_, rfl⟩
  have hI : eI G S0 w_1 H := by rw [ew_1]; exact hI
  have ha : w_1 a = some (.inr (4, [.int (mc + 1), .ref ea, .int (nI n)])) := by rw [ew_1]; exact hp_set_eq _ _ _
  have hx1 : w_1 x = some (.inr (1, fs)) := by rw [ew_1, hp_set_ne hnxa]; exact hx0
  have hel1 : ∀ i y, f i = some y → ∃ fs, w_1 y = some (.inr (1, fs)) := fun i y hy => by
    obtain ⟨fs, hfs⟩ := hel i y hy
    refine ⟨fs, ?_⟩
    rw [ew_1, hp_set_ne (fun e => ?_)]
    · exact hfs
    · subst e
      rw [ha0] at hfs
      cases hfs
  have hae : a ≠ ea := hp_ne_oa ha0 he
  have he1 : w_1 ea = some (aO G cap f) := by rw [ew_1, hp_set_ne (Ne.symm hae)]; exact he
  refine lv_aload_n hx hb d_Al_add1_10 rfl (lv_at hl 0 rfl) ?_
  refine lv_aload_n hx hb d_Al_add1_11 rfl (lv_at hl 1 rfl) ?_
  refine lv_aload_n hx hb d_Al_add1_12 rfl (lv_at hl 0 rfl) ?_
  refine hp_get (ci := 4) (v := .ref ea) (C := R_Al) (T := F_Al) (N := 3) hx hb hg i_Al hown hK hI ha rfl 1 (by decide) (hg _ k_109) (fun _ h9 => h9) rfl d_Al_add1_13 ?_
  refine lv_aload_n hx hb d_Al_add1_16 rfl (lv_at hl 0 rfl) ?_
  refine hp_get (ci := 4) (v := .int (nI n)) (C := R_Al) (T := F_Al) (N := 3) hx hb hg i_Al hown hK hI ha rfl 2 (by decide) (hg _ k_110) (fun _ h9 => h9) rfl d_Al_add1_17 ?_
  refine ec_v (va_runV (As := [.ref x, .ref ea, .int (nI n)]) (rest := []) ⟨hx, hb, hml, hown, hts⟩ (m_Al_add2_1 l G S0 w_1 a x ea n cap f hlt (by omega) ha he1 hx1) (cwV 3 hts (gw_V k_406 k_408 k_11 k_64 k_409) rfl rfl rfl (by decide +kernel) ⟨Nat.le_of_ble_eq_true rfl, Nat.le_of_ble_eq_true rfl⟩) (eB.preV hE hI hS hz rfl ha) rfl rfl hl.1 rfl (lv_room (Nat.le_of_ble_eq_true rfl)) d_Al_add1_20 ⟨Nat.le_of_ble_eq_true rfl, Nat.le_of_ble_eq_true rfl⟩) hS (fun w2 H locs ew2 hI hsz hS => ?_)
  refine lv_iconst (v := 1) hx hb d_Al_add1_23 (by decide) ?_
  exact W.zret (v := 1) hx hb hr rfl (fun t ht hW => ⟨⟨1, w2, rfl, ⟨rfl, ea, cap, by rw [ew2, ew_1, hp_over hae], Or.inl ⟨rfl, rfl, by omega⟩, by omega, by omega⟩, eWo ht hI⟩, hS.F ht⟩) hS.2.2 d_Al_add1_24
set_option maxHeartbeats 4000000 in
set_option maxRecDepth 100000 in
theorem m_Al_add_c (l : Launch) (G : EG) (S0 : Nat) (w : hp_M) (a x ea : Nat) (f : Nat → Option Nat) {mc : Int32} {fs : List Value} (ha : w a = some (oAl mc ea 10)) (he : w ea = some (aO G 10 f)) (hf : ∀ j, 10 ≤ j → f j = none) (hel : ∀ i y, f i = some y → ∃ fs, w y = some (.inr (1, fs))) (hx0 : w x = some (.inr (1, fs))) : Met l y_Al_add1 w_Al_add1 (rl 6 1 15) (eP G S0 w [.ref a, .ref x]) (va_Qi (fun r z => r = 1 ∧ adR G S0 w a ea 10 10 f mc x z) (eW G S0) (hp_A S0)) 1 15 (hp_A S0) := by
  have ha0 := ha
  have ha0 := ha
  refine Met.ofW (cc := b_Al_add1) (maxL := 2) (ret := (some .boolean)) (by decide) rfl ?_
  intro p e s m args below meth c s₁ B hml hv
  obtain ⟨rfl, hE, hI, hz⟩ := hv
  have hx := B.exec
  have hb := B.bytes
  have hr := B.returns
  have hts := atoms_spec (ws := w_Al_add1) B.pre
  have hg : ∀ w ∈ gw, w.before _ s = true := fun w h => hts w (List.mem_cons_of_mem _ h)
  have hown : s.vm.findClass "java/util/ArrayList" = some m.cls := findClass_of_methodNamed B.named
  have hlocks := B.notSynchronized
  have hK := hE.K
  have hS : va_S (hp_A S0) s.heap s.heap [] := va_S.rf
  have hl := lv_entry ([.ref a, .ref x]) (n := 2) (Nat.le_of_ble_eq_true rfl)
  rw [lg_entry_eq]
  generalize (lg_sl ([.ref a, .ref x]) ++ List.replicate (2 - (lg_sl ([.ref a, .ref x])).length) Slot.unset).toArray = ls at hl ⊢
  have hl : lv_has ls 2 [(0, .ref a), (1, .ref x)] := hl
  have hnxa : x ≠ a := hp_ne_c (by decide) hx0 ha
  refine lv_aload_n hx hb d_Al_add1_0 rfl (lv_at hl 0 rfl) ?_
  refine lv_dup hx hb d_Al_add1_1 rfl ?_
  refine hp_get (ci := 4) (v := .int mc) (C := R_Al) (T := F_Al) (N := 3) hx hb hg i_Al hown hK hI ha rfl 0 (by decide) (hg _ k_112) (fun x9 h9 => u_same (hg _ k_same) x9 h9) rfl d_Al_add1_2 ?_
  refine lv_iconst (v := 1) hx hb d_Al_add1_5 (by decide) ?_
  refine lv_iadd hx hb d_Al_add1_6 ?_
  refine hp_putC (ci := 4) (v := .int (mc + 1)) (ty := .int) (C := R_Al) (T := F_Al) (N := 3) hx hb hg i_Al t_Al t_Al_ok n_Al hown hK hI hS ha rfl 0 (by decide) (hg _ k_112) (fun x9 h9 => u_same (hg _ k_same) x9 h9) rfl (by decide +kernel) rfl rfl (Nat.le_of_ble_eq_true rfl) d_Al_add1_7 (fun H locs hI hS hsz => ?_)
  obtain ⟨w_1, ew_1⟩ : ∃ z9, z9 = hp_set w a (.inr (4, [.int (mc + 1), .ref ea, .int (nI 10)])) := ⟨_, rfl⟩
  have hI : eI G S0 w_1 H := by rw [ew_1]; exact hI
  have ha : w_1 a = some (.inr (4, [.int (mc + 1), .ref ea, .int (nI 10)])) := by rw [ew_1]; exact hp_set_eq _ _ _
  have hx1 : w_1 x = some (.inr (1, fs)) := by rw [ew_1, hp_set_ne hnxa]; exact hx0
  have hel1 : ∀ i y, f i = some y → ∃ fs, w_1 y = some (.inr (1, fs)) := fun i y hy => by
    obtain ⟨fs, hfs⟩ := hel i y hy
    refine ⟨fs, ?_⟩
    rw [ew_1, hp_set_ne (fun e => ?_)]
    · exact hfs
    · subst e
      rw [ha0] at hfs
      cases hfs
  have hae : a ≠ ea := hp_ne_oa ha0 he
  have he1 : w_1 ea = some (aO G 10 f) := by rw [ew_1, hp_set_ne (Ne.symm hae)]; exact he
  refine lv_aload_n hx hb d_Al_add1_10 rfl (lv_at hl 0 rfl) ?_
  refine lv_aload_n hx hb d_Al_add1_11 rfl (lv_at hl 1 rfl) ?_
  refine lv_aload_n hx hb d_Al_add1_12 rfl (lv_at hl 0 rfl) ?_
  refine hp_get (ci := 4) (v := .ref ea) (C := R_Al) (T := F_Al) (N := 3) hx hb hg i_Al hown hK hI ha rfl 1 (by decide) (hg _ k_109) (fun _ h9 => h9) rfl d_Al_add1_13 ?_
  refine lv_aload_n hx hb d_Al_add1_16 rfl (lv_at hl 0 rfl) ?_
  refine hp_get (ci := 4) (v := .int (nI 10)) (C := R_Al) (T := F_Al) (N := 3) hx hb hg i_Al hown hK hI ha rfl 2 (by decide) (hg _ k_110) (fun _ h9 => h9) rfl d_Al_add1_17 ?_
  refine ec_v (va_runV (As := [.ref x, .ref ea, .int (nI 10)]) (rest := []) ⟨hx, hb, hml, hown, hts⟩ (m_Al_add2_2 l G S0 w_1 a x ea f hel1 ha he1 hx1) (cwV 3 hts (gw_V k_406 k_408 k_11 k_64 k_409) rfl rfl rfl (by decide +kernel) ⟨Nat.le_of_ble_eq_true rfl, Nat.le_of_ble_eq_true rfl⟩) (eB.preV hE hI hS hz rfl ha) rfl rfl hl.1 rfl (lv_room (Nat.le_of_ble_eq_true rfl)) d_Al_add1_20 ⟨Nat.le_of_ble_eq_true rfl, Nat.le_of_ble_eq_true rfl⟩) hS (fun w2 H locs ew2 hI hsz hS => ?_)
  obtain ⟨q, h1, h2, h3⟩ := ew2
  have hnaq : a ≠ q := hp_ne_n ha h1
  have hqw : w q = none := by rw [ew_1, hp_set_ne (Ne.symm hnaq)] at h1; exact h1
  refine lv_iconst (v := 1) hx hb d_Al_add1_23 (by decide) ?_
  exact W.zret (v := 1) hx hb hr rfl (fun t ht hW => ⟨⟨1, w2, rfl, ⟨rfl, q, 15, by rw [h3, ew_1, hp_over hnaq, cpy_10 hf], Or.inr ⟨hqw, h2⟩, by decide, Or.inr rfl⟩, eWo ht hI⟩, hS.F ht⟩) hS.2.2 d_Al_add1_24
theorem m_Al_add (l : Launch) (G : EG) (S0 : Nat) (w : hp_M) (a x ea n cap : Nat) (f : Nat → Option Nat) {mc : Int32} {fs : List Value} (ha : w a = some (oAl mc ea n)) (hcap : cap = 0 ∨ cap = 10 ∨ cap = 15) (hn : n ≤ cap) (hn13 : n ≤ 13) (he0 : cap = 0 → ea = eO G) (he : cap ≠ 0 → w ea = some (aO G cap f)) (hf : ∀ j, n ≤ j → f j = none) (hel : ∀ i y, f i = some y → ∃ fs, w y = some (.inr (1, fs))) (hx0 : w x = some (.inr (1, fs))) : Met l y_Al_add1 w_Al_add1 (rl 6 1 15) (eP G S0 w [.ref a, .ref x]) (va_Qi (fun r z => r = 1 ∧ adR G S0 w a ea cap n f mc x z) (eW G S0) (hp_A S0)) 1 15 (hp_A S0) := by
  by_cases hc0 : cap = 0
  · have hea := he0 hc0
    have hn0 : n = 0 := by omega
    subst hn0
    subst hea
    subst hc0
    exact m_Al_add_a l G S0 w a x f ha hf hel hx0
  · by_cases hlt : n < cap
    · exact m_Al_add_b l G S0 w a x ea n cap f ha (he hc0) hlt (by omega) hf hel hx0
    · obtain ⟨e1, e2⟩ : n = 10 ∧ cap = 10 := by omega
      subst e1
      subst e2
      exact m_Al_add_c l G S0 w a x ea f ha (he (by decide)) hf hel hx0
/-- an element taken out -/
def rmF (f : Nat → Option Nat) (i n : Nat) : Nat → Option Nat := fun j => if j < i then f j else if j + 1 < n then f (j + 1) else none
theorem rm_last {f : Nat → Option Nat} {n : Nat} (hn : 1 ≤ n) (hf : ∀ j, n ≤ j → f j = none) : va_up f (n - 1) none = rmF f (n - 1) n := by
  funext j
  unfold va_up rmF
  by_cases h : j = n - 1
  · subst h; rw [if_pos rfl, if_neg (by omega), if_neg (by omega)]
  · rw [if_neg h]
    by_cases h2 : j < n - 1
    · rw [if_pos h2]
    · rw [if_neg h2, if_neg (by omega)]; exact hf j (by omega)
theorem rm_mid {f : Nat → Option Nat} {i n : Nat} (hi : i + 1 < n) (hf : ∀ j, n ≤ j → f j = none) : va_up (va_cpy f f (i + 1) i (n - 1 - i)) (n - 1) none = rmF f i n := by
  funext j
  unfold va_up va_cpy rmF
  by_cases h : j = n - 1
  · subst h; rw [if_pos rfl, if_neg (by omega), if_neg (by omega)]
  · rw [if_neg h]
    by_cases h2 : j < i
    · rw [if_neg (by omega), if_pos h2]
    · rw [if_neg h2]
      by_cases h3 : j + 1 < n
      · rw [if_pos (by omega), if_pos h3]; congr 1; omega
      · rw [if_neg (by omega), if_neg h3]; exact hf j (by omega)
set_option maxHeartbeats 4000000 in
set_option maxRecDepth 100000 in
theorem m_Al_fastRemove (l : Launch) (G : EG) (S0 : Nat) (w : hp_M) (a ea n i cap : Nat) (f : Nat → Option Nat) {mc : Int32} (ha : w a = some (oAl mc ea n)) (he : w ea = some (aO G cap f)) (hi : i < n) (hn : n ≤ cap) (hc : cap < 2 ^ 31) (hf : ∀ j, n ≤ j → f j = none) (hel : ∀ i y, f i = some y → ∃ fs, w y = some (.inr (1, fs))) : Met l y_Al_fastRemove w_Al_fastRemove (rl 0 0 0) (eP G S0 w [.ref a, .ref ea, .int (nI i)]) (va_Qv (fun z => z = hp_set (hp_set w ea (aO G cap (rmF f i n))) a (oAl (mc + 1) ea (n - 1))) (eW G S0) (hp_A S0)) 0 0 (hp_A S0) := by
  have ha0 := ha
  refine Met.ofW (cc := b_Al_fastRemove) (maxL := 4) (ret := none) (by decide) rfl ?_
  intro p e s m args below meth c s₁ B hml hv
  obtain ⟨rfl, hE, hI, hz⟩ := hv
  have hx := B.exec
  have hb := B.bytes
  have hr := B.returns
  have hts := atoms_spec (ws := w_Al_fastRemove) B.pre
  have hg : ∀ w ∈ gw, w.before _ s = true := fun w h => hts w (List.mem_cons_of_mem _ h)
  have hown : s.vm.findClass "java/util/ArrayList" = some m.cls := findClass_of_methodNamed B.named
  have hlocks := B.notSynchronized
  have hK := hE.K
  have hS : va_S (hp_A S0) s.heap s.heap [] := va_S.rf
  have hl := lv_entry ([.ref a, .ref ea, .int (nI i)]) (n := 4) (Nat.le_of_ble_eq_true rfl)
  rw [lg_entry_eq]
  generalize (lg_sl ([.ref a, .ref ea, .int (nI i)]) ++ List.replicate (4 - (lg_sl ([.ref a, .ref ea, .int (nI i)])).length) Slot.unset).toArray = ls at hl ⊢
  have hl : lv_has ls 4 [(0, .ref a), (1, .ref ea), (2, .int (nI i))] := hl
  have hae : a ≠ ea := hp_ne_oa ha he
  refine lv_aload_n hx hb d_Al_fastRemove_0 rfl (lv_at hl 0 rfl) ?_
  refine lv_dup hx hb d_Al_fastRemove_1 rfl ?_
  refine hp_get (ci := 4) (v := .int mc) (C := R_Al) (T := F_Al) (N := 3) hx hb hg i_Al hown hK hI ha rfl 0 (by decide) (hg _ k_112) (fun x9 h9 => u_same (hg _ k_same) x9 h9) rfl d_Al_fastRemove_2 ?_
  refine lv_iconst (v := 1) hx hb d_Al_fastRemove_5 (by decide) ?_
  refine lv_iadd hx hb d_Al_fastRemove_6 ?_
  refine hp_putC (ci := 4) (v := .int (mc + 1)) (ty := .int) (C := R_Al) (T := F_Al) (N := 3) hx hb hg i_Al t_Al t_Al_ok n_Al hown hK hI hS ha rfl 0 (by decide) (hg _ k_112) (fun x9 h9 => u_same (hg _ k_same) x9 h9) rfl (by decide +kernel) rfl rfl (Nat.le_of_ble_eq_true rfl) d_Al_fastRemove_7 (fun H locs hI hS hsz => ?_)
  obtain ⟨w_1, ew_1⟩ : ∃ z9, z9 = hp_set w a (.inr (4, [.int (mc + 1), .ref ea, .int (nI n)])) := ⟨_, rfl⟩
  have hI : eI G S0 w_1 H := by rw [ew_1]; exact hI
  have he : w_1 ea = some (.inl (G.2.2.1 6, cap, .inr (.inr (.inr (.inr f))))) := by rw [ew_1, hp_set_ne (hp_ne_ao he ha)]; exact he
  have ha : w_1 a = some (.inr (4, [.int (mc + 1), .ref ea, .int (nI n)])) := by rw [ew_1]; exact hp_set_eq _ _ _
  have hel1 : ∀ i y, f i = some y → ∃ fs, w_1 y = some (.inr (1, fs)) := fun i y hy => by
    obtain ⟨fs, hfs⟩ := hel i y hy
    refine ⟨fs, ?_⟩
    rw [ew_1, hp_set_ne (fun e => ?_)]
    · exact hfs
    · subst e
      rw [ha0] at hfs
      cases hfs
  refine lv_aload_n hx hb d_Al_fastRemove_10 rfl (lv_at hl 0 rfl) ?_
  refine hp_get (ci := 4) (v := .int (nI n)) (C := R_Al) (T := F_Al) (N := 3) hx hb hg i_Al hown hK hI ha rfl 2 (by decide) (hg _ k_110) (fun _ h9 => h9) rfl d_Al_fastRemove_11 ?_
  refine lv_iconst (v := 1) hx hb d_Al_fastRemove_14 (by decide) ?_
  refine lv_isub hx hb d_Al_fastRemove_15 ?_
  rw [nI_sub1 (show 1 ≤ n by omega)]
  refine lv_dup hx hb d_Al_fastRemove_16 rfl ?_
  refine lv_istore_n (lv' := [(3, .int (nI (n - 1))), (0, .ref a), (1, .ref ea), (2, .int (nI i))]) hx hb d_Al_fastRemove_17 rfl hl (by decide) rfl (fun ls hl => ?_)
  refine lv_iload_n hx hb d_Al_fastRemove_18 rfl (lv_at hl 3 rfl) ?_
  refine W.midw (G := G) (S0 := S0) (fun (q : (Nat → Option Nat) × hp_M) => match q with | (g, z) => z = hp_set w_1 ea (aO G cap g) ∧ va_up g (n - 1) none = rmF f i n) (fun (q : (Nat → Option Nat) × hp_M) => match q with | (g, z) => z) (fun (q : (Nat → Option Nat) × hp_M) => match q with | (g, z) => [(3, .int (nI (n - 1))), (0, .ref a), (1, .ref ea), (2, .int (nI i))]) (fun (q : (Nat → Option Nat) × hp_M) => match q with | (g, z) => 0) (fun (q : (Nat → Option Nat) × hp_M) => match q with | (g, z) => 0) 4 34 (fun (q : (Nat → Option Nat) × hp_M) => match q with | (g, z) => []) ?_ (fun J => ?_)
  · rintro ⟨g, z⟩ ls H locs hP hl hI hS
    try dsimp only at hP hl hI ⊢
    obtain ⟨ez, eg⟩ := hP
    have ha : z a = some (oAl (mc + 1) ea n) := by rw [ez, hp_set_ne hae]; exact ha
    have he : z ea = some (aO G cap g) := by rw [ez]; exact hp_set_eq _ _ _
    refine lv_aload_n hx hb d_Al_fastRemove_34 rfl (lv_at hl 2 rfl) ?_
    refine lv_aload_n hx hb d_Al_fastRemove_35 rfl (lv_at hl 1 rfl) ?_
    refine lv_iload_n hx hb d_Al_fastRemove_36 rfl (lv_at hl 0 rfl) ?_
    refine lv_dup_x1 hx hb d_Al_fastRemove_37 rfl rfl ?_
    refine hp_putC (ci := 4) (v := .int (nI (n - 1))) (ty := .int) (C := R_Al) (T := F_Al) (N := 3) hx hb hg i_Al t_Al t_Al_ok n_Al hown hK hI hS ha rfl 2 (by decide) (hg _ k_110) (fun _ h9 => h9) rfl (by decide +kernel) rfl rfl (Nat.le_of_ble_eq_true rfl) d_Al_fastRemove_38 (fun H locs hI hS hsz => ?_)
    obtain ⟨w_2, ew_2⟩ : ∃ z9, z9 = hp_set z a (.inr (4, [.int (mc + 1), .ref ea, .int (nI (n - 1))])) := ⟨_, rfl⟩
    have hI : eI G S0 w_2 H := by rw [ew_2]; exact hI
    have he : w_2 ea = some (.inl (G.2.2.1 6, cap, .inr (.inr (.inr (.inr g))))) := by rw [ew_2, hp_set_ne (hp_ne_ao he ha)]; exact he
    have ha : w_2 a = some (.inr (4, [.int (mc + 1), .ref ea, .int (nI (n - 1))])) := by rw [ew_2]; exact hp_set_eq _ _ _
    refine lv_null hx hb d_Al_fastRemove_41 ?_
    refine hp_aastN hx hb hK hI hS 6 he rfl (vp_in_nI (by omega) hc) d_Al_fastRemove_42 (fun H locs hI hS hsz => ?_)
    rw [nI_clamp (n := (n - 1)) (by omega)] at hI
    obtain ⟨f_3, ef_3⟩ : ∃ z9, z9 = va_up g (n - 1) none := ⟨_, rfl⟩
    rw [← ef_3] at hI
    obtain ⟨w_4, ew_4⟩ : ∃ z9, z9 = hp_set w_2 ea (.inl (G.2.2.1 6, cap, .inr (.inr (.inr (.inr f_3))))) := ⟨_, rfl⟩
    have hI : eI G S0 w_4 H := by rw [ew_4]; exact hI
    have ha : w_4 a = some (.inr (4, [.int (mc + 1), .ref ea, .int (nI (n - 1))])) := by rw [ew_4, hp_set_ne (hp_ne_oa ha he)]; exact ha
    have he : w_4 ea = some (.inl (G.2.2.1 6, cap, .inr (.inr (.inr (.inr f_3))))) := by rw [ew_4]; exact hp_set_eq _ _ _
    exact W.vret hx hb hr (fun t ht hW => ⟨⟨w_4, rfl, by rw [ew_4, ew_2, ef_3, eg, ez, ew_1, hp_4 hae], eWo ht hI⟩, hS.F ht⟩) hS.2.2 d_Al_fastRemove_43
  · refine lv_icmp_le (tgt := 34) hx hb d_Al_fastRemove_19 (by decide) (fun c1 => ?_) (fun c1 => ?_)
    · have hin : n - 1 ≤ i := (nI_leI (a := n - 1) (b := i) (by omega) (by omega)).mp c1
      exact J ((f, w_1)) ls H locs (⟨(hp_set_self he).symm, by rw [show i = n - 1 by omega]; exact rm_last (by omega) hf⟩) (lv_sub hl [0, 1, 2, 3] rfl) hI hS
    · have hin : i < n - 1 := by
        rcases Nat.lt_or_ge i (n - 1) with q | q
        · exact q
        · exact absurd ((nI_leI (a := n - 1) (b := i) (by omega) (by omega)).mpr q) c1
      refine lv_aload_n hx hb d_Al_fastRemove_22 rfl (lv_at hl 2 rfl) ?_
      refine lv_iload_n hx hb d_Al_fastRemove_23 rfl (lv_at hl 3 rfl) ?_
      refine lv_iconst (v := 1) hx hb d_Al_fastRemove_24 (by decide) ?_
      refine lv_iadd hx hb d_Al_fastRemove_25 ?_
      refine lv_aload_n hx hb d_Al_fastRemove_26 rfl (lv_at hl 2 rfl) ?_
      refine lv_iload_n hx hb d_Al_fastRemove_27 rfl (lv_at hl 3 rfl) ?_
      refine lv_iload_n hx hb d_Al_fastRemove_28 rfl (lv_at hl 0 rfl) ?_
      refine lv_iload_n hx hb d_Al_fastRemove_29 rfl (lv_at hl 3 rfl) ?_
      refine lv_isub hx hb d_Al_fastRemove_30 ?_
      rw [nI_1, pk_sub (show i ≤ n - 1 by omega)]
      refine hp_copyq hx hb (hml.trans hl.1.symm) hown (hg _ k_614) (hg _ k_453) (hg _ k_452) (hg _ k_76) hK hI hS 6 6 1 he he rfl rfl rfl (hE.Nw q_1027) (sp := nI (i + 1)) (dp := nI i) (n := nI (n - 1 - i)) (nI_pos (by omega)) (nI_pos (by omega)) (nI_pos (by omega)) (by rw [nI_clamp (by omega), nI_clamp (by omega)]; omega) (by rw [nI_clamp (by omega), nI_clamp (by omega)]; omega) hel1 (Nat.le_of_ble_eq_true rfl) (Nat.le_of_ble_eq_true rfl) d_Al_fastRemove_31 (fun H locs hI hS hsz => ?_)
      rw [nI_clamp (n := i + 1) (by omega), nI_clamp (n := i) (by omega), nI_clamp (n := n - 1 - i) (by omega)] at hI
      exact J ((va_cpy f f (i + 1) i (n - 1 - i), hp_set w_1 ea (aO G cap (va_cpy f f (i + 1) i (n - 1 - i))))) ls H locs (⟨rfl, rm_mid (by omega) hf⟩) (lv_sub hl [0, 1, 2, 3] rfl) hI hS
set_option maxHeartbeats 4000000 in
set_option maxRecDepth 100000 in
theorem m_Al_remove (l : Launch) (G : EG) (S0 : Nat) (w : hp_M) (a ea n i cap : Nat) (f : Nat → Option Nat) {mc : Int32} (ha : w a = some (oAl mc ea n)) (he : w ea = some (aO G cap f)) (hi : i < n) (hn : n ≤ cap) (hc : cap < 2 ^ 31) (hf : ∀ j, n ≤ j → f j = none) (hel : ∀ i y, f i = some y → ∃ fs, w y = some (.inr (1, fs))) : Met l y_Al_remove w_Al_remove (rl 2 0 0) (eP G S0 w [.ref a, .int (nI i)]) (va_Qo (fun r z => z = hp_set (hp_set w ea (aO G cap (rmF f i n))) a (oAl (mc + 1) ea (n - 1))) (eW G S0) (hp_A S0)) 0 0 (hp_A S0) := by
  refine Met.ofW (cc := b_Al_remove) (maxL := 4) (ret := (some (.object "java/lang/Object"))) (by decide) rfl ?_
  intro p e s m args below meth c s₁ B hml hv
  obtain ⟨rfl, hE, hI, hz⟩ := hv
  have hx := B.exec
  have hb := B.bytes
  have hr := B.returns
  have hts := atoms_spec (ws := w_Al_remove) B.pre
  have hg : ∀ w ∈ gw, w.before _ s = true := fun w h => hts w (List.mem_cons_of_mem _ h)
  have hown : s.vm.findClass "java/util/ArrayList" = some m.cls := findClass_of_methodNamed B.named
  have hlocks := B.notSynchronized
  have hK := hE.K
  have hS : va_S (hp_A S0) s.heap s.heap [] := va_S.rf
  have hl := lv_entry ([.ref a, .int (nI i)]) (n := 4) (Nat.le_of_ble_eq_true rfl)
  rw [lg_entry_eq]
  generalize (lg_sl ([.ref a, .int (nI i)]) ++ List.replicate (4 - (lg_sl ([.ref a, .int (nI i)])).length) Slot.unset).toArray = ls at hl ⊢
  have hl : lv_has ls 4 [(0, .ref a), (1, .int (nI i))] := hl
  refine lv_iload_n hx hb d_Al_remove_0 rfl (lv_at hl 1 rfl) ?_
  refine lv_aload_n hx hb d_Al_remove_1 rfl (lv_at hl 0 rfl) ?_
  refine hp_get (ci := 4) (v := .int (nI n)) (C := R_Al) (T := F_Al) (N := 3) hx hb hg i_Al hown hK hI ha rfl 2 (by decide) (hg _ k_110) (fun _ h9 => h9) rfl d_Al_remove_2 ?_
  refine ec_i (va_runS (As := [.int (nI i), .int (nI n)]) (rest := []) ⟨hx, hb, hml, hown, hts⟩ (m_Ob_checkIndex l G S0 w i n hi (by omega)) (va_cwS 2 hts (gw_SA k_596 k_597 k_78 k_598) rfl rfl rfl (by decide +kernel) ⟨Nat.le_of_ble_eq_true rfl, Nat.le_of_ble_eq_true rfl⟩) (eB.preS hE hI hS hz) rfl rfl hl.1 rfl (lv_room (Nat.le_of_ble_eq_true rfl)) d_Al_remove_5 ⟨Nat.le_of_ble_eq_true rfl, Nat.le_of_ble_eq_true rfl⟩) hS (fun r_2 w_1 H locs ew_1 hI hsz hS => ?_)
  obtain ⟨er_2, ew_1⟩ := ew_1
  have ew_1 := ew_1.symm
  subst ew_1
  refine lv_pop hx hb d_Al_remove_8 rfl ?_
  refine lv_aload_n hx hb d_Al_remove_9 rfl (lv_at hl 0 rfl) ?_
  refine hp_get (ci := 4) (v := .ref ea) (C := R_Al) (T := F_Al) (N := 3) hx hb hg i_Al hown hK hI ha rfl 1 (by decide) (hg _ k_109) (fun _ h9 => h9) rfl d_Al_remove_10 ?_
  refine lv_astore_n (lv' := [(2, .ref ea), (0, .ref a), (1, .int (nI i))]) hx hb d_Al_remove_13 rfl hl (by decide) rfl (fun ls hl => ?_)
  refine lv_aload_n hx hb d_Al_remove_14 rfl (lv_at hl 0 rfl) ?_
  refine lv_iload_n hx hb d_Al_remove_15 rfl (lv_at hl 2 rfl) ?_
  refine hp_aald hx hb hK hI 6 he rfl (vp_in_nI (by omega) hc) d_Al_remove_16 ?_
  rw [nI_clamp (n := i) (by omega)]
  cases ho : f i with
  | none =>
    refine lv_astore_nN (lv' := [(3, .null), (2, .ref ea), (0, .ref a), (1, .int (nI i))]) hx hb d_Al_remove_17 rfl hl (by decide) rfl (fun ls hl => ?_)
    refine lv_aload_n hx hb d_Al_remove_18 rfl (lv_at hl 2 rfl) ?_
    refine lv_aload_n hx hb d_Al_remove_19 rfl (lv_at hl 1 rfl) ?_
    refine lv_iload_n hx hb d_Al_remove_20 rfl (lv_at hl 3 rfl) ?_
    refine ec_v (va_runV (As := [.ref ea, .int (nI i)]) (rest := []) ⟨hx, hb, hml, hown, hts⟩ (m_Al_fastRemove l G S0 w a ea n i cap f ha he hi hn hc hf hel) (cwV 2 hts (gw_V k_610 k_612 k_21 k_64 k_613) rfl rfl rfl (by decide +kernel) ⟨Nat.le_of_ble_eq_true rfl, Nat.le_of_ble_eq_true rfl⟩) (eB.preV hE hI hS hz rfl ha) rfl rfl hl.1 rfl (lv_room (Nat.le_of_ble_eq_true rfl)) d_Al_remove_21 ⟨Nat.le_of_ble_eq_true rfl, Nat.le_of_ble_eq_true rfl⟩) hS (fun w2 H locs ew2 hI hsz hS => ?_)
    refine lv_aload_nN hx hb d_Al_remove_24 rfl (lv_at hl 0 rfl) ?_
    exact W.aret (v := va_rf none) hx hb hr (Or.inl ⟨_, rfl⟩) (Or.inl rfl) (fun t ht hW => ⟨⟨none, w2, rfl, ew2, eWo ht hI⟩, hS.F ht⟩) hS.2.2 d_Al_remove_25
  | some y =>
    refine lv_astore_n (lv' := [(3, .ref y), (2, .ref ea), (0, .ref a), (1, .int (nI i))]) hx hb d_Al_remove_17 rfl hl (by decide) rfl (fun ls hl => ?_)
    refine lv_aload_n hx hb d_Al_remove_18 rfl (lv_at hl 2 rfl) ?_
    refine lv_aload_n hx hb d_Al_remove_19 rfl (lv_at hl 1 rfl) ?_
    refine lv_iload_n hx hb d_Al_remove_20 rfl (lv_at hl 3 rfl) ?_
    refine ec_v (va_runV (As := [.ref ea, .int (nI i)]) (rest := []) ⟨hx, hb, hml, hown, hts⟩ (m_Al_fastRemove l G S0 w a ea n i cap f ha he hi hn hc hf hel) (cwV 2 hts (gw_V k_610 k_612 k_21 k_64 k_613) rfl rfl rfl (by decide +kernel) ⟨Nat.le_of_ble_eq_true rfl, Nat.le_of_ble_eq_true rfl⟩) (eB.preV hE hI hS hz rfl ha) rfl rfl hl.1 rfl (lv_room (Nat.le_of_ble_eq_true rfl)) d_Al_remove_21 ⟨Nat.le_of_ble_eq_true rfl, Nat.le_of_ble_eq_true rfl⟩) hS (fun w2 H locs ew2 hI hsz hS => ?_)
    refine lv_aload_n hx hb d_Al_remove_24 rfl (lv_at hl 0 rfl) ?_
    exact W.aret (v := va_rf (some y)) hx hb hr (Or.inl ⟨_, rfl⟩) (Or.inr ⟨_, rfl⟩) (fun t ht hW => ⟨⟨(some y), w2, rfl, ew2, eWo ht hI⟩, hS.F ht⟩) hS.2.2 d_Al_remove_25

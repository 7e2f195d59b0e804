/-- room made at a place -/
def kSh (f : Nat → UInt64) (k n : Nat) : Nat → UInt64 := fun j => if k < j ∧ j ≤ n then f (j - 1) else f j
theorem kSh_n (f : Nat → UInt64) (n : Nat) : kSh f n n = f := by
  funext j
  unfold kSh
  rw [if_neg (by omega)]
theorem kSh_step (f : Nat → UInt64) {k n : Nat} (h1 : 1 ≤ k) (h2 : k ≤ n) : vf_upd (kSh f k n) k (kSh f k n (k - 1)) = kSh f (k - 1) n := by
  funext j
  unfold vf_upd kSh
  by_cases hj : j = k
  · subst hj
    rw [if_pos rfl, if_neg (by omega), if_pos (by omega)]
  · rw [if_neg hj]
    by_cases h : k < j ∧ j ≤ n
    · rw [if_pos h, if_pos (by omega)]
    · rw [if_neg h, if_neg (by omega)]
set_option maxHeartbeats 4000000 in
set_option maxRecDepth 100000 in
theorem m_Tr_makeRoom (l : Launch) (G : EG) (S0 : Nat) (w : hp_M) (a ta va n i : Nat) (ft fv : Nat → UInt64) (hn : n < 4) (hi : i ≤ n) (htv : ta ≠ va) (ha : w a = some (oTr ta va n)) (ht : w ta = some (aD G 4 ft)) (hv' : w va = some (aD G 4 fv)) : Met l y_Tr_makeRoom w_Tr_makeRoom (rl 0 0 0) (eP G S0 w [.ref a, .int (nI i)]) (va_Qv (fun z => z = hp_set (hp_set (hp_set w ta (aD G 4 (kSh ft i n))) va (aD G 4 (kSh fv i n))) a (oTr ta va (n + 1))) (eW G S0) (hp_A S0)) 0 0 (hp_A S0) := by
  refine Met.ofW (cc := b_Tr_makeRoom) (maxL := 3) (ret := none) (by decide) rfl ?_
  intro p e s m args below meth c s₁ B hml hv
  obtain ⟨rfl, hE, hI, hz⟩ := hv
  have hx := B.exec
  have hb := B.bytes
  have hr := B.returns
  have hts := atoms_spec (ws := w_Tr_makeRoom) B.pre
  have hg : ∀ w ∈ gw, w.before _ s = true := fun w h => hts w (List.mem_cons_of_mem _ h)
  have hown : s.vm.findClass "SceneEasel$Track" = some m.cls := findClass_of_methodNamed B.named
  have hlocks := B.notSynchronized
  have hK := hE.K
  have hS : va_S (hp_A S0) s.heap s.heap [] := va_S.rf
  have hl := lv_entry ([.ref a, .int (nI i)]) (n := 3) (Nat.le_of_ble_eq_true rfl)
  rw [lg_entry_eq]
  generalize (lg_sl ([.ref a, .int (nI i)]) ++ List.replicate (3 - (lg_sl ([.ref a, .int (nI i)])).length) Slot.unset).toArray = ls at hl ⊢
  have hl : lv_has ls 3 [(0, .ref a), (1, .int (nI i))] := hl
  refine lv_aload_n hx hb d_Tr_makeRoom_0 rfl (lv_at hl 0 rfl) ?_
  refine hp_get (ci := 2) (v := .int (nI n)) (C := R_Tr) (T := F_Tr) (N := 3) hx hb hg i_Tr hown hK hI ha rfl 2 (by decide) (hg _ k_155) (fun _ h9 => h9) rfl d_Tr_makeRoom_1 ?_
  refine lv_istore_n (lv' := [(2, .int (nI n)), (0, .ref a), (1, .int (nI i))]) hx hb d_Tr_makeRoom_4 rfl hl (by decide) rfl (fun ls hl => ?_)
  refine W.lp (fun j (q : Nat × Array Slot × Heap × List Loc × hp_M) => i ≤ q.1 ∧ q.1 ≤ n ∧ j = q.1 ∧ lv_has q.2.1 3 [(2, .int (nI q.1)), (0, .ref a), (1, .int (nI i))] ∧ eI G S0 q.2.2.2.2 q.2.2.1 ∧ va_S (hp_A S0) s.heap q.2.2.1 q.2.2.2.1 ∧ q.2.2.2.2 = hp_set (hp_set w ta (aD G 4 (kSh ft q.1 n))) va (aD G 4 (kSh fv q.1 n))) (fun q => q.2.2.1) (fun q => q.2.2.2.1) (fun q => F0 m 5 q.2.1 []) n (n, ls, s.heap, [], w) ⟨hi, Nat.le_refl n, rfl, hl, hI, hS, by show w = hp_set (hp_set w ta (aD G 4 (kSh ft n n))) va (aD G 4 (kSh fv n n)); rw [kSh_n, kSh_n, hp_set_self ht, hp_set_self hv']⟩ ?_
  rintro j ⟨k, ls, H, locs, w0⟩ ⟨h1, h2, h3, hl, hI, hS, ew0⟩ ih
  dsimp only at h1 h2 h3 hl hI hS ew0 ⊢
  have hat : a ≠ ta := hp_ne_oa ha ht
  have hav : a ≠ va := hp_ne_oa ha hv'
  have ha : w0 a = some (oTr ta va n) := by rw [ew0, hp_set_ne hav, hp_set_ne hat]; exact ha
  have ht : w0 ta = some (aD G 4 (kSh ft k n)) := by rw [ew0, hp_set_ne htv]; exact hp_set_eq _ _ _
  have hv' : w0 va = some (aD G 4 (kSh fv k n)) := by rw [ew0]; exact hp_set_eq _ _ _
  refine lv_iload_n hx hb d_Tr_makeRoom_5 rfl (lv_at hl 0 rfl) ?_
  refine lv_iload_n hx hb d_Tr_makeRoom_6 rfl (lv_at hl 2 rfl) ?_
  refine lv_icmp_le (tgt := 44) hx hb d_Tr_makeRoom_7 (by decide) (fun c1 => ?_) (fun c1 => ?_)
  · have hk : k = i := by
      have := (nI_leI (by omega) (by omega)).mp c1
      omega
    refine lv_aload_n hx hb d_Tr_makeRoom_44 rfl (lv_at hl 1 rfl) ?_
    refine lv_dup hx hb d_Tr_makeRoom_45 rfl ?_
    refine hp_get (ci := 2) (v := .int (nI n)) (C := R_Tr) (T := F_Tr) (N := 3) hx hb hg i_Tr hown hK hI ha rfl 2 (by decide) (hg _ k_155) (fun _ h9 => h9) rfl d_Tr_makeRoom_46 ?_
    refine lv_iconst (v := 1) hx hb d_Tr_makeRoom_49 (by decide) ?_
    refine lv_iadd hx hb d_Tr_makeRoom_50 ?_
    rw [nI_1]
    refine hp_putC (ci := 2) (v := .int (nI (n + 1))) (ty := .int) (C := R_Tr) (T := F_Tr) (N := 3) hx hb hg i_Tr t_Tr t_Tr_ok n_Tr hown hK hI hS ha rfl 2 (by decide) (hg _ k_155) (fun _ h9 => h9) rfl (by decide +kernel) rfl rfl (Nat.le_of_ble_eq_true rfl) d_Tr_makeRoom_51 (fun H locs hI hS hsz => ?_)
    obtain ⟨w_1, ew_1⟩ : ∃ z, z = hp_set w0 a (.inr (2, [.ref ta, .ref va, .int (nI (n + 1))])) := ⟨_, rfl⟩
    have hI : eI G S0 w_1 H := by rw [ew_1]; exact hI
    have ht : w_1 ta = some (.inl (G.2.2.1 1, 4, .inr (.inr (.inr (.inl (kSh ft k n)))))) := by rw [ew_1, hp_set_ne (hp_ne_ao ht ha)]; exact ht
    have hv' : w_1 va = some (.inl (G.2.2.1 1, 4, .inr (.inr (.inr (.inl (kSh fv k n)))))) := by rw [ew_1, hp_set_ne (hp_ne_ao hv' ha)]; exact hv'
    have ha : w_1 a = some (.inr (2, [.ref ta, .ref va, .int (nI (n + 1))])) := by rw [ew_1]; exact hp_set_eq _ _ _
    exact W.vret hx hb hr (fun t ht hW => ⟨⟨w_1, rfl, by rw [ew_1, ew0, hk], eWo ht hI⟩, hS.F ht⟩) hS.2.2 d_Tr_makeRoom_54
  · have hk : i < k := by
      rcases Nat.lt_or_ge i k with q | q
      · exact q
      · exact absurd ((nI_leI (by omega) (by omega)).mpr q) c1
    refine lv_aload_n hx hb d_Tr_makeRoom_10 rfl (lv_at hl 1 rfl) ?_
    refine hp_get (ci := 2) (v := .ref ta) (C := R_Tr) (T := F_Tr) (N := 3) hx hb hg i_Tr hown hK hI ha rfl 0 (by decide) (hg _ k_153) (fun _ h9 => h9) rfl d_Tr_makeRoom_11 ?_
    refine lv_iload_n hx hb d_Tr_makeRoom_14 rfl (lv_at hl 0 rfl) ?_
    refine lv_aload_n hx hb d_Tr_makeRoom_15 rfl (lv_at hl 1 rfl) ?_
    refine hp_get (ci := 2) (v := .ref ta) (C := R_Tr) (T := F_Tr) (N := 3) hx hb hg i_Tr hown hK hI ha rfl 0 (by decide) (hg _ k_153) (fun _ h9 => h9) rfl d_Tr_makeRoom_16 ?_
    refine lv_iload_n hx hb d_Tr_makeRoom_19 rfl (lv_at hl 0 rfl) ?_
    refine lv_iconst (v := 1) hx hb d_Tr_makeRoom_20 (by decide) ?_
    refine lv_isub hx hb d_Tr_makeRoom_21 ?_
    rw [nI_sub1 (by omega)]
    refine hp_dald hx hb hK hI 1 ht rfl (vp_in_nI (by omega) (by decide)) d_Tr_makeRoom_22 ?_
    rw [nI_clamp (n := k - 1) (by omega)]
    refine hp_dast hx hb hK hI hS 1 ht rfl (vp_in_nI (by omega) (by decide)) d_Tr_makeRoom_23 (fun H locs hI hS hsz => ?_)
    rw [nI_clamp (n := k) (by omega)] at hI
    obtain ⟨f_2, ef_2⟩ : ∃ z, z = vf_upd (kSh ft k n) k ((kSh ft k n) (k - 1)) := ⟨_, rfl⟩
    rw [← ef_2] at hI
    obtain ⟨w_3, ew_3⟩ : ∃ z, z = hp_set w0 ta (.inl (G.2.2.1 1, 4, .inr (.inr (.inr (.inl f_2))))) := ⟨_, rfl⟩
    have hI : eI G S0 w_3 H := by rw [ew_3]; exact hI
    have ha : w_3 a = some (.inr (2, [.ref ta, .ref va, .int (nI n)])) := by rw [ew_3, hp_set_ne (hp_ne_oa ha ht)]; exact ha
    have hv' : w_3 va = some (.inl (G.2.2.1 1, 4, .inr (.inr (.inr (.inl (kSh fv k n)))))) := by rw [ew_3, hp_set_ne htv.symm]; exact hv'
    have ht : w_3 ta = some (.inl (G.2.2.1 1, 4, .inr (.inr (.inr (.inl f_2))))) := by rw [ew_3]; exact hp_set_eq _ _ _
    refine lv_aload_n hx hb d_Tr_makeRoom_24 rfl (lv_at hl 1 rfl) ?_
    refine hp_get (ci := 2) (v := .ref va) (C := R_Tr) (T := F_Tr) (N := 3) hx hb hg i_Tr hown hK hI ha rfl 1 (by decide) (hg _ k_154) (fun _ h9 => h9) rfl d_Tr_makeRoom_25 ?_
    refine lv_iload_n hx hb d_Tr_makeRoom_28 rfl (lv_at hl 0 rfl) ?_
    refine lv_aload_n hx hb d_Tr_makeRoom_29 rfl (lv_at hl 1 rfl) ?_
    refine hp_get (ci := 2) (v := .ref va) (C := R_Tr) (T := F_Tr) (N := 3) hx hb hg i_Tr hown hK hI ha rfl 1 (by decide) (hg _ k_154) (fun _ h9 => h9) rfl d_Tr_makeRoom_30 ?_
    refine lv_iload_n hx hb d_Tr_makeRoom_33 rfl (lv_at hl 0 rfl) ?_
    refine lv_iconst (v := 1) hx hb d_Tr_makeRoom_34 (by decide) ?_
    refine lv_isub hx hb d_Tr_makeRoom_35 ?_
    rw [nI_sub1 (by omega)]
    refine hp_dald hx hb hK hI 1 hv' rfl (vp_in_nI (by omega) (by decide)) d_Tr_makeRoom_36 ?_
    rw [nI_clamp (n := k - 1) (by omega)]
    refine hp_dast hx hb hK hI hS 1 hv' rfl (vp_in_nI (by omega) (by decide)) d_Tr_makeRoom_37 (fun H locs hI hS hsz => ?_)
    rw [nI_clamp (n := k) (by omega)] at hI
    obtain ⟨f_4, ef_4⟩ : ∃ z, z = vf_upd (kSh fv k n) k ((kSh fv k n) (k - 1)) := ⟨_, rfl⟩
    rw [← ef_4] at hI
    obtain ⟨w_5, ew_5⟩ : ∃ z, z = hp_set w_3 va (.inl (G.2.2.1 1, 4, .inr (.inr (.inr (.inl f_4))))) := ⟨_, rfl⟩
    have hI : eI G S0 w_5 H := by rw [ew_5]; exact hI
    have ha : w_5 a = some (.inr (2, [.ref ta, .ref va, .int (nI n)])) := by rw [ew_5, hp_set_ne (hp_ne_oa ha hv')]; exact ha
    have ht : w_5 ta = some (.inl (G.2.2.1 1, 4, .inr (.inr (.inr (.inl f_2))))) := by rw [ew_5, hp_set_ne htv]; exact ht
    have hv' : w_5 va = some (.inl (G.2.2.1 1, 4, .inr (.inr (.inr (.inl f_4))))) := by rw [ew_5]; exact hp_set_eq _ _ _
    refine lv_iinc (v := nI (k - 1)) (lv' := [(2, .int (nI (k - 1))), (0, .ref a), (1, .int (nI i))]) hx hb d_Tr_makeRoom_38 hl (k := 0) rfl (by have := nI_dec (k - 1); rw [show k - 1 + 1 = k by omega] at this; exact this) (by decide) rfl (fun ls hl => ?_)
    refine lv_goto (tgt := 5) hx hb d_Tr_makeRoom_41 (by decide) ?_
    refine ih (k - 1) (k - 1, ls, H, locs, w_5) (by omega) ⟨by show i ≤ k - 1; omega, by show k - 1 ≤ n; omega, rfl, hl, hI, hS, ?_⟩
    show w_5 = hp_set (hp_set w ta (aD G 4 (kSh ft (k - 1) n))) va (aD G 4 (kSh fv (k - 1) n))
    rw [ew_5, ew_3, ef_4, ef_2, kSh_step ft (by omega) h2, kSh_step fv (by omega) h2, ew0]
    funext q
    by_cases q1 : q = va <;> by_cases q2 : q = ta <;> simp [hp_set, q1, q2]
/-- the place of a time among the first n -/
def kAt (ft : Nat → UInt64) (u : UInt64) : Nat → Nat
  | 0 => 0
  | k + 1 => if kAt ft u k = k ∧ FP.dcmp (ft k) u = some .lt then k + 1 else kAt ft u k
theorem kAt_le (ft : Nat → UInt64) (u : UInt64) : ∀ n, kAt ft u n ≤ n
  | 0 => Nat.le_refl 0
  | n + 1 => by
    have h := kAt_le ft u n
    unfold kAt
    by_cases hc : kAt ft u n = n ∧ FP.dcmp (ft n) u = some .lt
    · rw [if_pos hc]; exact Nat.le_refl _
    · rw [if_neg hc]; omega
theorem kAt_stop (ft : Nat → UInt64) (u : UInt64) {k : Nat} (hk : kAt ft u k = k) (hs : ¬ FP.dcmp (ft k) u = some .lt) : ∀ n, k ≤ n → kAt ft u n = k := by
  intro n hn
  induction n with
  | zero => rw [show k = 0 by omega]; rfl
  | succ n ih =>
    rcases Nat.lt_or_ge n k with q | q
    · rw [show n + 1 = k by omega, hk]
    · have e := ih q
      show (if kAt ft u n = n ∧ FP.dcmp (ft n) u = some .lt then n + 1 else kAt ft u n) = k
      rw [if_neg, e]
      rintro ⟨q1, q2⟩
      rw [e] at q1
      rw [← q1] at q2
      exact hs q2
theorem kAt_go (ft : Nat → UInt64) (u : UInt64) {k : Nat} (hk : kAt ft u k = k) (hs : FP.dcmp (ft k) u = some .lt) : kAt ft u (k + 1) = k + 1 := by
  show (if kAt ft u k = k ∧ FP.dcmp (ft k) u = some .lt then k + 1 else kAt ft u k) = k + 1
  rw [if_pos ⟨hk, hs⟩]
/-- there is a frame of that time -/
def kSame (ft : Nat → UInt64) (n : Nat) (u : UInt64) : Prop := kAt ft u n < n ∧ FP.dcmp (ft (kAt ft u n)) u = some .eq
set_option maxHeartbeats 4000000 in
set_option maxRecDepth 100000 in
theorem m_Tr_put (l : Launch) (G : EG) (S0 : Nat) (w : hp_M) (a ta va n : Nat) (ft fv : Nat → UInt64) (u v : UInt64) (hn : n ≤ 4) (htv : ta ≠ va) (ha : w a = some (oTr ta va n)) (ht : w ta = some (aD G 4 ft)) (hv' : w va = some (aD G 4 fv)) : Met l y_Tr_put w_Tr_put (rl 1 0 0) (eP G S0 w [.ref a, .double u, .double v]) (va_Qi (fun r z =>
    (kSame ft n u → r = 1 ∧ z = hp_set (hp_set w ta (aD G 4 (vf_upd ft (kAt ft u n) u))) va (aD G 4 (vf_upd fv (kAt ft u n) v))) ∧
    (¬ kSame ft n u → n = 4 → r = 0 ∧ z = w) ∧
    (¬ kSame ft n u → ¬ n = 4 → r = 1 ∧ z = hp_set (hp_set (hp_set w ta (aD G 4 (vf_upd (kSh ft (kAt ft u n) n) (kAt ft u n) u))) va (aD G 4 (vf_upd (kSh fv (kAt ft u n) n) (kAt ft u n) v))) a (oTr ta va (n + 1)))) (eW G S0) (hp_A S0)) 0 0 (hp_A S0) := by
  refine Met.ofW (cc := b_Tr_put) (maxL := 6) (ret := (some .boolean)) (by decide) rfl ?_
  intro p e s m args below meth c s₁ B hml hv
  obtain ⟨rfl, hE, hI, hz⟩ := hv
  have hx := B.exec
  have hb := B.bytes
  have hr := B.returns
  have hts := atoms_spec (ws := w_Tr_put) B.pre
  have hg : ∀ w ∈ gw, w.before _ s = true := fun w h => hts w (List.mem_cons_of_mem _ h)
  have hown : s.vm.findClass "SceneEasel$Track" = some m.cls := findClass_of_methodNamed B.named
  have hlocks := B.notSynchronized
  have hK := hE.K
  have hS : va_S (hp_A S0) s.heap s.heap [] := va_S.rf
  have hl := lv_entry ([.ref a, .double u, .double v]) (n := 6) (Nat.le_of_ble_eq_true rfl)
  rw [lg_entry_eq]
  generalize (lg_sl ([.ref a, .double u, .double v]) ++ List.replicate (6 - (lg_sl ([.ref a, .double u, .double v])).length) Slot.unset).toArray = ls at hl ⊢
  have hl : lv_has ls 6 [(0, .ref a), (1, .double u), (3, .double v)] := hl
  have hle := kAt_le ft u n
  have hat : a ≠ ta := hp_ne_oa ha ht
  have hav : a ≠ va := hp_ne_oa ha hv'
  refine lv_iconst (v := 0) hx hb d_Tr_put_0 (by decide) ?_
  refine lv_istore (lv' := [(5, .int 0), (0, .ref a), (1, .double u), (3, .double v)]) hx hb d_Tr_put_1 hl (by decide) rfl (fun ls hl => ?_)
  refine W.mi1 (fun ls : Array Slot => lv_has ls 6 [(5, .int (nI (kAt ft u n))), (0, .ref a), (1, .double u), (3, .double v)]) (fun ls => F0 m 30 ls []) (fun ls hl => ?_) (fun key => ?_)
  · obtain ⟨i, ei⟩ : ∃ z, z = kAt ft u n := ⟨_, rfl⟩
    have hsm : kSame ft n u ↔ i < n ∧ FP.dcmp (ft i) u = some .eq := by unfold kSame; rw [← ei]
    rw [← ei] at hl hle ⊢
    refine W.mi1 (fun ls : Array Slot => ¬ kSame ft n u ∧ lv_has ls 6 [(5, .int (nI i)), (0, .ref a), (1, .double u), (3, .double v)]) (fun ls => F0 m 51 ls []) (fun ls hq => ?_) (fun key => ?_)
    · obtain ⟨hns, hl⟩ := hq
      refine lv_aload_n hx hb d_Tr_put_51 rfl (lv_at hl 1 rfl) ?_
      refine hp_get (ci := 2) (v := .int (nI n)) (C := R_Tr) (T := F_Tr) (N := 3) hx hb hg i_Tr hown hK hI ha rfl 2 (by decide) (hg _ k_155) (fun _ h9 => h9) rfl d_Tr_put_52 ?_
      refine lv_iconst (v := 4) hx hb d_Tr_put_55 (by decide) ?_
      refine lv_icmp_ne (tgt := 61) hx hb d_Tr_put_56 (by decide) (fun c1 => ?_) (fun c1 => ?_)
      · have h4 : ¬ n = 4 := fun h => c1 (by rw [h]; rfl)
        refine lv_aload_n hx hb d_Tr_put_61 rfl (lv_at hl 1 rfl) ?_
        refine lv_iload hx hb d_Tr_put_62 (lv_at hl 0 rfl) ?_
        refine ec_v (va_runV (As := [.int (nI i)]) (rest := []) ⟨hx, hb, hml, hown, hts⟩ (m_Tr_makeRoom l G S0 w a ta va n i ft fv (by omega) hle htv ha ht hv') (cwV 1 hts (gw_V k_539 k_541 k_17 k_66 k_542) rfl rfl rfl (by decide +kernel) ⟨Nat.le_of_ble_eq_true rfl, Nat.le_of_ble_eq_true rfl⟩) (eB.preV hE hI hS hz rfl ha) rfl rfl hl.1 rfl (lv_room (Nat.le_of_ble_eq_true rfl)) d_Tr_put_64 ⟨Nat.le_of_ble_eq_true rfl, Nat.le_of_ble_eq_true rfl⟩) hS (fun w_1 H locs ew_1 hI hsz hS => ?_)
        have ha2 : w_1 a = some (oTr ta va (n + 1)) := by rw [ew_1]; exact hp_set_eq _ _ _
        have ht2 : w_1 ta = some (aD G 4 (kSh ft i n)) := by rw [ew_1, hp_set_ne hat.symm, hp_set_ne htv]; exact hp_set_eq _ _ _
        have hv2 : w_1 va = some (aD G 4 (kSh fv i n)) := by rw [ew_1, hp_set_ne hav.symm]; exact hp_set_eq _ _ _
        refine lv_aload_n hx hb d_Tr_put_67 rfl (lv_at hl 1 rfl) ?_
        refine hp_get (ci := 2) (v := .ref ta) (C := R_Tr) (T := F_Tr) (N := 3) hx hb hg i_Tr hown hK hI ha2 rfl 0 (by decide) (hg _ k_153) (fun _ h9 => h9) rfl d_Tr_put_68 ?_
        refine lv_iload hx hb d_Tr_put_71 (lv_at hl 0 rfl) ?_
        refine lv_dload_n hx hb d_Tr_put_73 rfl (lv_at hl 2 rfl) ?_
        refine hp_dast hx hb hK hI hS 1 ht2 rfl (vp_in_nI (by omega) (by decide)) d_Tr_put_74 (fun H locs hI hS hsz => ?_)
        rw [nI_clamp (n := i) (by omega)] at hI
        obtain ⟨f_2, ef_2⟩ : ∃ z, z = vf_upd (kSh ft i n) i u := ⟨_, rfl⟩
        rw [← ef_2] at hI
        obtain ⟨w_3, ew_3⟩ : ∃ z, z = hp_set w_1 ta (.inl (G.2.2.1 1, 4, .inr (.inr (.inr (.inl f_2))))) := ⟨_, rfl⟩
        have hI : eI G S0 w_3 H := by rw [ew_3]; exact hI
        have ha2 : w_3 a = some (.inr (2, [.ref ta, .ref va, .int (nI (n + 1))])) := by rw [ew_3, hp_set_ne (hp_ne_oa ha2 ht2)]; exact ha2
        have hv2 : w_3 va = some (.inl (G.2.2.1 1, 4, .inr (.inr (.inr (.inl (kSh fv i n)))))) := by rw [ew_3, hp_set_ne htv.symm]; exact hv2
        have ht2 : w_3 ta = some (.inl (G.2.2.1 1, 4, .inr (.inr (.inr (.inl f_2))))) := by rw [ew_3]; exact hp_set_eq _ _ _
        refine lv_aload_n hx hb d_Tr_put_75 rfl (lv_at hl 1 rfl) ?_
        refine hp_get (ci := 2) (v := .ref va) (C := R_Tr) (T := F_Tr) (N := 3) hx hb hg i_Tr hown hK hI ha2 rfl 1 (by decide) (hg _ k_154) (fun _ h9 => h9) rfl d_Tr_put_76 ?_
        refine lv_iload hx hb d_Tr_put_79 (lv_at hl 0 rfl) ?_
        refine lv_dload_n hx hb d_Tr_put_81 rfl (lv_at hl 3 rfl) ?_
        refine hp_dast hx hb hK hI hS 1 hv2 rfl (vp_in_nI (by omega) (by decide)) d_Tr_put_82 (fun H locs hI hS hsz => ?_)
        rw [nI_clamp (n := i) (by omega)] at hI
        obtain ⟨f_4, ef_4⟩ : ∃ z, z = vf_upd (kSh fv i n) i v := ⟨_, rfl⟩
        rw [← ef_4] at hI
        obtain ⟨w_5, ew_5⟩ : ∃ z, z = hp_set w_3 va (.inl (G.2.2.1 1, 4, .inr (.inr (.inr (.inl f_4))))) := ⟨_, rfl⟩
        have hI : eI G S0 w_5 H := by rw [ew_5]; exact hI
        have ha2 : w_5 a = some (.inr (2, [.ref ta, .ref va, .int (nI (n + 1))])) := by rw [ew_5, hp_set_ne (hp_ne_oa ha2 hv2)]; exact ha2
        have ht2 : w_5 ta = some (.inl (G.2.2.1 1, 4, .inr (.inr (.inr (.inl f_2))))) := by rw [ew_5, hp_set_ne htv]; exact ht2
        have hv2 : w_5 va = some (.inl (G.2.2.1 1, 4, .inr (.inr (.inr (.inl f_4))))) := by rw [ew_5]; exact hp_set_eq _ _ _
        refine lv_iconst (v := 1) hx hb d_Tr_put_83 (by decide) ?_
        have e9 : w_5 = hp_set (hp_set (hp_set w ta (aD G 4 (vf_upd (kSh ft i n) i u))) va (aD G 4 (vf_upd (kSh fv i n) i v))) a (oTr ta va (n + 1)) := by
          rw [ew_5, ew_3, ef_4, ef_2, ew_1]
          funext q
          by_cases q1 : q = va <;> by_cases q2 : q = ta <;> by_cases q3 : q = a <;> simp [hp_set, q1, q2, q3, hat, hav, htv, hat.symm, hav.symm, htv.symm]
        exact W.zret (v := 1) hx hb hr rfl (fun t ht hW => ⟨⟨1, w_5, rfl, ⟨fun h => absurd h hns, fun _ h => absurd h h4, fun _ _ => ⟨rfl, e9⟩⟩, eWo ht hI⟩, hS.F ht⟩) hS.2.2 d_Tr_put_84
      · have h4 : n = 4 := (nI_eq (a := n) (b := 4) (by omega) (by decide)).mp c1
        refine lv_iconst (v := 0) hx hb d_Tr_put_59 (by decide) ?_
        exact W.zret (v := 0) hx hb hr rfl (fun t ht hW => ⟨⟨0, w, rfl, ⟨fun h => absurd h hns, fun _ _ => ⟨rfl, rfl⟩, fun _ h => absurd h4 h⟩, eWo ht hI⟩, hS.F ht⟩) hS.2.2 d_Tr_put_60
    · refine lv_iload hx hb d_Tr_put_30 (lv_at hl 0 rfl) ?_
      refine lv_aload_n hx hb d_Tr_put_32 rfl (lv_at hl 1 rfl) ?_
      refine hp_get (ci := 2) (v := .int (nI n)) (C := R_Tr) (T := F_Tr) (N := 3) hx hb hg i_Tr hown hK hI ha rfl 2 (by decide) (hg _ k_155) (fun _ h9 => h9) rfl d_Tr_put_33 ?_
      refine lv_icmp_eq (tgt := 51) hx hb d_Tr_put_36 (by decide) (fun c1 => ?_) (fun c1 => ?_)
      · have h9 := (nI_eq (a := i) (b := n) (by omega) (by omega)).mp c1
        exact key ls ⟨fun h => by have := (hsm.mp h).1; omega, hl⟩
      · have hlt : i < n := by
          have : ¬ i = n := fun h => c1 (by rw [h])
          omega
        refine lv_aload_n hx hb d_Tr_put_39 rfl (lv_at hl 1 rfl) ?_
        refine hp_get (ci := 2) (v := .ref ta) (C := R_Tr) (T := F_Tr) (N := 3) hx hb hg i_Tr hown hK hI ha rfl 0 (by decide) (hg _ k_153) (fun _ h9 => h9) rfl d_Tr_put_40 ?_
        refine lv_iload hx hb d_Tr_put_43 (lv_at hl 0 rfl) ?_
        refine hp_dald hx hb hK hI 1 ht rfl (vp_in_nI (by omega) (by decide)) d_Tr_put_45 ?_
        rw [nI_clamp (n := i) (by omega)]
        refine lv_dload_n hx hb d_Tr_put_46 rfl (lv_at hl 2 rfl) ?_
        refine lv_dcmp hx hb d_Tr_put_47 ?_
        refine lv_if_eq (tgt := 67) hx hb d_Tr_put_48 (by decide) (fun c2 => ?_) (fun c2 => ?_)
        · have hs : kSame ft n u := hsm.mpr ⟨hlt, cv_l_eq.mp c2⟩
          refine lv_aload_n hx hb d_Tr_put_67 rfl (lv_at hl 1 rfl) ?_
          refine hp_get (ci := 2) (v := .ref ta) (C := R_Tr) (T := F_Tr) (N := 3) hx hb hg i_Tr hown hK hI ha rfl 0 (by decide) (hg _ k_153) (fun _ h9 => h9) rfl d_Tr_put_68 ?_
          refine lv_iload hx hb d_Tr_put_71 (lv_at hl 0 rfl) ?_
          refine lv_dload_n hx hb d_Tr_put_73 rfl (lv_at hl 2 rfl) ?_
          refine hp_dast hx hb hK hI hS 1 ht rfl (vp_in_nI (by omega) (by decide)) d_Tr_put_74 (fun H locs hI hS hsz => ?_)
          rw [nI_clamp (n := i) (by omega)] at hI
          obtain ⟨f_6, ef_6⟩ : ∃ z, z = vf_upd ft i u := ⟨_, rfl⟩
          rw [← ef_6] at hI
          obtain ⟨w_7, ew_7⟩ : ∃ z, z = hp_set w ta (.inl (G.2.2.1 1, 4, .inr (.inr (.inr (.inl f_6))))) := ⟨_, rfl⟩
          have hI : eI G S0 w_7 H := by rw [ew_7]; exact hI
          have ha : w_7 a = some (.inr (2, [.ref ta, .ref va, .int (nI n)])) := by rw [ew_7, hp_set_ne (hp_ne_oa ha ht)]; exact ha
          have hv' : w_7 va = some (.inl (G.2.2.1 1, 4, .inr (.inr (.inr (.inl fv))))) := by rw [ew_7, hp_set_ne htv.symm]; exact hv'
          have ht : w_7 ta = some (.inl (G.2.2.1 1, 4, .inr (.inr (.inr (.inl f_6))))) := by rw [ew_7]; exact hp_set_eq _ _ _
          refine lv_aload_n hx hb d_Tr_put_75 rfl (lv_at hl 1 rfl) ?_
          refine hp_get (ci := 2) (v := .ref va) (C := R_Tr) (T := F_Tr) (N := 3) hx hb hg i_Tr hown hK hI ha rfl 1 (by decide) (hg _ k_154) (fun _ h9 => h9) rfl d_Tr_put_76 ?_
          refine lv_iload hx hb d_Tr_put_79 (lv_at hl 0 rfl) ?_
          refine lv_dload_n hx hb d_Tr_put_81 rfl (lv_at hl 3 rfl) ?_
          refine hp_dast hx hb hK hI hS 1 hv' rfl (vp_in_nI (by omega) (by decide)) d_Tr_put_82 (fun H locs hI hS hsz => ?_)
          rw [nI_clamp (n := i) (by omega)] at hI
          obtain ⟨f_8, ef_8⟩ : ∃ z, z = vf_upd fv i v := ⟨_, rfl⟩
          rw [← ef_8] at hI
          obtain ⟨w_9, ew_9⟩ : ∃ z, z = hp_set w_7 va (.inl (G.2.2.1 1, 4, .inr (.inr (.inr (.inl f_8))))) := ⟨_, rfl⟩
          have hI : eI G S0 w_9 H := by rw [ew_9]; exact hI
          have ha : w_9 a = some (.inr (2, [.ref ta, .ref va, .int (nI n)])) := by rw [ew_9, hp_set_ne (hp_ne_oa ha hv')]; exact ha
          have ht : w_9 ta = some (.inl (G.2.2.1 1, 4, .inr (.inr (.inr (.inl f_6))))) := by rw [ew_9, hp_set_ne htv]; exact ht
          have hv' : w_9 va = some (.inl (G.2.2.1 1, 4, .inr (.inr (.inr (.inl f_8))))) := by rw [ew_9]; exact hp_set_eq _ _ _
          refine lv_iconst (v := 1) hx hb d_Tr_put_83 (by decide) ?_
          exact W.zret (v := 1) hx hb hr rfl (fun t ht hW => ⟨⟨1, w_9, rfl, ⟨fun _ => ⟨rfl, by rw [ew_9, ew_7, ef_8, ef_6]⟩, fun h => absurd hs h, fun h => absurd hs h⟩, eWo ht hI⟩, hS.F ht⟩) hS.2.2 d_Tr_put_84
        · exact key ls ⟨fun h => c2 (cv_l_eq.mpr (hsm.mp h).2), hl⟩
  · refine W.lp1 (fun j (q : Nat × Array Slot) => q.1 ≤ n ∧ kAt ft u q.1 = q.1 ∧ j = 4 - q.1 ∧ lv_has q.2 6 [(5, .int (nI q.1)), (0, .ref a), (1, .double u), (3, .double v)]) (fun q => F0 m 3 q.2 []) 4 (0, ls) ⟨Nat.zero_le n, rfl, rfl, hl⟩ ?_
    rintro j ⟨k, ls⟩ ⟨h1, h2, h3, hl⟩ ih
    dsimp only at h1 h2 h3 hl ⊢
    refine lv_iload hx hb d_Tr_put_3 (lv_at hl 0 rfl) ?_
    refine lv_aload_n hx hb d_Tr_put_5 rfl (lv_at hl 1 rfl) ?_
    refine hp_get (ci := 2) (v := .int (nI n)) (C := R_Tr) (T := F_Tr) (N := 3) hx hb hg i_Tr hown hK hI ha rfl 2 (by decide) (hg _ k_155) (fun _ h9 => h9) rfl d_Tr_put_6 ?_
    refine lv_icmp_ge (tgt := 30) hx hb d_Tr_put_9 (by decide) (fun c1 => ?_) (fun c1 => ?_)
    · have h9 := (nI_leI (a := n) (b := k) (by omega) (by omega)).mp c1
      exact key ls (by rw [show kAt ft u n = k by rw [show n = k by omega]; exact h2]; exact hl)
    · have hlt : k < n := by
        rcases Nat.lt_or_ge k n with q | q
        · exact q
        · exact absurd ((nI_leI (by omega) (by omega)).mpr q) c1
      refine lv_aload_n hx hb d_Tr_put_12 rfl (lv_at hl 1 rfl) ?_
      refine hp_get (ci := 2) (v := .ref ta) (C := R_Tr) (T := F_Tr) (N := 3) hx hb hg i_Tr hown hK hI ha rfl 0 (by decide) (hg _ k_153) (fun _ h9 => h9) rfl d_Tr_put_13 ?_
      refine lv_iload hx hb d_Tr_put_16 (lv_at hl 0 rfl) ?_
      refine hp_dald hx hb hK hI 1 ht rfl (vp_in_nI (by omega) (by decide)) d_Tr_put_18 ?_
      rw [nI_clamp (n := k) (by omega)]
      refine lv_dload_n hx hb d_Tr_put_19 rfl (lv_at hl 2 rfl) ?_
      refine lv_dcmp hx hb d_Tr_put_20 ?_
      refine lv_if_ge (tgt := 30) hx hb d_Tr_put_21 (by decide) (fun c2 => ?_) (fun c2 => ?_)
      · exact key ls (by rw [kAt_stop ft u h2 (cv_g_ge.mp c2) n h1]; exact hl)
      · refine lv_iinc (v := nI (k + 1)) (lv' := [(5, .int (nI (k + 1))), (0, .ref a), (1, .double u), (3, .double v)]) hx hb d_Tr_put_24 hl (k := 0) rfl (nI_inc k) (by decide) rfl (fun ls hl => ?_)
        refine lv_goto (tgt := 3) hx hb d_Tr_put_27 (by decide) ?_
        exact ih (4 - (k + 1)) (k + 1, ls) (by omega) ⟨hlt, kAt_go ft u h2 (Classical.not_not.mp (fun h => c2 (cv_g_ge.mpr h))), rfl, hl⟩

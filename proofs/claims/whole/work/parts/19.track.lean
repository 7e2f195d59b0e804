/-! Track -/
theorem nI_inc (k : Nat) : nI k + Int32.ofInt 1 = nI (k + 1) := by
  rw [show Int32.ofInt 1 = 1 from by decide]
  exact nI_1 k
theorem nI_dec (k : Nat) : nI (k + 1) + Int32.ofInt (-1) = nI k := by
  rw [show Int32.ofInt (-1) = -1 from by decide]
  exact pk_m1 k
theorem nI_one : (1 : Int32) = nI 1 := rfl
theorem nI_sub1 {k : Nat} (h : 1 ≤ k) : nI k - 1 = nI (k - 1) := by
  rw [nI_one]
  exact pk_sub h
abbrev oTr (ta va : Nat) (n : Nat) : va_E := .inr (2, [.ref ta, .ref va, .int (nI n)])
abbrev aD (G : EG) (n : Nat) (f : Nat → UInt64) : va_E := .inl (G.2.2.1 1, n, .inr (.inr (.inr (.inl f))))
/-- the frame for a time: the last one at it or before it, of those from the second on; else the first -/
def kfF (ft : Nat → UInt64) (u : UInt64) : Nat → Nat
  | 0 => 0
  | k + 1 => if k ≠ 0 ∧ dle (ft k) u then k else kfF ft u k
theorem kfF_1 (ft : Nat → UInt64) (u : UInt64) : kfF ft u 1 = 0 := by simp [kfF]
theorem kfF_lt (ft : Nat → UInt64) (u : UInt64) : ∀ n, 0 < n → kfF ft u n < n
  | 0, h => absurd h (Nat.lt_irrefl 0)
  | 1, _ => by simp [kfF]
  | n + 2, _ => by
    have h := kfF_lt ft u (n + 1) (Nat.succ_pos n)
    unfold kfF
    by_cases hc : n + 1 ≠ 0 ∧ dle (ft (n + 1)) u
    · rw [if_pos hc]; omega
    · rw [if_neg hc]; omega
set_option maxHeartbeats 4000000 in
set_option maxRecDepth 100000 in
theorem m_Tr_frameFor (l : Launch) (G : EG) (S0 : Nat) (w : hp_M) (a ta va n : Nat) (ft : Nat → UInt64) (u : UInt64) (hn : n ≤ 4) (ha : w a = some (oTr ta va n)) (ht : w ta = some (aD G 4 ft)) : Met l y_Tr_frameFor w_Tr_frameFor (rl 0 0 0) (eP G S0 w [.ref a, .double u]) (va_Qi (fun r z => r = nI (kfF ft u n) ∧ z = w) (eW G S0) (hp_A S0)) 0 0 (hp_A S0) := by
  refine Met.ofW (cc := b_Tr_frameFor) (maxL := 5) (ret := (some .int)) (by decide) rfl ?_
  intro p e s m args below meth c s₁ B hml hv
  obtain ⟨rfl, hE, hI, hz⟩ := hv
  have hx := B.exec
  have hb := B.bytes
  have hr := B.returns
  have hts := atoms_spec (ws := w_Tr_frameFor) B.pre
  have hg : ∀ w ∈ gw, w.before _ s = true := fun w h => hts w (List.mem_cons_of_mem _ h)
  have hown : s.vm.findClass "SceneEasel$Track" = some m.cls := findClass_of_methodNamed B.named
  have hlocks := B.notSynchronized
  have hK := hE.K
  have hS : va_S (hp_A S0) s.heap s.heap [] := va_S.rf
  have hl := lv_entry ([.ref a, .double u]) (n := 5) (Nat.le_of_ble_eq_true rfl)
  rw [lg_entry_eq]
  generalize (lg_sl ([.ref a, .double u]) ++ List.replicate (5 - (lg_sl ([.ref a, .double u])).length) Slot.unset).toArray = ls at hl ⊢
  have hl : lv_has ls 5 [(0, .ref a), (1, .double u)] := hl
  refine lv_iconst (v := 0) hx hb d_Tr_frameFor_0 (by decide) ?_
  refine lv_istore_n (lv' := [(3, .int 0), (0, .ref a), (1, .double u)]) hx hb d_Tr_frameFor_1 rfl hl (by decide) rfl (fun ls hl => ?_)
  refine lv_iconst (v := 1) hx hb d_Tr_frameFor_2 (by decide) ?_
  refine lv_istore (lv' := [(4, .int 1), (3, .int 0), (0, .ref a), (1, .double u)]) hx hb d_Tr_frameFor_3 hl (by decide) rfl (fun ls hl => ?_)
  refine W.lp1 (fun j (q : Nat × Array Slot) => 1 ≤ q.1 ∧ (q.1 ≤ n ∨ q.1 = 1) ∧ j = 5 - q.1 ∧ lv_has q.2 5 [(4, .int (nI q.1)), (3, .int (nI (kfF ft u q.1))), (0, .ref a), (1, .double u)]) (fun q => F0 m 5 q.2 []) 4 (1, ls) ⟨Nat.le_refl 1, Or.inr rfl, rfl, by show lv_has ls 5 [(4, .int (nI 1)), (3, .int (nI (kfF ft u 1))), (0, .ref a), (1, .double u)]; rw [kfF_1]; exact hl⟩ ?_
  rintro j ⟨k, ls⟩ ⟨h1, h2, h3, hl⟩ ih
  dsimp only at h1 h2 h3 hl ⊢
  refine lv_iload hx hb d_Tr_frameFor_5 (lv_at hl 0 rfl) ?_
  refine lv_aload_n hx hb d_Tr_frameFor_7 rfl (lv_at hl 2 rfl) ?_
  refine hp_get (ci := 2) (v := .int (nI n)) (C := R_Tr) (T := F_Tr) (N := 3) hx hb hg i_Tr hown hK hI ha rfl 2 (by decide) (hg _ k_155) (fun _ h9 => h9) rfl d_Tr_frameFor_8 ?_
  refine lv_icmp_ge (tgt := 35) hx hb d_Tr_frameFor_11 (by decide) (fun c1 => ?_) (fun c1 => ?_)
  · refine lv_iload_n hx hb d_Tr_frameFor_35 rfl (lv_at hl 1 rfl) ?_
    have hk : n ≤ k := (nI_leI (by omega) (by omega)).mp c1
    have he : kfF ft u k = kfF ft u n := by
      rcases h2 with h2 | h2
      · rw [show k = n by omega]
      · subst h2
        rcases (show n = 0 ∨ n = 1 by omega) with q | q
        · subst q; exact kfF_1 ft u
        · subst q; rfl
    exact W.iret (v := (nI (kfF ft u k))) hx hb hr (fun t ht hW => ⟨⟨(nI (kfF ft u k)), w, rfl, ⟨by rw [he], rfl⟩, eWo ht hI⟩, hS.F ht⟩) hS.2.2 d_Tr_frameFor_36
  · have hk : k < n := by
      rcases Nat.lt_or_ge k n with q | q
      · exact q
      · exact absurd ((nI_leI (by omega) (by omega)).mpr q) c1
    refine lv_aload_n hx hb d_Tr_frameFor_14 rfl (lv_at hl 2 rfl) ?_
    refine hp_get (ci := 2) (v := .ref ta) (C := R_Tr) (T := F_Tr) (N := 3) hx hb hg i_Tr hown hK hI ha rfl 0 (by decide) (hg _ k_153) (fun _ h9 => h9) rfl d_Tr_frameFor_15 ?_
    refine lv_iload hx hb d_Tr_frameFor_18 (lv_at hl 0 rfl) ?_
    refine hp_dald hx hb hK hI 1 ht rfl (vp_in_nI (by omega) (by decide)) d_Tr_frameFor_20 ?_
    rw [nI_clamp (n := k) (by omega)]
    refine lv_dload_n hx hb d_Tr_frameFor_21 rfl (lv_at hl 3 rfl) ?_
    refine lv_dcmp hx hb d_Tr_frameFor_22 ?_
    refine lv_if_gt (tgt := 29) hx hb d_Tr_frameFor_23 (by decide) (fun c2 => ?_) (fun c2 => ?_)
    · refine lv_iinc (v := nI (k + 1)) (lv' := [(4, .int (nI (k + 1))), (3, .int (nI (kfF ft u k))), (0, .ref a), (1, .double u)]) hx hb d_Tr_frameFor_29 hl (k := 0) rfl (nI_inc k) (by decide) rfl (fun ls hl => ?_)
      refine lv_goto (tgt := 5) hx hb d_Tr_frameFor_32 (by decide) ?_
      have he : kfF ft u (k + 1) = kfF ft u k := by
        show (if _ then _ else _) = _
        rw [if_neg]
        rintro ⟨-, q⟩
        rcases cv_g_gt.mp c2 with c2 | c2 <;> rcases q with q | q <;> rw [c2] at q <;> cases q
      exact ih (5 - (k + 1)) (k + 1, ls) (by omega) ⟨by show 1 ≤ k + 1; omega, Or.inl hk, rfl, by show lv_has ls 5 [(4, .int (nI (k + 1))), (3, .int (nI (kfF ft u (k + 1)))), (0, .ref a), (1, .double u)]; rw [he]; exact hl⟩
    · refine lv_iload hx hb d_Tr_frameFor_26 (lv_at hl 0 rfl) ?_
      refine lv_istore_n (lv' := [(3, .int (nI k)), (4, .int (nI k)), (0, .ref a), (1, .double u)]) hx hb d_Tr_frameFor_28 rfl hl (by decide) rfl (fun ls hl => ?_)
      refine lv_iinc (v := nI (k + 1)) (lv' := [(4, .int (nI (k + 1))), (3, .int (nI k)), (0, .ref a), (1, .double u)]) hx hb d_Tr_frameFor_29 hl (k := 1) rfl (nI_inc k) (by decide) rfl (fun ls hl => ?_)
      refine lv_goto (tgt := 5) hx hb d_Tr_frameFor_32 (by decide) ?_
      have he : kfF ft u (k + 1) = k := by
        show (if _ then _ else _) = _
        rw [if_pos]
        refine ⟨by omega, ?_⟩
        have := Int32.not_lt.mp c2
        exact cv_g_le.mp this
      exact ih (5 - (k + 1)) (k + 1, ls) (by omega) ⟨by show 1 ≤ k + 1; omega, Or.inl hk, rfl, by show lv_has ls 5 [(4, .int (nI (k + 1))), (3, .int (nI (kfF ft u (k + 1)))), (0, .ref a), (1, .double u)]; rw [he]; exact lv_sub hl [0, 1, 2, 3] rfl⟩

/-! up the tree: isIn, rank; frames -/
section WLoops
variable {p : Program} {l : Launch} {e : Env} {R : Room} {s : State} {m : MethodId} {args : Array Value} {below : List Frame} {meth : Method} {c : Code} {Q : State → Prop} {G : EG} {S0 : Nat}
/-- a loop: the world and the locals by a value, a number that falls -/
theorem W.lpw {α : Type} {H0 : Heap} {l0 : List Loc} {ls0 : Array Slot} (P : Nat → α → Prop) (wf : α → hp_M) (lf : α → List (Nat × Value)) (cf sf : α → Nat) (nl pc : Nat) (st : α → List Value) (N : Nat) (v0 : α) (h0 : P N v0) (hl0 : lv_has ls0 nl (lf v0)) (hI0 : eI G S0 (wf v0) H0) (hS0 : va_S (hp_A S0) s.heap H0 l0)
    (step : ∀ n v ls H locs, P n v → lv_has ls nl (lf v) → eI G S0 (wf v) H → va_S (hp_A S0) s.heap H locs → (∀ n' v' ls' H' locs', n' < n → P n' v' → lv_has ls' nl (lf v') → eI G S0 (wf v') H' → va_S (hp_A S0) s.heap H' locs' → W p l e R s m args below meth c H' locs' (cf v') (sf v') Q (F0 m pc ls' (st v'))) → W p l e R s m args below meth c H locs (cf v) (sf v) Q (F0 m pc ls (st v))) :
    W p l e R s m args below meth c H0 l0 (cf v0) (sf v0) Q (F0 m pc ls0 (st v0)) := by
  have key : ∀ N n v ls H locs, n < N → P n v → lv_has ls nl (lf v) → eI G S0 (wf v) H → va_S (hp_A S0) s.heap H locs → W p l e R s m args below meth c H locs (cf v) (sf v) Q (F0 m pc ls (st v)) := by
    intro N
    induction N with
    | zero => intro n v ls H locs h; exact absurd h (Nat.not_lt_zero n)
    | succ N ih =>
      intro n v ls H locs h h1 h2 h3 h4
      exact step n v ls H locs h1 h2 h3 h4 (fun n' v' ls' H' locs' g1 g2 g3 g4 g5 => ih n' v' ls' H' locs' (by omega) g2 g3 g4 g5)
  exact key (N + 1) N v0 ls0 H0 l0 (Nat.lt_succ_self N) h0 hl0 hI0 hS0
/-- what comes behind a joint, taken once -/
theorem W.midw {α : Type} {H0 : Heap} {l0 : List Loc} {g0 : JFrame} {c0 s0 : Nat} (P : α → Prop) (wf : α → hp_M) (lf : α → List (Nat × Value)) (cf sf : α → Nat) (nl pc : Nat) (st : α → List Value)
    (k : ∀ v ls H locs, P v → lv_has ls nl (lf v) → eI G S0 (wf v) H → va_S (hp_A S0) s.heap H locs → W p l e R s m args below meth c H locs (cf v) (sf v) Q (F0 m pc ls (st v)))
    (kk : (∀ v ls H locs, P v → lv_has ls nl (lf v) → eI G S0 (wf v) H → va_S (hp_A S0) s.heap H locs → W p l e R s m args below meth c H locs (cf v) (sf v) Q (F0 m pc ls (st v))) → W p l e R s m args below meth c H0 l0 c0 s0 Q g0) : W p l e R s m args below meth c H0 l0 c0 s0 Q g0 := kk k
end WLoops
def upN (d : DS) : Nat → Nat → Option Nat
  | 0, k => some k
  | j + 1, k => (sPa d k).bind (upN d j)
/-- a node is in another, or is it -/
def inn (d : DS) (k n : Nat) : Prop := ∃ j, upN d j k = some n
theorem inn_iff (d : DS) (k n : Nat) : inn d k n ↔ k = n ∨ ∃ g, sPa d k = some g ∧ inn d g n := by
  constructor
  · rintro ⟨j, h⟩
    cases j with
    | zero => exact Or.inl (Option.some.inj h)
    | succ j =>
      cases hg : sPa d k with
      | none => simp [upN, hg] at h
      | some g => exact Or.inr ⟨g, rfl, j, by simpa [upN, hg] using h⟩
  · rintro (h | ⟨g, h1, j, h2⟩)
    · exact ⟨0, by rw [h]; rfl⟩
    · exact ⟨j + 1, by simp [upN, h1, h2]⟩
theorem ePic.ad0 {G : EG} {m : MS} {d : DS} {w : hp_M} (h : ePic G m d w) {k k' : Nat} (hk : k < 14) (ht : sTh d k = true) (hk' : k' < 14) (ht' : sTh d k' = true) : mAd m k 0 = mAd m k' 0 ↔ k = k' :=
  ⟨fun e => (h.2.2.2.2 k 0 k' 0 hk hk' ht ht' ⟨by decide, fun e => absurd e (by decide)⟩ ⟨by decide, fun e => absurd e (by decide)⟩ e).1, fun e => by rw [e]⟩
theorem some_ad0 {G : EG} {m : MS} {d : DS} {w : hp_M} (h : ePic G m d w) {k k' : Nat} (hk : k < 14) (ht : sTh d k = true) (hk' : k' < 14) (ht' : sTh d k' = true) : some (mAd m k 0) = some (mAd m k' 0) ↔ k = k' :=
  ⟨fun e => (h.ad0 hk ht hk' ht').mp (Option.some.inj e), fun e => by rw [e]⟩
set_option maxHeartbeats 4000000 in
set_option maxRecDepth 100000 in
theorem m_No_isIn (l : Launch) (G : EG) (S0 : Nat) (w : hp_M) (ms : MS) (d : DS) (dp : Nat → Nat) (hp' : ePic G ms d w) (htr : tOk d dp) (k n : Nat) (hk : k < 14) (hkt : sTh d k = true) (hn : n < 14) (hnt : sTh d n = true) : Met l y_No_isIn w_No_isIn (rl 0 0 0) (eP G S0 w [.ref (mAd ms k 0), .ref (mAd ms n 0)]) (va_Qi (fun r z => ((r = 1 ∧ inn d k n) ∨ (r = 0 ∧ ¬ inn d k n)) ∧ z = w) (eW G S0) (hp_A S0)) 0 0 (hp_A S0) := by
  refine Met.ofW (cc := b_No_isIn) (maxL := 3) (ret := (some .boolean)) (by decide) rfl ?_
  intro p e s m args below meth c s₁ B hml hv
  obtain ⟨rfl, hE, hI, hz⟩ := hv
  have hx := B.exec
  have hb := B.bytes
  have hr := B.returns
  have hts := atoms_spec (ws := w_No_isIn) B.pre
  have hg : ∀ w ∈ gw, w.before _ s = true := fun w h => hts w (List.mem_cons_of_mem _ h)
  have hown : s.vm.findClass "SceneEasel$Node" = some m.cls := findClass_of_methodNamed B.named
  have hlocks := B.notSynchronized
  have hK := hE.K
  have hS : va_S (hp_A S0) s.heap s.heap [] := va_S.rf
  have hl := lv_entry ([.ref (mAd ms k 0), .ref (mAd ms n 0)]) (n := 3) (Nat.le_of_ble_eq_true rfl)
  rw [lg_entry_eq]
  generalize (lg_sl ([.ref (mAd ms k 0), .ref (mAd ms n 0)]) ++ List.replicate (3 - (lg_sl ([.ref (mAd ms k 0), .ref (mAd ms n 0)])).length) Slot.unset).toArray = ls at hl ⊢
  have hl : lv_has ls 3 [(0, .ref (mAd ms k 0)), (1, .ref (mAd ms n 0))] := hl
  refine lv_aload_n hx hb d_No_isIn_0 rfl (lv_at hl 0 rfl) ?_
  refine lv_astore_n (lv' := [(2, .ref (mAd ms k 0)), (0, .ref (mAd ms k 0)), (1, .ref (mAd ms n 0))]) hx hb d_No_isIn_1 rfl hl (by decide) rfl (fun ls hl => ?_)
  refine W.lp1 (fun j (q : Option Nat × Nat × Array Slot) => j = q.2.1 ∧ upO d dp q.1 q.2.1 ∧ (inn d k n ↔ ∃ g, q.1 = some g ∧ inn d g n) ∧ lv_has q.2.2 3 [(2, va_rf (q.1.map (fun g => mAd ms g 0))), (0, .ref (mAd ms k 0)), (1, .ref (mAd ms n 0))]) (fun q => F0 m 2 q.2.2 []) (dp k + 1) (some k, dp k + 1, ls) ⟨rfl, ⟨hk, hkt, rfl⟩, ⟨fun h => ⟨k, rfl, h⟩, fun ⟨g, h1, h2⟩ => by cases h1; exact h2⟩, hl⟩ ?_
  rintro j ⟨o, n0, ls⟩ ⟨h1, h2, h3, hl⟩ ih
  dsimp only at h1 h2 h3 hl ⊢
  cases o with
  | none =>
    have hl : lv_has ls 3 [(2, .null), (0, .ref (mAd ms k 0)), (1, .ref (mAd ms n 0))] := hl
    refine lv_aload_nN hx hb d_No_isIn_2 rfl (lv_at hl 0 rfl) ?_
    refine lv_ifnullN (tgt := 21) hx hb d_No_isIn_3 (by decide) ?_
    refine lv_iconst (v := 0) hx hb d_No_isIn_21 (by decide) ?_
    exact W.zret (v := 0) hx hb hr rfl (fun t ht hW => ⟨⟨0, w, rfl, ⟨Or.inr ⟨rfl, fun h => by obtain ⟨g, h8, -⟩ := h3.mp h; cases h8⟩, rfl⟩, eWo ht hI⟩, hS.F ht⟩) hS.2.2 d_No_isIn_22
  | some g =>
    have hl : lv_has ls 3 [(2, .ref (mAd ms g 0)), (0, .ref (mAd ms k 0)), (1, .ref (mAd ms n 0))] := hl
    obtain ⟨h4, h5, h6⟩ : g < 14 ∧ sTh d g = true ∧ n0 = dp g + 1 := h2
    have hng := hp'.node h4 h5
    refine lv_aload_n hx hb d_No_isIn_2 rfl (lv_at hl 0 rfl) ?_
    refine lv_ifnull hx hb d_No_isIn_3 ?_
    refine lv_aload_n hx hb d_No_isIn_6 rfl (lv_at hl 0 rfl) ?_
    refine lv_aload_n hx hb d_No_isIn_7 rfl (lv_at hl 2 rfl) ?_
    refine lv_acmp_ne (rx := (some (mAd ms g 0))) (ry := (some (mAd ms n 0))) (tgt := 13) hx hb d_No_isIn_8 (by decide) (fun c1 => ?_) (fun c1 => ?_)
    · have hgn : g ≠ n := fun h => c1 ((some_ad0 hp' h4 h5 hn hnt).mpr h)
      refine lv_aload_n hx hb d_No_isIn_13 rfl (lv_at hl 0 rfl) ?_
      refine hp_get (ci := 1) (v := va_rf (pAd ms d g)) (C := R_No) (T := F_No) (N := 20) hx hb hg i_No hown hK hI hng rfl 6 (by decide) (hg _ k_177) (fun _ h9 => h9) rfl d_No_isIn_14 ?_
      have hu := htr.upO h4 h5
      unfold pAd
      have h3' : inn d k n ↔ ∃ g', sPa d g = some g' ∧ inn d g' n := by
        constructor
        · intro h
          obtain ⟨g', e1, e2⟩ := h3.mp h
          cases e1
          rcases (inn_iff d g n).mp e2 with e3 | e3
          · exact absurd e3 hgn
          · exact e3
        · intro h
          exact h3.mpr ⟨g, rfl, (inn_iff d g n).mpr (Or.inr h)⟩
      cases ho : sPa d g with
      | none =>
        rw [ho] at hu h3'
        refine lv_astore_nN (lv' := [(2, .null), (0, .ref (mAd ms k 0)), (1, .ref (mAd ms n 0))]) hx hb d_No_isIn_17 rfl hl (by decide) rfl (fun ls hl => ?_)
        refine lv_goto (tgt := 2) hx hb d_No_isIn_18 (by decide) ?_
        exact ih 0 (none, 0, ls) (by omega) ⟨rfl, rfl, h3', lv_sub hl [0, 1, 2] rfl⟩
      | some g2 =>
        rw [ho] at hu h3'
        refine lv_astore_n (lv' := [(2, .ref (mAd ms g2 0)), (0, .ref (mAd ms k 0)), (1, .ref (mAd ms n 0))]) hx hb d_No_isIn_17 rfl hl (by decide) rfl (fun ls hl => ?_)
        refine lv_goto (tgt := 2) hx hb d_No_isIn_18 (by decide) ?_
        obtain ⟨h7, h8, h9⟩ : g2 < 14 ∧ sTh d g2 = true ∧ dp g = dp g2 + 1 := hu
        exact ih (dp g2 + 1) (some g2, dp g2 + 1, ls) (by omega) ⟨rfl, ⟨h7, h8, rfl⟩, h3', hl⟩
    · have hgn : g = n := (some_ad0 hp' h4 h5 hn hnt).mp c1
      refine lv_iconst (v := 1) hx hb d_No_isIn_11 (by decide) ?_
      exact W.zret (v := 1) hx hb hr rfl (fun t ht hW => ⟨⟨1, w, rfl, ⟨Or.inl ⟨rfl, h3.mpr ⟨g, rfl, (inn_iff d g n).mpr (Or.inl hgn)⟩⟩, rfl⟩, eWo ht hI⟩, hS.F ht⟩) hS.2.2 d_No_isIn_12
/-- how many frames in the first properties -/
def frS (d : DS) (k : Nat) : Nat → Nat
  | 0 => 0
  | i + 1 => frS d k i + sTn d k i
theorem trF_lt {m : MS} {k i : Nat} (h : i < 4) : trF m k i = some (mAd m k (5 + i)) := if_pos h
set_option maxHeartbeats 4000000 in
set_option maxRecDepth 100000 in
theorem m_No_frames (l : Launch) (G : EG) (S0 : Nat) (w : hp_M) (ms : MS) (d : DS) (hp' : ePic G ms d w) (k : Nat) (hk : k < 14) (hkt : sTh d k = true) : Met l y_No_frames w_No_frames (rl 0 0 0) (eP G S0 w [.ref (mAd ms k 0)]) (va_Qi (fun r z => r = nI (frS d k 4) ∧ z = w) (eW G S0) (hp_A S0)) 0 0 (hp_A S0) := by
  refine Met.ofW (cc := b_No_frames) (maxL := 3) (ret := (some .int)) (by decide) rfl ?_
  intro p e s m args below meth c s₁ B hml hv
  obtain ⟨rfl, hE, hI, hz⟩ := hv
  have hx := B.exec
  have hb := B.bytes
  have hr := B.returns
  have hts := atoms_spec (ws := w_No_frames) B.pre
  have hg : ∀ w ∈ gw, w.before _ s = true := fun w h => hts w (List.mem_cons_of_mem _ h)
  have hown : s.vm.findClass "SceneEasel$Node" = some m.cls := findClass_of_methodNamed B.named
  have hlocks := B.notSynchronized
  have hK := hE.K
  have hS : va_S (hp_A S0) s.heap s.heap [] := va_S.rf
  have hl := lv_entry ([.ref (mAd ms k 0)]) (n := 3) (Nat.le_of_ble_eq_true rfl)
  rw [lg_entry_eq]
  generalize (lg_sl ([.ref (mAd ms k 0)]) ++ List.replicate (3 - (lg_sl ([.ref (mAd ms k 0)])).length) Slot.unset).toArray = ls at hl ⊢
  have hl : lv_has ls 3 [(0, .ref (mAd ms k 0))] := hl
  obtain ⟨hn, -, -, hta, -, htk, -, -⟩ := hp'.2.2.2.1 k hk hkt
  refine lv_iconst (v := 0) hx hb d_No_frames_0 (by decide) ?_
  refine lv_istore_n (lv' := [(1, .int 0), (0, .ref (mAd ms k 0))]) hx hb d_No_frames_1 rfl hl (by decide) rfl (fun ls hl => ?_)
  refine lv_iconst (v := 0) hx hb d_No_frames_2 (by decide) ?_
  refine lv_istore_n (lv' := [(2, .int 0), (1, .int 0), (0, .ref (mAd ms k 0))]) hx hb d_No_frames_3 rfl hl (by decide) rfl (fun ls hl => ?_)
  refine W.lp1 (fun j (q : Nat × Array Slot) => q.1 ≤ 4 ∧ j = 4 - q.1 ∧ lv_has q.2 3 [(2, .int (nI q.1)), (1, .int (nI (frS d k q.1))), (0, .ref (mAd ms k 0))]) (fun q => F0 m 4 q.2 []) 4 (0, ls) ⟨Nat.zero_le 4, rfl, hl⟩ ?_
  rintro j ⟨i, ls⟩ ⟨h1, h2, hl⟩ ih
  dsimp only at h1 h2 hl ⊢
  refine lv_iload_n hx hb d_No_frames_4 rfl (lv_at hl 0 rfl) ?_
  refine lv_iconst (v := 4) hx hb d_No_frames_5 (by decide) ?_
  refine lv_icmp_ge (tgt := 27) hx hb d_No_frames_6 (by decide) (fun c1 => ?_) (fun c1 => ?_)
  · have hi : 4 ≤ i := (nI_leI (a := 4) (b := i) (by omega) (by omega)).mp c1
    refine lv_iload_n hx hb d_No_frames_27 rfl (lv_at hl 1 rfl) ?_
    exact W.iret (v := (nI (frS d k i))) hx hb hr (fun t ht hW => ⟨⟨(nI (frS d k i)), w, rfl, ⟨by rw [show i = 4 by omega], rfl⟩, eWo ht hI⟩, hS.F ht⟩) hS.2.2 d_No_frames_28
  · have hi : i < 4 := by
      rcases Nat.lt_or_ge i 4 with q | q
      · exact q
      · exact absurd ((nI_leI (a := 4) (b := i) (by omega) (by omega)).mpr q) c1
    refine lv_iload_n hx hb d_No_frames_9 rfl (lv_at hl 1 rfl) ?_
    refine lv_aload_n hx hb d_No_frames_10 rfl (lv_at hl 2 rfl) ?_
    refine hp_get (ci := 1) (v := .ref (mAd ms k 2)) (C := R_No) (T := F_No) (N := 20) hx hb hg i_No hown hK hI hn rfl 4 (by decide) (hg _ k_173) (fun _ h9 => h9) rfl d_No_frames_11 ?_
    refine lv_iload_n hx hb d_No_frames_14 rfl (lv_at hl 0 rfl) ?_
    refine hp_aald hx hb hK hI 5 hta rfl (vp_in_nI hi (by decide)) d_No_frames_15 ?_
    rw [nI_clamp (n := i) (by omega)]
    rw [trF_lt hi]
    have ht5 := (htk i hi).1
    refine hp_getN (ci := 2) (v := .int (nI (sTn d k i))) (C := R_Tr) (T := F_Tr) (N := 3) hx hb hg i_Tr hown hK hI ht5 rfl 2 (by decide) (hE.N q_156) (fun _ h9 => h9) rfl d_No_frames_16 ?_
    refine lv_iadd hx hb d_No_frames_19 ?_
    rw [nI_add]
    refine lv_istore_n (lv' := [(1, .int (nI (frS d k i + sTn d k i))), (2, .int (nI i)), (0, .ref (mAd ms k 0))]) hx hb d_No_frames_20 rfl hl (by decide) rfl (fun ls hl => ?_)
    refine lv_iinc (v := nI (i + 1)) (lv' := [(2, .int (nI (i + 1))), (1, .int (nI (frS d k i + sTn d k i))), (0, .ref (mAd ms k 0))]) hx hb d_No_frames_21 hl (k := 1) rfl (nI_inc i) (by decide) rfl (fun ls hl => ?_)
    refine lv_goto (tgt := 4) hx hb d_No_frames_24 (by decide) ?_
    exact ih (3 - i) (i + 1, ls) (by omega) ⟨by show i + 1 ≤ 4; omega, by show 3 - i = 4 - (i + 1); omega, hl⟩
/-- the place among the parent's children -/
def rkF (d : DS) (k : Nat) : Nat := match sPa d k with
  | none => 0
  | some g => (sCh d g).idxOf k
theorem elF_lt {m : MS} {d : DS} {g i : Nat} (h : i < (sCh d g).length) : elF m d g i = some (mAd m ((sCh d g)[i]'h) 0) := by
  unfold elF
  rw [List.getElem?_eq_getElem h]
  rfl
theorem idx_ge {l : List Nat} {k i : Nat} (h : ∀ j (hj : j < l.length), j < i → l[j] ≠ k) (hi : i ≤ l.length) : i ≤ l.idxOf k := by
  rcases Nat.lt_or_ge (l.idxOf k) i with q | q
  · have hq : l.idxOf k < l.length := by omega
    exact absurd (List.getElem_idxOf hq) (h _ hq q)
  · exact q
theorem idx_le {l : List Nat} {k : Nat} : ∀ {i : Nat} (hi : i < l.length), l[i] = k → l.idxOf k ≤ i := by
  induction l with
  | nil => intro i hi; exact absurd hi (Nat.not_lt_zero i)
  | cons x xs ih =>
    intro i hi h
    rw [List.idxOf_cons]
    cases i with
    | zero =>
      have h : x = k := h
      subst h
      simp
    | succ i =>
      have := ih (i := i) (by simpa using hi) (by simpa using h)
      cases x == k <;> simp <;> omega
set_option maxHeartbeats 4000000 in
set_option maxRecDepth 100000 in
theorem m_No_rank (l : Launch) (G : EG) (S0 : Nat) (w : hp_M) (ms : MS) (d : DS) (dp : Nat → Nat) (hp' : ePic G ms d w) (htr : tOk d dp) (k : Nat) (hk : k < 14) (hkt : sTh d k = true) : Met l y_No_rank w_No_rank (rl 3 0 0) (eP G S0 w [.ref (mAd ms k 0)]) (va_Qi (fun r z => r = nI (rkF d k) ∧ z = w) (eW G S0) (hp_A S0)) 0 0 (hp_A S0) := by
  refine Met.ofW (cc := b_No_rank) (maxL := 2) (ret := (some .int)) (by decide) rfl ?_
  intro p e s m args below meth c s₁ B hml hv
  obtain ⟨rfl, hE, hI, hz⟩ := hv
  have hx := B.exec
  have hb := B.bytes
  have hr := B.returns
  have hts := atoms_spec (ws := w_No_rank) B.pre
  have hg : ∀ w ∈ gw, w.before _ s = true := fun w h => hts w (List.mem_cons_of_mem _ h)
  have hown : s.vm.findClass "SceneEasel$Node" = some m.cls := findClass_of_methodNamed B.named
  have hlocks := B.notSynchronized
  have hK := hE.K
  have hS : va_S (hp_A S0) s.heap s.heap [] := va_S.rf
  have hl := lv_entry ([.ref (mAd ms k 0)]) (n := 2) (Nat.le_of_ble_eq_true rfl)
  rw [lg_entry_eq]
  generalize (lg_sl ([.ref (mAd ms k 0)]) ++ List.replicate (2 - (lg_sl ([.ref (mAd ms k 0)])).length) Slot.unset).toArray = ls at hl ⊢
  have hl : lv_has ls 2 [(0, .ref (mAd ms k 0))] := hl
  have hn := hp'.node hk hkt
  unfold nC pAd at hn
  unfold rkF
  rcases htr.up hk hkt with ⟨-, ho, -⟩ | ⟨g, hg1, ho, hgt, -, -, hkg⟩
  · rw [ho] at hn ⊢
    refine lv_iconst (v := 0) hx hb d_No_rank_0 (by decide) ?_
    refine lv_istore_n (lv' := [(1, .int 0), (0, .ref (mAd ms k 0))]) hx hb d_No_rank_1 rfl hl (by decide) rfl (fun ls hl => ?_)
    refine lv_aload_n hx hb d_No_rank_2 rfl (lv_at hl 1 rfl) ?_
    refine hp_get (ci := 1) (v := .null) (C := R_No) (T := F_No) (N := 20) hx hb hg i_No hown hK hI hn rfl 6 (by decide) (hg _ k_177) (fun _ h9 => h9) rfl d_No_rank_3 ?_
    refine lv_ifnullN (tgt := 44) hx hb d_No_rank_6 (by decide) ?_
    refine lv_iload_n hx hb d_No_rank_44 rfl (lv_at hl 0 rfl) ?_
    exact W.iret (v := 0) hx hb hr (fun t ht hW => ⟨⟨0, w, rfl, ⟨rfl, rfl⟩, eWo ht hI⟩, hS.F ht⟩) hS.2.2 d_No_rank_45
  · rw [ho] at hn ⊢
    dsimp only [Option.map] at hn ⊢
    refine lv_iconst (v := 0) hx hb d_No_rank_0 (by decide) ?_
    refine lv_istore_n (lv' := [(1, .int 0), (0, .ref (mAd ms k 0))]) hx hb d_No_rank_1 rfl hl (by decide) rfl (fun ls hl => ?_)
    refine lv_aload_n hx hb d_No_rank_2 rfl (lv_at hl 1 rfl) ?_
    refine hp_get (ci := 1) (v := .ref (mAd ms g 0)) (C := R_No) (T := F_No) (N := 20) hx hb hg i_No hown hK hI hn rfl 6 (by decide) (hg _ k_177) (fun _ h9 => h9) rfl d_No_rank_3 ?_
    refine lv_ifnull hx hb d_No_rank_6 ?_
    obtain ⟨hng, hal, hel, -, -, -, hlc, hcap⟩ := hp'.2.2.2.1 g hg1 hgt
    have hlen := List.length_pos_of_mem hkg
    have hc0 : mCap ms g ≠ 0 := by omega
    have hel := hel hc0
    rw [show elA G ms g = mAd ms g 4 from if_neg hc0] at hal
    have hix : (sCh d g).idxOf k < (sCh d g).length := List.idxOf_lt_length_of_mem hkg
    refine W.lpw (fun j (i : Nat) => i ≤ (sCh d g).idxOf k ∧ j = (sCh d g).idxOf k - i) (fun (i : Nat) => w) (fun (i : Nat) => [(1, .int (nI i)), (0, .ref (mAd ms k 0))]) (fun (i : Nat) => 0) (fun (i : Nat) => 0) 2 9 (fun (i : Nat) => []) ((sCh d g).idxOf k) (0) (⟨Nat.zero_le _, rfl⟩) (lv_sub hl [0, 1] rfl) hI hS ?_
    rintro j i ls H locs hP hl hI hS ih
    try dsimp only at hP hl hI ⊢
    obtain ⟨h1, h2⟩ := hP
    refine lv_iload_n hx hb d_No_rank_9 rfl (lv_at hl 0 rfl) ?_
    refine lv_aload_n hx hb d_No_rank_10 rfl (lv_at hl 1 rfl) ?_
    refine hp_get (ci := 1) (v := .ref (mAd ms g 0)) (C := R_No) (T := F_No) (N := 20) hx hb hg i_No hown hK hI hn rfl 6 (by decide) (hg _ k_177) (fun _ h9 => h9) rfl d_No_rank_11 ?_
    refine hp_get (ci := 1) (v := .ref (mAd ms g 1)) (C := R_No) (T := F_No) (N := 20) hx hb hg i_No hown hK hI hng rfl 3 (by decide) (hg _ k_171) (fun _ h9 => h9) rfl d_No_rank_14 ?_
    refine ec_i (va_runV (As := []) (rest := [.int (nI i)]) ⟨hx, hb, hml, hown, hts⟩ (m_Al_size l G S0 w (mAd ms g 1) (mAd ms g 4) (sCh d g).length hal) (cwV 0 hts (gw_V k_588 k_589 k_590 k_64 k_591) rfl rfl rfl (by decide +kernel) ⟨Nat.le_of_ble_eq_true rfl, Nat.le_of_ble_eq_true rfl⟩) (eB.preV hE hI hS hz rfl hal) rfl rfl hl.1 rfl (lv_room (Nat.le_of_ble_eq_true rfl)) d_No_rank_17 ⟨Nat.le_of_ble_eq_true rfl, Nat.le_of_ble_eq_true rfl⟩) hS (fun sz w_3 H locs ew_3 hI hsz hS => ?_)
    obtain ⟨esz, ew_3⟩ := ew_3
    have ew_3 := ew_3.symm
    subst ew_3
    subst esz
    refine lv_icmp_ge (tgt := 44) hx hb d_No_rank_20 (by decide) (fun c9 => absurd c9 ((fun h => by have := (nI_leI (a := (sCh d g).length) (b := i) (by omega) (by omega)).mp h; omega))) (fun c9 => ?_)
    refine lv_aload_n hx hb d_No_rank_23 rfl (lv_at hl 1 rfl) ?_
    refine hp_get (ci := 1) (v := .ref (mAd ms g 0)) (C := R_No) (T := F_No) (N := 20) hx hb hg i_No hown hK hI hn rfl 6 (by decide) (hg _ k_177) (fun _ h9 => h9) rfl d_No_rank_24 ?_
    refine hp_get (ci := 1) (v := .ref (mAd ms g 1)) (C := R_No) (T := F_No) (N := 20) hx hb hg i_No hown hK hI hng rfl 3 (by decide) (hg _ k_171) (fun _ h9 => h9) rfl d_No_rank_27 ?_
    refine lv_iload_n hx hb d_No_rank_30 rfl (lv_at hl 0 rfl) ?_
    refine ec_o (va_runV (As := [.int (nI i)]) (rest := []) ⟨hx, hb, hml, hown, hts⟩ (m_Al_get l G S0 w (mAd ms g 1) (mAd ms g 4) (sCh d g).length i (mCap ms g) (elF ms d g) (by omega) hlc (by omega) hal hel) (cwV 1 hts (gw_V k_592 k_593 k_594 k_64 k_595) rfl rfl rfl (by decide +kernel) ⟨Nat.le_of_ble_eq_true rfl, Nat.le_of_ble_eq_true rfl⟩) (eB.preV hE hI hS hz rfl hal) rfl rfl hl.1 rfl (lv_room (Nat.le_of_ble_eq_true rfl)) d_No_rank_31 ⟨Nat.le_of_ble_eq_true rfl, Nat.le_of_ble_eq_true rfl⟩) hS (fun gt w_4 H locs ew_4 hI hsz hS => ?_)
    obtain ⟨egt, ew_4⟩ := ew_4
    have ew_4 := ew_4.symm
    subst ew_4
    rw [elF_lt (show i < (sCh d g).length by omega)] at egt
    have hci := (htr.2.2.2.2.2.1 g hg1 hgt).2.1 _ (List.getElem_mem (show i < (sCh d g).length by omega))
    subst egt
    refine lv_aload_n hx hb d_No_rank_34 rfl (lv_at hl 1 rfl) ?_
    refine lv_acmp_eq (rx := (some (mAd ms ((sCh d g)[i]) 0))) (ry := (some (mAd ms k 0))) (tgt := 44) hx hb d_No_rank_35 (by decide) (fun c1 => ?_) (fun c1 => ?_)
    · have hck := (some_ad0 hp' hci.1 hci.2.1 hk hkt).mp c1
      have := idx_le (show i < (sCh d g).length by omega) hck
      refine lv_iload_n hx hb d_No_rank_44 rfl (lv_at hl 0 rfl) ?_
      exact W.iret (v := (nI i)) hx hb hr (fun t ht hW => ⟨⟨(nI i), w, rfl, ⟨by rw [show i = (sCh d g).idxOf k by omega], rfl⟩, eWo ht hI⟩, hS.F ht⟩) hS.2.2 d_No_rank_45
    · have hne : i ≠ (sCh d g).idxOf k := by
        intro h
        subst h
        exact c1 ((some_ad0 hp' hci.1 hci.2.1 hk hkt).mpr (List.getElem_idxOf hix))
      refine lv_iinc (v := nI (i + 1)) (lv' := [(1, .int (nI (i + 1))), (0, .ref (mAd ms k 0))]) hx hb d_No_rank_38 hl (k := 0) rfl (nI_inc i) (by decide) rfl (fun ls hl => ?_)
      refine lv_goto (tgt := 9) hx hb d_No_rank_41 (by decide) ?_
      exact ih ((sCh d g).idxOf k - (i + 1)) (i + 1) ls H locs (by omega) (⟨by omega, rfl⟩) (lv_sub hl [0, 1] rfl) hI hS

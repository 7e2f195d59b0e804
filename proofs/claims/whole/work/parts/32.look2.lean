/-! topInside, topAt -/
theorem pI_sub (n : Nat) : nI n - 1 = nI n + Int32.ofInt (-1) := by
  rw [show Int32.ofInt (-1) = -1 from by decide, Int32.sub_eq_add_neg]
theorem pI_lt {n lo : Nat} (hn : n < 2 ^ 31) (hlo : lo ≤ 1) : nI n + Int32.ofInt (-1) < nI lo ↔ n ≤ lo := by
  cases n with
  | zero => rcases (show lo = 0 ∨ lo = 1 by omega) with rfl | rfl <;> exact ⟨fun _ => by omega, fun _ => by decide⟩
  | succ n =>
    rw [nI_dec]
    constructor
    · intro h
      rcases Nat.lt_or_ge n lo with q | q
      · exact q
      · exact absurd ((nI_leI (a := lo) (b := n) (by omega) (by omega)).mpr q) (Int32.not_le.mpr h)
    · intro h
      exact nI_lt (by omega) (by omega)
theorem tA_succ (d : DS) (nx : Nat → Nat → UInt64) (ns : Nat → Int32) (f k : Nat) (a b : UInt64) : tA d nx ns (f + 1) k a b = if sNi d k 2 = 0 then (if sNi d k 0 = 0 then tIn d (tA d nx ns f) k (locP d nx ns k a b).1 (locP d nx ns k a b).2 else if covB (sNi d k 0) (sNd d k 0) (sNd d k 1) (locP d nx ns k a b).1 (locP d nx ns k a b).2 then some k else none) else none := rfl
set_option maxHeartbeats 4000000 in
set_option maxRecDepth 100000 in
theorem m_No_firstHas0 (l : Launch) (G : EG) (S0 : Nat) (w : hp_M) (ms : MS) (d : DS) (hp' : ePic G ms d w) (k : Nat) (hk : k < 14) (hkt : sTh d k = true) (hnil : sCh d k = []) (a b : UInt64) : Met l y_No_firstHas w_No_firstHas (rl 1 0 0) (eP G S0 w [.ref (mAd ms k 0), .double a, .double b]) (va_Qi (fun r z => r = 0 ∧ z = w) (eW G S0) (hp_A S0)) 0 0 (hp_A S0) := by
  refine Met.ofW (cc := b_No_firstHas) (maxL := 5) (ret := (some .boolean)) (by decide) rfl ?_
  intro p e s m args below meth c s₁ B hml hv
  obtain ⟨rfl, hE, hI, hz⟩ := hv
  have hx := B.exec
  have hb := B.bytes
  have hr := B.returns
  have hts := atoms_spec (ws := w_No_firstHas) B.pre
  have hg : ∀ w ∈ gw, w.before _ s = true := fun w h => hts w (List.mem_cons_of_mem _ h)
  have hown : s.vm.findClass "SceneEasel$Node" = some m.cls := findClass_of_methodNamed B.named
  have hlocks := B.notSynchronized
  have hK := hE.K
  have hS : va_S (hp_A S0) s.heap s.heap [] := va_S.rf
  have hl := lv_entry ([.ref (mAd ms k 0), .double a, .double b]) (n := 5) (Nat.le_of_ble_eq_true rfl)
  rw [lg_entry_eq]
  generalize (lg_sl ([.ref (mAd ms k 0), .double a, .double b]) ++ List.replicate (5 - (lg_sl ([.ref (mAd ms k 0), .double a, .double b])).length) Slot.unset).toArray = ls at hl ⊢
  have hl : lv_has ls 5 [(0, .ref (mAd ms k 0)), (1, .double a), (3, .double b)] := hl
  have hn := hp'.node hk hkt
  obtain ⟨-, hal0, -, -, -, -, hlc0, hcap0⟩ := hp'.2.2.2.1 k hk hkt
  refine lv_aload_n hx hb d_No_firstHas_0 rfl (lv_at hl 0 rfl) ?_
  refine hp_get (ci := 1) (v := .ref (mAd ms k 1)) (C := R_No) (T := F_No) (N := 20) hx hb hg i_No hown hK hI hn rfl 3 (by decide) (hg _ k_171) (fun _ h9 => h9) rfl d_No_firstHas_1 ?_
  refine ec_i (va_runV (As := []) (rest := []) ⟨hx, hb, hml, hown, hts⟩ (m_Al_isEmpty l G S0 w (mAd ms k 1) (elA G ms k) (sCh d k).length (by omega) hal0) (cwV 0 hts (gw_V k_670 k_671 k_672 k_64 k_673) rfl rfl rfl (by decide +kernel) ⟨Nat.le_of_ble_eq_true rfl, Nat.le_of_ble_eq_true rfl⟩) (eB.preV hE hI hS hz rfl hal0) rfl rfl hl.1 rfl (lv_room (Nat.le_of_ble_eq_true rfl)) d_No_firstHas_4 ⟨Nat.le_of_ble_eq_true rfl, Nat.le_of_ble_eq_true rfl⟩) hS (fun ie w_1 H locs ew_1 hI hsz hS => ?_)
  obtain ⟨eie, ew_1⟩ := ew_1
  have ew_1 := ew_1.symm
  subst ew_1
  rw [hnil] at eie
  have eie : ie = 1 := eie
  subst eie
  refine lv_if_ne (tgt := 33) hx hb d_No_firstHas_7 (by decide) (fun c9 => ?_) (fun c9 => absurd c9 (by decide))
  refine lv_iconst (v := 0) hx hb d_No_firstHas_33 (by decide) ?_
  exact W.zret (v := 0) hx hb hr rfl (fun t ht hW => ⟨⟨0, w, rfl, ⟨rfl, rfl⟩, eWo ht hI⟩, hS.F ht⟩) hS.2.2 d_No_firstHas_34
set_option maxHeartbeats 4000000 in
set_option maxRecDepth 100000 in
theorem m_No_topInside (l : Launch) (G : EG) (S0 : Nat) (w : hp_M) (ms : MS) (d : DS) (dp : Nat → Nat) (hp' : ePic G ms d w) (htr : tOk d dp) (hv0 : vOk d) (f : Nat) (hTA : ∀ f', f' + 1 = f → TAc l G S0 w ms d dp f') (k : Nat) (hk : k < 14) (hkt : sTh d k = true) (hdk : dp k + f = 5) (a b : UInt64) (ha : pR (dp k) a) (hb' : pR (dp k) b) : Met l y_No_topInside w_No_topInside (rl (3 * f + 5) 0 0) (eP G S0 w [.ref (mAd ms k 0), .double a, .double b]) (va_Qo (fun r z => r = (tIn d (tA d (mNx ms) (fun j => mNi ms j 0) f) k a b).map (fun c => mAd ms c 0) ∧ z = w) (eW G S0) (hp_A S0)) 0 0 (hp_A S0) := by
  refine Met.ofW (cc := b_No_topInside) (maxL := 12) (ret := (some (.object "SceneEasel$Node"))) (by decide) rfl ?_
  intro p e s m args below meth c s₁ B hml hv
  obtain ⟨rfl, hE, hI, hz⟩ := hv
  have hx := B.exec
  have hb := B.bytes
  have hr := B.returns
  have hts := atoms_spec (ws := w_No_topInside) B.pre
  have hg : ∀ w ∈ gw, w.before _ s = true := fun w h => hts w (List.mem_cons_of_mem _ h)
  have hown : s.vm.findClass "SceneEasel$Node" = some m.cls := findClass_of_methodNamed B.named
  have hlocks := B.notSynchronized
  have hK := hE.K
  have hS : va_S (hp_A S0) s.heap s.heap [] := va_S.rf
  have hl := lv_entry ([.ref (mAd ms k 0), .double a, .double b]) (n := 12) (Nat.le_of_ble_eq_true rfl)
  rw [lg_entry_eq]
  generalize (lg_sl ([.ref (mAd ms k 0), .double a, .double b]) ++ List.replicate (12 - (lg_sl ([.ref (mAd ms k 0), .double a, .double b])).length) Slot.unset).toArray = ls at hl ⊢
  have hl : lv_has ls 12 [(0, .ref (mAd ms k 0)), (1, .double a), (3, .double b)] := hl
  have hn := hp'.node hk hkt
  have hvk := hv0 k hk hkt
  obtain ⟨-, hal0, -, -, -, -, hlc0, hcap0⟩ := hp'.2.2.2.1 k hk hkt
  have hdk5 : dp k ≤ 5 := by omega
  have h31 : (sCh d k).length < 2 ^ 31 := by omega
  have hca : pOk (dp k) (tilK d k a) := tilK_ok hdk5 hvk ha
  have hcb : pOk (dp k) (tilK d k b) := tilK_ok hdk5 hvk hb'
  have hf0 : 0 < (sCh d k).length → ∃ f', f' + 1 = f := fun h => by
    obtain ⟨-, -, -, -, q5, q6⟩ := htr.child hk hkt (List.getElem_mem h)
    exact ⟨f - 1, by omega⟩
  refine W.midw (G := G) (S0 := S0) (fun (lo : Nat) => lo ≤ 1 ∧ (lo = 1 ↔ sNi d k 5 = 1) ∧ (sNi d k 5 = 1 → fstH (sCh d k) (fun x => tA d (mNx ms) (fun j => mNi ms j 0) f x (tilK d k a) (tilK d k b)) = true)) (fun (lo : Nat) => w) (fun (lo : Nat) => [(0, .ref (mAd ms k 0)), (5, .double (tilK d k a)), (7, .double (tilK d k b)), (9, .int (nI lo)), (10, .null), (11, .int (nI (sCh d k).length + Int32.ofInt (-1)))]) (fun (lo : Nat) => 0) (fun (lo : Nat) => 0) 12 88 (fun (lo : Nat) => []) ?_ (fun J => ?_)
  · rintro lo ls H locs hP hl hI hS
    try dsimp only at hP hl hI ⊢
    obtain ⟨hlo, hlo1, hfst⟩ := hP
    have hspec : tIn d (tA d (mNx ms) (fun j => mNi ms j 0) f) k a b = ((sCh d k).drop lo).reverse.findSome? (fun x => tA d (mNx ms) (fun j => mNi ms j 0) f x (tilK d k a) (tilK d k b)) := by
      unfold tIn
      by_cases h5 : sNi d k 5 = 1
      · rw [if_pos h5, if_pos (hfst h5), hlo1.mpr h5]
      · rw [if_neg h5, show lo = 0 by have : ¬ lo = 1 := fun h => h5 (hlo1.mp h); omega]
    refine W.lpw (fun j (q : Nat × Option Nat) => match q with | (n, o) => n ≤ (sCh d k).length ∧ o = ((sCh d k).drop n).reverse.findSome? (fun x => tA d (mNx ms) (fun j => mNi ms j 0) f x (tilK d k a) (tilK d k b)) ∧ (o ≠ none → lo ≤ n) ∧ j = n) (fun (q : Nat × Option Nat) => match q with | (n, o) => w) (fun (q : Nat × Option Nat) => match q with | (n, o) => [(0, .ref (mAd ms k 0)), (5, .double (tilK d k a)), (7, .double (tilK d k b)), (9, .int (nI lo)), (10, va_rf (o.map (fun c => mAd ms c 0))), (11, .int (nI n + Int32.ofInt (-1)))]) (fun (q : Nat × Option Nat) => match q with | (n, o) => 0) (fun (q : Nat × Option Nat) => match q with | (n, o) => 0) 12 88 (fun (q : Nat × Option Nat) => match q with | (n, o) => []) ((sCh d k).length) (((sCh d k).length, none)) (⟨Nat.le_refl _, (fs_end _ _).symm, fun h => absurd rfl h, rfl⟩) (lv_sub hl [0, 1, 2, 3, 4, 5] rfl) hI hS ?_
    rintro j ⟨n, o⟩ ls H locs hP hl hI hS ih
    try dsimp only at hP hl hI ⊢
    obtain ⟨h1, h2, h3, h4⟩ := hP
    have hn31 : n < 2 ^ 31 := Nat.lt_of_le_of_lt h1 h31
    refine lv_iload hx hb d_No_topInside_88 (lv_at hl 5 rfl) ?_
    refine lv_iload hx hb d_No_topInside_90 (lv_at hl 3 rfl) ?_
    refine lv_icmp_lt (tgt := 127) hx hb d_No_topInside_92 (by decide) (fun c1 => ?_) (fun c1 => ?_)
    · have hnl : n ≤ lo := (pI_lt hn31 hlo).mp c1
      have hres : tIn d (tA d (mNx ms) (fun j => mNi ms j 0) f) k a b = o := by
        rw [hspec]
        cases o with
        | none =>
          by_cases hz1 : n = lo
          · rw [← hz1, ← h2]
          · have hlen0 : (sCh d k).drop lo = [] ∨ n < lo := Or.inr (by omega)
            have hn0 : n = 0 := by omega
            have hl1 : lo = 1 := by omega
            subst hn0
            rw [List.drop_zero] at h2
            have hall := List.findSome?_eq_none_iff.mp h2.symm
            exact List.findSome?_eq_none_iff.mpr (fun x hx' => hall x (List.mem_reverse.mpr (List.mem_of_mem_drop (List.mem_reverse.mp hx'))))
        | some x =>
          have := h3 (by simp)
          rw [show lo = n by omega, ← h2]
      cases o with
      | none =>
        refine lv_aloadN hx hb d_No_topInside_127 (lv_at hl 4 rfl) ?_
        exact W.aret (v := va_rf none) hx hb hr (Or.inl ⟨_, rfl⟩) (Or.inl rfl) (fun t ht hW => ⟨⟨none, w, rfl, ⟨by rw [hres]; rfl, rfl⟩, eWo ht hI⟩, hS.F ht⟩) hS.2.2 d_No_topInside_129
      | some x =>
        refine lv_aload hx hb d_No_topInside_127 (lv_at hl 4 rfl) ?_
        exact W.aret (v := va_rf (some (mAd ms x 0))) hx hb hr (Or.inl ⟨_, rfl⟩) (Or.inr ⟨_, rfl⟩) (fun t ht hW => ⟨⟨(some (mAd ms x 0)), w, rfl, ⟨by rw [hres]; rfl, rfl⟩, eWo ht hI⟩, hS.F ht⟩) hS.2.2 d_No_topInside_129
    · have hnl : lo < n := by
        rcases Nat.lt_or_ge lo n with q | q
        · exact q
        · exact absurd ((pI_lt hn31 hlo).mpr q) c1
      cases o with
      | some x =>
        have hres : tIn d (tA d (mNx ms) (fun j => mNi ms j 0) f) k a b = some x := by
          rw [hspec, fs_app _ _ (show lo ≤ n by omega) (by rw [← h2]; simp), ← h2]
        refine lv_aload hx hb d_No_topInside_95 (lv_at hl 4 rfl) ?_
        refine lv_ifnonnull (tgt := 127) hx hb d_No_topInside_97 (by decide) ?_
        refine lv_aload hx hb d_No_topInside_127 (lv_at hl 4 rfl) ?_
        exact W.aret (v := va_rf (some (mAd ms x 0))) hx hb hr (Or.inl ⟨_, rfl⟩) (Or.inr ⟨_, rfl⟩) (fun t ht hW => ⟨⟨(some (mAd ms x 0)), w, rfl, ⟨by rw [hres]; rfl, rfl⟩, eWo ht hI⟩, hS.F ht⟩) hS.2.2 d_No_topInside_129
      | none =>
        have hz0 : 0 < (sCh d k).length := by omega
        obtain ⟨f', ef⟩ := hf0 hz0
        subst ef
        obtain ⟨hal, hel, hlc, hcap⟩ := hp'.list hk hkt hz0
        have hn1 : n - 1 < (sCh d k).length := by omega
        obtain ⟨c1', c2', c3', c4', c5', c6'⟩ := htr.child hk hkt (List.getElem_mem hn1)
        have hnc := hp'.node c1' c2'
        have en1 : nI n + Int32.ofInt (-1) = nI (n - 1) := by
          have := nI_dec (n - 1)
          rw [show n - 1 + 1 = n by omega] at this
          exact this
        refine lv_aloadN hx hb d_No_topInside_95 (lv_at hl 4 rfl) ?_
        refine lv_ifnonnullN hx hb d_No_topInside_97 ?_
        refine lv_aload_n hx hb d_No_topInside_100 rfl (lv_at hl 0 rfl) ?_
        refine hp_get (ci := 1) (v := .ref (mAd ms k 1)) (C := R_No) (T := F_No) (N := 20) hx hb hg i_No hown hK hI hn rfl 3 (by decide) (hg _ k_171) (fun _ h9 => h9) rfl d_No_topInside_101 ?_
        refine lv_iload hx hb d_No_topInside_104 (lv_at hl 5 rfl) ?_
        rw [en1]
        refine ec_o (va_runV (As := [.int (nI (n - 1))]) (rest := []) ⟨hx, hb, hml, hown, hts⟩ (m_Al_get l G S0 w (mAd ms k 1) (mAd ms k 4) (sCh d k).length (n - 1) (mCap ms k) (elF ms d k) hn1 hlc hcap hal hel) (cwV 1 hts (gw_V k_592 k_593 k_594 k_64 k_595) rfl rfl rfl (by decide +kernel) ⟨(by show 10 + (2) + 1 ≤ 10 + (3 * (f' + 1) + 5); omega), (by show 8 + (2 + 11) + (100 + 60 * (2)) ≤ 100 + 60 * (3 * (f' + 1) + 5); omega)⟩) (eB.preV hE hI hS hz rfl hal) rfl rfl hl.1 rfl (lv_room (Nat.le_of_ble_eq_true rfl)) d_No_topInside_106 ⟨Nat.le_of_ble_eq_true rfl, Nat.le_of_ble_eq_true rfl⟩) hS (fun gt w_3 H locs ew_3 hI hsz hS => ?_)
        obtain ⟨egt, ew_3⟩ := ew_3
        have ew_3 := ew_3.symm
        subst ew_3
        rw [elF_lt hn1] at egt
        subst egt
        refine va_castE hx hb hown (hg _ k_674) (hp_recv hK hI rfl hnc) d_No_topInside_109 ?_
        refine lv_dload hx hb d_No_topInside_112 (lv_at hl 1 rfl) ?_
        refine lv_dload hx hb d_No_topInside_114 (lv_at hl 2 rfl) ?_
        refine ec_o (va_runV (As := [.double (tilK d k a), .double (tilK d k b)]) (rest := []) ⟨hx, hb, hml, hown, hts⟩ (hTA f' rfl ((sCh d k)[n - 1]) c1' c2' c4' (by omega) (tilK d k a) (tilK d k b) (by rw [c5']; exact hca) (by rw [c5']; exact hcb)) (cwV 2 hts (gw_V k_675 k_677 k_30 k_61 k_678) rfl rfl rfl (by decide +kernel) ⟨(by show 10 + (3 * f' + 6) + 1 ≤ 10 + (3 * (f' + 1) + 5); omega), (by show 8 + (12 + 11) + (100 + 60 * (3 * f' + 6)) ≤ 100 + 60 * (3 * (f' + 1) + 5); omega)⟩) (eB.preV hE hI hS hz rfl hnc) rfl rfl hl.1 rfl (lv_room (Nat.le_of_ble_eq_true rfl)) d_No_topInside_116 ⟨Nat.le_of_ble_eq_true rfl, Nat.le_of_ble_eq_true rfl⟩) hS (fun tp w_4 H locs ew_4 hI hsz hS => ?_)
        obtain ⟨etp, ew_4⟩ := ew_4
        have ew_4 := ew_4.symm
        subst ew_4
        have hst : ((sCh d k).drop (n - 1)).reverse.findSome? (fun x => tA d (mNx ms) (fun j => mNi ms j 0) (f' + 1) x (tilK d k a) (tilK d k b)) = tA d (mNx ms) (fun j => mNi ms j 0) (f' + 1) ((sCh d k)[n - 1]) (tilK d k a) (tilK d k b) := fs_step _ _ hn1 (by rw [show n - 1 + 1 = n by omega]; exact h2.symm)
        cases hT : tA d (mNx ms) (fun j => mNi ms j 0) (f' + 1) ((sCh d k)[n - 1]) (tilK d k a) (tilK d k b) with
        | none =>
          rw [hT] at etp hst
          have etp : tp = none := etp
          subst etp
          refine lv_astoreN (lv' := [(10, .null), (0, .ref (mAd ms k 0)), (5, .double (tilK d k a)), (7, .double (tilK d k b)), (9, .int (nI lo)), (11, .int (nI n + Int32.ofInt (-1)))]) hx hb d_No_topInside_119 hl (by decide) rfl (fun ls hl => ?_)
          refine lv_iinc (v := nI (n - 1) + Int32.ofInt (-1)) (lv' := [(11, .int (nI (n - 1) + Int32.ofInt (-1))), (10, .null), (0, .ref (mAd ms k 0)), (5, .double (tilK d k a)), (7, .double (tilK d k b)), (9, .int (nI lo))]) hx hb d_No_topInside_121 hl (k := 5) rfl (by rw [en1]) (by decide) rfl (fun ls hl => ?_)
          refine lv_goto (tgt := 88) hx hb d_No_topInside_124 (by decide) ?_
          exact ih (n - 1) ((n - 1, none)) ls H locs (by omega) (⟨by omega, hst.symm, fun h => absurd rfl h, rfl⟩) (lv_sub hl [2, 3, 4, 5, 1, 0] rfl) hI hS
        | some x =>
          rw [hT] at etp hst
          have etp : tp = some (mAd ms x 0) := etp
          subst etp
          refine lv_astore (lv' := [(10, .ref (mAd ms x 0)), (0, .ref (mAd ms k 0)), (5, .double (tilK d k a)), (7, .double (tilK d k b)), (9, .int (nI lo)), (11, .int (nI n + Int32.ofInt (-1)))]) hx hb d_No_topInside_119 hl (by decide) rfl (fun ls hl => ?_)
          refine lv_iinc (v := nI (n - 1) + Int32.ofInt (-1)) (lv' := [(11, .int (nI (n - 1) + Int32.ofInt (-1))), (10, .ref (mAd ms x 0)), (0, .ref (mAd ms k 0)), (5, .double (tilK d k a)), (7, .double (tilK d k b)), (9, .int (nI lo))]) hx hb d_No_topInside_121 hl (k := 5) rfl (by rw [en1]) (by decide) rfl (fun ls hl => ?_)
          refine lv_goto (tgt := 88) hx hb d_No_topInside_124 (by decide) ?_
          exact ih (n - 1) ((n - 1, some x)) ls H locs (by omega) (⟨by omega, hst.symm, fun _ => by omega, rfl⟩) (lv_sub hl [2, 3, 4, 5, 1, 0] rfl) hI hS
  · refine lv_aload_n hx hb d_No_topInside_0 rfl (lv_at hl 0 rfl) ?_
    refine hp_get (ci := 1) (v := .int (sNi d k 5)) (C := R_No) (T := F_No) (N := 20) hx hb hg i_No hown hK hI hn rfl 14 (by decide) (hg _ k_194) (fun _ h9 => h9) rfl d_No_topInside_1 ?_
    refine lv_iconst (v := 2) hx hb d_No_topInside_4 (by decide) ?_
    refine lv_icmp_ne (tgt := 16) hx hb d_No_topInside_5 (by decide) (fun q2 => ?_) (fun q2 => ?_)
    · have t2a : tilK d k a = a := if_neg q2
      have t2b : tilK d k b = b := if_neg q2
      refine lv_dload_n hx hb d_No_topInside_16 rfl (lv_at hl 1 rfl) ?_
      refine lv_dstore (lv' := [(5, .double a), (0, .ref (mAd ms k 0)), (1, .double a), (3, .double b)]) hx hb d_No_topInside_17 hl (by decide) rfl (fun ls hl => ?_)
      refine lv_aload_n hx hb d_No_topInside_19 rfl (lv_at hl 1 rfl) ?_
      refine hp_get (ci := 1) (v := .int (sNi d k 5)) (C := R_No) (T := F_No) (N := 20) hx hb hg i_No hown hK hI hn rfl 14 (by decide) (hg _ k_194) (fun _ h9 => h9) rfl d_No_topInside_20 ?_
      refine lv_iconst (v := 2) hx hb d_No_topInside_23 (by decide) ?_
      refine lv_icmp_ne (tgt := 35) hx hb d_No_topInside_24 (by decide) (fun c9 => ?_) (fun c9 => absurd c9 (q2))
      refine lv_dload_n hx hb d_No_topInside_35 rfl (lv_at hl 3 rfl) ?_
      refine lv_dstore (lv' := [(7, .double b), (5, .double a), (0, .ref (mAd ms k 0)), (1, .double a), (3, .double b)]) hx hb d_No_topInside_36 hl (by decide) rfl (fun ls hl => ?_)
      refine lv_aload_n hx hb d_No_topInside_38 rfl (lv_at hl 2 rfl) ?_
      refine hp_get (ci := 1) (v := .int (sNi d k 5)) (C := R_No) (T := F_No) (N := 20) hx hb hg i_No hown hK hI hn rfl 14 (by decide) (hg _ k_194) (fun _ h9 => h9) rfl d_No_topInside_39 ?_
      refine lv_iconst (v := 1) hx hb d_No_topInside_42 (by decide) ?_
      refine lv_icmp_ne (tgt := 59) hx hb d_No_topInside_43 (by decide) (fun q1 => ?_) (fun q1 => ?_)
      · refine lv_aload_n hx hb d_No_topInside_59 rfl (lv_at hl 2 rfl) ?_
        refine hp_get (ci := 1) (v := .int (sNi d k 5)) (C := R_No) (T := F_No) (N := 20) hx hb hg i_No hown hK hI hn rfl 14 (by decide) (hg _ k_194) (fun _ h9 => h9) rfl d_No_topInside_60 ?_
        refine lv_iconst (v := 1) hx hb d_No_topInside_63 (by decide) ?_
        refine lv_icmp_ne (tgt := 71) hx hb d_No_topInside_64 (by decide) (fun c9 => ?_) (fun c9 => absurd c9 (q1))
        refine lv_iconst (v := 0) hx hb d_No_topInside_71 (by decide) ?_
        refine lv_istore (lv' := [(9, .int 0), (7, .double b), (5, .double a), (0, .ref (mAd ms k 0)), (1, .double a), (3, .double b)]) hx hb d_No_topInside_72 hl (by decide) rfl (fun ls hl => ?_)
        refine lv_null hx hb d_No_topInside_74 ?_
        refine lv_astoreN (lv' := [(10, .null), (9, .int 0), (7, .double b), (5, .double a), (0, .ref (mAd ms k 0)), (1, .double a), (3, .double b)]) hx hb d_No_topInside_75 hl (by decide) rfl (fun ls hl => ?_)
        refine lv_aload_n hx hb d_No_topInside_77 rfl (lv_at hl 4 rfl) ?_
        refine hp_get (ci := 1) (v := .ref (mAd ms k 1)) (C := R_No) (T := F_No) (N := 20) hx hb hg i_No hown hK hI hn rfl 3 (by decide) (hg _ k_171) (fun _ h9 => h9) rfl d_No_topInside_78 ?_
        refine ec_i (va_runV (As := []) (rest := []) ⟨hx, hb, hml, hown, hts⟩ (m_Al_size l G S0 w (mAd ms k 1) (elA G ms k) (sCh d k).length hal0) (cwV 0 hts (gw_V k_588 k_589 k_590 k_64 k_591) rfl rfl rfl (by decide +kernel) ⟨(by show 10 + (0) + 1 ≤ 10 + (3 * f + 5); omega), (by show 8 + (1 + 11) + (100 + 60 * (0)) ≤ 100 + 60 * (3 * f + 5); omega)⟩) (eB.preV hE hI hS hz rfl hal0) rfl rfl hl.1 rfl (lv_room (Nat.le_of_ble_eq_true rfl)) d_No_topInside_81 ⟨Nat.le_of_ble_eq_true rfl, Nat.le_of_ble_eq_true rfl⟩) hS (fun sz w_5 H locs ew_5 hI hsz hS => ?_)
        obtain ⟨esz, ew_5⟩ := ew_5
        have ew_5 := ew_5.symm
        subst ew_5
        subst esz
        refine lv_iconst (v := 1) hx hb d_No_topInside_84 (by decide) ?_
        refine lv_isub hx hb d_No_topInside_85 ?_
        rw [pI_sub]
        refine lv_istore (lv' := [(11, .int (nI (sCh d k).length + Int32.ofInt (-1))), (10, .null), (9, .int 0), (7, .double b), (5, .double a), (0, .ref (mAd ms k 0)), (1, .double a), (3, .double b)]) hx hb d_No_topInside_86 hl (by decide) rfl (fun ls hl => ?_)
        rw [← t2a, ← t2b] at hl
        exact J (0) ls H locs (⟨by omega, ⟨fun h => absurd h (by decide), fun h => absurd h q1⟩, fun h => absurd h q1⟩) (lv_sub hl [5, 4, 3, 2, 1, 0] rfl) hI hS
      · have hcaR : pOk (dp k) a := by rw [← t2a]; exact hca
        have hcbR : pOk (dp k) b := by rw [← t2b]; exact hcb
        by_cases hz0 : 0 < (sCh d k).length
        · obtain ⟨f', ef⟩ := hf0 hz0
          subst ef
          refine lv_aload_n hx hb d_No_topInside_46 rfl (lv_at hl 2 rfl) ?_
          refine lv_dload hx hb d_No_topInside_47 (lv_at hl 1 rfl) ?_
          refine lv_dload hx hb d_No_topInside_49 (lv_at hl 0 rfl) ?_
          refine ec_i (va_runV (As := [.double a, .double b]) (rest := []) ⟨hx, hb, hml, hown, hts⟩ (m_No_firstHas l G S0 w ms d dp hp' htr f' (hTA f' rfl) k hk hkt hdk a b hcaR hcbR) (cwV 2 hts (gw_V k_666 k_668 k_29 k_61 k_669) rfl rfl rfl (by decide +kernel) ⟨(by show 10 + (3 * f' + 7) + 1 ≤ 10 + (3 * (f' + 1) + 5); omega), (by show 8 + (5 + 11) + (100 + 60 * (3 * f' + 7)) ≤ 100 + 60 * (3 * (f' + 1) + 5); omega)⟩) (eB.preV hE hI hS hz rfl hn) rfl rfl hl.1 rfl (lv_room (Nat.le_of_ble_eq_true rfl)) d_No_topInside_51 ⟨Nat.le_of_ble_eq_true rfl, Nat.le_of_ble_eq_true rfl⟩) hS (fun fh w_6 H locs ew_6 hI hsz hS => ?_)
          obtain ⟨efh, ew_6⟩ := ew_6
          have ew_6 := ew_6.symm
          subst ew_6
          cases hF : fstH (sCh d k) (fun x => tA d (mNx ms) (fun j => mNi ms j 0) (f' + 1) x a b) with
          | false =>
            rw [hF] at efh
            have efh : fh = 0 := efh
            subst efh
            refine lv_if_ne (tgt := 59) hx hb d_No_topInside_54 (by decide) (fun c9 => absurd c9 ((fun h => h rfl))) (fun c9 => ?_)
            refine lv_null hx hb d_No_topInside_57 ?_
            exact W.aret (v := va_rf none) hx hb hr (Or.inl ⟨_, rfl⟩) (Or.inl rfl) (fun t ht hW => ⟨⟨none, w, rfl, ⟨by unfold tIn; rw [if_pos q1, t2a, t2b, hF]; rfl, rfl⟩, eWo ht hI⟩, hS.F ht⟩) hS.2.2 d_No_topInside_58
          | true =>
            rw [hF] at efh
            have efh : fh = 1 := efh
            subst efh
            refine lv_if_ne (tgt := 59) hx hb d_No_topInside_54 (by decide) (fun c9 => ?_) (fun c9 => absurd c9 (by decide))
            refine lv_aload_n hx hb d_No_topInside_59 rfl (lv_at hl 2 rfl) ?_
            refine hp_get (ci := 1) (v := .int (sNi d k 5)) (C := R_No) (T := F_No) (N := 20) hx hb hg i_No hown hK hI hn rfl 14 (by decide) (hg _ k_194) (fun _ h9 => h9) rfl d_No_topInside_60 ?_
            refine lv_iconst (v := 1) hx hb d_No_topInside_63 (by decide) ?_
            refine lv_icmp_ne (tgt := 71) hx hb d_No_topInside_64 (by decide) (fun c9 => absurd c9 ((fun h => h q1))) (fun c9 => ?_)
            refine lv_iconst (v := 1) hx hb d_No_topInside_67 (by decide) ?_
            refine lv_goto (tgt := 72) hx hb d_No_topInside_68 (by decide) ?_
            refine lv_istore (lv' := [(9, .int 1), (7, .double b), (5, .double a), (0, .ref (mAd ms k 0)), (1, .double a), (3, .double b)]) hx hb d_No_topInside_72 hl (by decide) rfl (fun ls hl => ?_)
            refine lv_null hx hb d_No_topInside_74 ?_
            refine lv_astoreN (lv' := [(10, .null), (9, .int 1), (7, .double b), (5, .double a), (0, .ref (mAd ms k 0)), (1, .double a), (3, .double b)]) hx hb d_No_topInside_75 hl (by decide) rfl (fun ls hl => ?_)
            refine lv_aload_n hx hb d_No_topInside_77 rfl (lv_at hl 4 rfl) ?_
            refine hp_get (ci := 1) (v := .ref (mAd ms k 1)) (C := R_No) (T := F_No) (N := 20) hx hb hg i_No hown hK hI hn rfl 3 (by decide) (hg _ k_171) (fun _ h9 => h9) rfl d_No_topInside_78 ?_
            refine ec_i (va_runV (As := []) (rest := []) ⟨hx, hb, hml, hown, hts⟩ (m_Al_size l G S0 w (mAd ms k 1) (elA G ms k) (sCh d k).length hal0) (cwV 0 hts (gw_V k_588 k_589 k_590 k_64 k_591) rfl rfl rfl (by decide +kernel) ⟨(by show 10 + (0) + 1 ≤ 10 + (3 * (f' + 1) + 5); omega), (by show 8 + (1 + 11) + (100 + 60 * (0)) ≤ 100 + 60 * (3 * (f' + 1) + 5); omega)⟩) (eB.preV hE hI hS hz rfl hal0) rfl rfl hl.1 rfl (lv_room (Nat.le_of_ble_eq_true rfl)) d_No_topInside_81 ⟨Nat.le_of_ble_eq_true rfl, Nat.le_of_ble_eq_true rfl⟩) hS (fun sz w_7 H locs ew_7 hI hsz hS => ?_)
            obtain ⟨esz, ew_7⟩ := ew_7
            have ew_7 := ew_7.symm
            subst ew_7
            subst esz
            refine lv_iconst (v := 1) hx hb d_No_topInside_84 (by decide) ?_
            refine lv_isub hx hb d_No_topInside_85 ?_
            rw [pI_sub]
            refine lv_istore (lv' := [(11, .int (nI (sCh d k).length + Int32.ofInt (-1))), (10, .null), (9, .int 1), (7, .double b), (5, .double a), (0, .ref (mAd ms k 0)), (1, .double a), (3, .double b)]) hx hb d_No_topInside_86 hl (by decide) rfl (fun ls hl => ?_)
            rw [← t2a, ← t2b] at hl
            exact J (1) ls H locs (⟨by omega, ⟨fun _ => q1, fun _ => rfl⟩, fun _ => by rw [t2a, t2b]; exact hF⟩) (lv_sub hl [5, 4, 3, 2, 1, 0] rfl) hI hS
        · have hnil := List.eq_nil_of_length_eq_zero (show (sCh d k).length = 0 by omega)
          refine lv_aload_n hx hb d_No_topInside_46 rfl (lv_at hl 2 rfl) ?_
          refine lv_dload hx hb d_No_topInside_47 (lv_at hl 1 rfl) ?_
          refine lv_dload hx hb d_No_topInside_49 (lv_at hl 0 rfl) ?_
          refine ec_i (va_runV (As := [.double a, .double b]) (rest := []) ⟨hx, hb, hml, hown, hts⟩ (m_No_firstHas0 l G S0 w ms d hp' k hk hkt hnil a b) (cwV 2 hts (gw_V k_666 k_668 k_29 k_61 k_669) rfl rfl rfl (by decide +kernel) ⟨(by show 10 + (1) + 1 ≤ 10 + (3 * f + 5); omega), (by show 8 + (5 + 11) + (100 + 60 * (1)) ≤ 100 + 60 * (3 * f + 5); omega)⟩) (eB.preV hE hI hS hz rfl hn) rfl rfl hl.1 rfl (lv_room (Nat.le_of_ble_eq_true rfl)) d_No_topInside_51 ⟨Nat.le_of_ble_eq_true rfl, Nat.le_of_ble_eq_true rfl⟩) hS (fun fh w_8 H locs ew_8 hI hsz hS => ?_)
          obtain ⟨efh, ew_8⟩ := ew_8
          have ew_8 := ew_8.symm
          subst ew_8
          subst efh
          refine lv_if_ne (tgt := 59) hx hb d_No_topInside_54 (by decide) (fun c9 => absurd c9 ((fun h => h rfl))) (fun c9 => ?_)
          refine lv_null hx hb d_No_topInside_57 ?_
          exact W.aret (v := va_rf none) hx hb hr (Or.inl ⟨_, rfl⟩) (Or.inl rfl) (fun t ht hW => ⟨⟨none, w, rfl, ⟨by unfold tIn; rw [if_pos q1, hnil]; rfl, rfl⟩, eWo ht hI⟩, hS.F ht⟩) hS.2.2 d_No_topInside_58
    · have t2a : tilK d k a = tilF (sNd d k 4) a := if_pos q2
      have t2b : tilK d k b = tilF (sNd d k 4) b := if_pos q2
      refine lv_aload_n hx hb d_No_topInside_8 rfl (lv_at hl 0 rfl) ?_
      refine lv_dload_n hx hb d_No_topInside_9 rfl (lv_at hl 1 rfl) ?_
      refine ec_d (va_runV (As := [.double a]) (rest := []) ⟨hx, hb, hml, hown, hts⟩ (m_No_inTile l G S0 w ms d hp' hv0 k hk hkt (dp k) hdk5 a ha) (cwV 1 hts (gw_V k_661 k_663 k_28 k_61 k_664) rfl rfl rfl (by decide +kernel) ⟨(by show 10 + (1) + 1 ≤ 10 + (3 * f + 5); omega), (by show 8 + (3 + 11) + (100 + 60 * (1)) ≤ 100 + 60 * (3 * f + 5); omega)⟩) (eB.preV hE hI hS hz rfl hn) rfl rfl hl.1 rfl (lv_room (Nat.le_of_ble_eq_true rfl)) d_No_topInside_10 ⟨Nat.le_of_ble_eq_true rfl, Nat.le_of_ble_eq_true rfl⟩) hS (fun ta w_9 H locs ew_9 hI hsz hS => ?_)
      obtain ⟨eta, ew_9⟩ := ew_9
      have ew_9 := ew_9.symm
      subst ew_9
      subst eta
      refine lv_goto (tgt := 17) hx hb d_No_topInside_13 (by decide) ?_
      refine lv_dstore (lv' := [(5, .double (tilF (sNd d k 4) a)), (0, .ref (mAd ms k 0)), (1, .double a), (3, .double b)]) hx hb d_No_topInside_17 hl (by decide) rfl (fun ls hl => ?_)
      refine lv_aload_n hx hb d_No_topInside_19 rfl (lv_at hl 1 rfl) ?_
      refine hp_get (ci := 1) (v := .int (sNi d k 5)) (C := R_No) (T := F_No) (N := 20) hx hb hg i_No hown hK hI hn rfl 14 (by decide) (hg _ k_194) (fun _ h9 => h9) rfl d_No_topInside_20 ?_
      refine lv_iconst (v := 2) hx hb d_No_topInside_23 (by decide) ?_
      refine lv_icmp_ne (tgt := 35) hx hb d_No_topInside_24 (by decide) (fun c9 => absurd c9 ((fun h => h q2))) (fun c9 => ?_)
      refine lv_aload_n hx hb d_No_topInside_27 rfl (lv_at hl 1 rfl) ?_
      refine lv_dload_n hx hb d_No_topInside_28 rfl (lv_at hl 3 rfl) ?_
      refine ec_d (va_runV (As := [.double b]) (rest := []) ⟨hx, hb, hml, hown, hts⟩ (m_No_inTile l G S0 w ms d hp' hv0 k hk hkt (dp k) hdk5 b hb') (cwV 1 hts (gw_V k_661 k_663 k_28 k_61 k_664) rfl rfl rfl (by decide +kernel) ⟨(by show 10 + (1) + 1 ≤ 10 + (3 * f + 5); omega), (by show 8 + (3 + 11) + (100 + 60 * (1)) ≤ 100 + 60 * (3 * f + 5); omega)⟩) (eB.preV hE hI hS hz rfl hn) rfl rfl hl.1 rfl (lv_room (Nat.le_of_ble_eq_true rfl)) d_No_topInside_29 ⟨Nat.le_of_ble_eq_true rfl, Nat.le_of_ble_eq_true rfl⟩) hS (fun tb w_10 H locs ew_10 hI hsz hS => ?_)
      obtain ⟨etb, ew_10⟩ := ew_10
      have ew_10 := ew_10.symm
      subst ew_10
      subst etb
      refine lv_goto (tgt := 36) hx hb d_No_topInside_32 (by decide) ?_
      refine lv_dstore (lv' := [(7, .double (tilF (sNd d k 4) b)), (5, .double (tilF (sNd d k 4) a)), (0, .ref (mAd ms k 0)), (1, .double a), (3, .double b)]) hx hb d_No_topInside_36 hl (by decide) rfl (fun ls hl => ?_)
      refine lv_aload_n hx hb d_No_topInside_38 rfl (lv_at hl 2 rfl) ?_
      refine hp_get (ci := 1) (v := .int (sNi d k 5)) (C := R_No) (T := F_No) (N := 20) hx hb hg i_No hown hK hI hn rfl 14 (by decide) (hg _ k_194) (fun _ h9 => h9) rfl d_No_topInside_39 ?_
      refine lv_iconst (v := 1) hx hb d_No_topInside_42 (by decide) ?_
      refine lv_icmp_ne (tgt := 59) hx hb d_No_topInside_43 (by decide) (fun c9 => ?_) (fun c9 => absurd c9 ((by rw [q2]; decide)))
      refine lv_aload_n hx hb d_No_topInside_59 rfl (lv_at hl 2 rfl) ?_
      refine hp_get (ci := 1) (v := .int (sNi d k 5)) (C := R_No) (T := F_No) (N := 20) hx hb hg i_No hown hK hI hn rfl 14 (by decide) (hg _ k_194) (fun _ h9 => h9) rfl d_No_topInside_60 ?_
      refine lv_iconst (v := 1) hx hb d_No_topInside_63 (by decide) ?_
      refine lv_icmp_ne (tgt := 71) hx hb d_No_topInside_64 (by decide) (fun c9 => ?_) (fun c9 => absurd c9 ((by rw [q2]; decide)))
      refine lv_iconst (v := 0) hx hb d_No_topInside_71 (by decide) ?_
      refine lv_istore (lv' := [(9, .int 0), (7, .double (tilF (sNd d k 4) b)), (5, .double (tilF (sNd d k 4) a)), (0, .ref (mAd ms k 0)), (1, .double a), (3, .double b)]) hx hb d_No_topInside_72 hl (by decide) rfl (fun ls hl => ?_)
      refine lv_null hx hb d_No_topInside_74 ?_
      refine lv_astoreN (lv' := [(10, .null), (9, .int 0), (7, .double (tilF (sNd d k 4) b)), (5, .double (tilF (sNd d k 4) a)), (0, .ref (mAd ms k 0)), (1, .double a), (3, .double b)]) hx hb d_No_topInside_75 hl (by decide) rfl (fun ls hl => ?_)
      refine lv_aload_n hx hb d_No_topInside_77 rfl (lv_at hl 4 rfl) ?_
      refine hp_get (ci := 1) (v := .ref (mAd ms k 1)) (C := R_No) (T := F_No) (N := 20) hx hb hg i_No hown hK hI hn rfl 3 (by decide) (hg _ k_171) (fun _ h9 => h9) rfl d_No_topInside_78 ?_
      refine ec_i (va_runV (As := []) (rest := []) ⟨hx, hb, hml, hown, hts⟩ (m_Al_size l G S0 w (mAd ms k 1) (elA G ms k) (sCh d k).length hal0) (cwV 0 hts (gw_V k_588 k_589 k_590 k_64 k_591) rfl rfl rfl (by decide +kernel) ⟨(by show 10 + (0) + 1 ≤ 10 + (3 * f + 5); omega), (by show 8 + (1 + 11) + (100 + 60 * (0)) ≤ 100 + 60 * (3 * f + 5); omega)⟩) (eB.preV hE hI hS hz rfl hal0) rfl rfl hl.1 rfl (lv_room (Nat.le_of_ble_eq_true rfl)) d_No_topInside_81 ⟨Nat.le_of_ble_eq_true rfl, Nat.le_of_ble_eq_true rfl⟩) hS (fun sz w_11 H locs ew_11 hI hsz hS => ?_)
      obtain ⟨esz, ew_11⟩ := ew_11
      have ew_11 := ew_11.symm
      subst ew_11
      subst esz
      refine lv_iconst (v := 1) hx hb d_No_topInside_84 (by decide) ?_
      refine lv_isub hx hb d_No_topInside_85 ?_
      rw [pI_sub]
      refine lv_istore (lv' := [(11, .int (nI (sCh d k).length + Int32.ofInt (-1))), (10, .null), (9, .int 0), (7, .double (tilF (sNd d k 4) b)), (5, .double (tilF (sNd d k 4) a)), (0, .ref (mAd ms k 0)), (1, .double a), (3, .double b)]) hx hb d_No_topInside_86 hl (by decide) rfl (fun ls hl => ?_)
      rw [← t2a, ← t2b] at hl
      exact J (0) ls H locs (⟨by omega, ⟨fun h => absurd h (by decide), fun h => absurd (q2.symm.trans h) (by decide)⟩, fun h => absurd (q2.symm.trans h) (by decide)⟩) (lv_sub hl [5, 4, 3, 2, 1, 0] rfl) hI hS

/-! the model: heights and counts -/
theorem mO.th {X : XS} {d : DS} {dp : Nat → Nat} {L : List Nat} (h : mO X d dp L) {i : Nat} (hi : i < L.length) : L[i] < 14 ∧ sTh d L[i] = true := (h.2.1 _).mp (List.getElem_mem hi)
theorem mO.nn {X : XS} {d : DS} {dp : Nat → Nat} {L : List Nat} (h : mO X d dp L) : X.2.2.1 = nI L.length := h.2.2.2.2.1
theorem mO.le {X : XS} {d : DS} {dp : Nat → Nat} {L : List Nat} (h : mO X d dp L) : L.length ≤ 14 := h.2.2.2.1
theorem mO.od {X : XS} {d : DS} {dp : Nat → Nat} {L : List Nat} (h : mO X d dp L) {i : Nat} (hi : i < L.length) : X.1 11 i = nI L[i] := h.2.2.2.2.2.1 i hi
theorem mO.de {X : XS} {d : DS} {dp : Nat → Nat} {L : List Nat} (h : mO X d dp L) {k : Nat} (hk : k < 14) (ht : sTh d k = true) : X.1 13 k = nI (dp k) := h.2.2.2.2.2.2.1 k ((h.2.1 k).mpr ⟨hk, ht⟩)
theorem inn_dp {d : DS} {dp : Nat → Nat} (htr : tOk d dp) {k : Nat} : ∀ j c, c < 14 → sTh d c = true → upN d j c = some k → dp k ≤ dp c := by
  intro j
  induction j with
  | zero =>
    intro c _ _ h
    cases Option.some.inj h
    exact Nat.le_refl _
  | succ j ih =>
    intro c h1 h2 h
    rcases htr.up h1 h2 with ⟨-, e, -⟩ | ⟨g, q1, q2, q3, -, q5, -⟩
    · simp [upN, e] at h
    · have := ih g q1 q3 (by simpa [upN, q2] using h)
      omega
theorem inn_root {d : DS} {dp : Nat → Nat} (htr : tOk d dp) : ∀ n c, dp c = n → c < 14 → sTh d c = true → inn d c 0 := by
  intro n
  induction n with
  | zero =>
    intro c h1 h2 h3
    rcases htr.up h2 h3 with ⟨e, -, -⟩ | ⟨g, -, -, -, -, e, -⟩
    · rw [e]; exact inn_self d 0
    · omega
  | succ n ih =>
    intro c h1 h2 h3
    rcases htr.up h2 h3 with ⟨e, -, -⟩ | ⟨g, q1, q2, q3, -, e, -⟩
    · rw [e]; exact inn_self d 0
    · exact (inn_iff d c 0).mpr (Or.inr ⟨g, q2, ih g (by omega) q1 q3⟩)
theorem mxD_le {d : DS} {dp : Nat → Nat} {n B : Nat} : ∀ i, (∀ c, c < i → sTh d c = true → inn d c n → dp c ≤ B) → mxD d dp n i ≤ B
  | 0, _ => Nat.zero_le _
  | i + 1, h => by
    have ih := mxD_le (d := d) (dp := dp) (n := n) (B := B) i (fun c hc => h c (by omega))
    by_cases q : sTh d i = true ∧ inn d i n
    · rw [mxD_y q]
      have := h i (by omega) q.1 q.2
      omega
    · rw [mxD_n q]; exact ih
noncomputable def sP (p : Nat → Prop) (f : Nat → Nat) : Nat → Nat
  | 0 => 0
  | i + 1 => sP p f i + @ite Nat (p i) (Classical.propDecidable _) (f i) 0
theorem sP_y {p : Nat → Prop} {f : Nat → Nat} {i : Nat} (h : p i) : sP p f (i + 1) = sP p f i + f i := by
  show sP p f i + @ite Nat (p i) (Classical.propDecidable _) (f i) 0 = _
  rw [if_pos h]
theorem sP_n {p : Nat → Prop} {f : Nat → Nat} {i : Nat} (h : ¬ p i) : sP p f (i + 1) = sP p f i := by
  show sP p f i + @ite Nat (p i) (Classical.propDecidable _) (f i) 0 = _
  rw [if_neg h]
  rfl
theorem sP_congr {p q : Nat → Prop} {f : Nat → Nat} : ∀ n, (∀ i, i < n → (p i ↔ q i)) → sP p f n = sP q f n
  | 0, _ => rfl
  | n + 1, h => by
    have ih := sP_congr (f := f) n (fun i hi => h i (by omega))
    by_cases e : p n
    · rw [sP_y e, sP_y ((h n (by omega)).mp e), ih]
    · rw [sP_n e, sP_n (fun e' => e ((h n (by omega)).mpr e')), ih]
theorem sP_cons {f : Nat → Nat} {x : Nat} {L : List Nat} (hx : x ∉ L) : ∀ n, x < n → sP (· ∈ x :: L) f n = f x + sP (· ∈ L) f n
  | 0, h => absurd h (Nat.not_lt_zero x)
  | n + 1, h => by
    by_cases e : x = n
    · subst e
      rw [sP_y (List.mem_cons_self), sP_n (p := (· ∈ L)) hx, sP_congr (q := (· ∈ L)) x (fun i hi => ⟨fun h => by rcases List.mem_cons.mp h with q | q; { omega }; { exact q }, fun h => List.mem_cons_of_mem _ h⟩)]
      omega
    · have ih := sP_cons (f := f) hx n (by omega)
      by_cases q : n ∈ L
      · rw [sP_y (List.mem_cons_of_mem _ q), sP_y (p := (· ∈ L)) q, ih]
        omega
      · rw [sP_n (fun h => by rcases List.mem_cons.mp h with r | r; { exact e r.symm }; { exact q r }), sP_n (p := (· ∈ L)) q, ih]
theorem sP_list {f : Nat → Nat} {n : Nat} : ∀ L : List Nat, L.Nodup → (∀ c ∈ L, c < n) → (L.map f).sum = sP (· ∈ L) f n
  | [], _, _ => by
    have : ∀ n, sP (· ∈ ([] : List Nat)) f n = 0 := by
      intro n
      induction n with
      | zero => rfl
      | succ n ih => rw [sP_n (by simp), ih]
    rw [this]
    rfl
  | x :: L, h1, h2 => by
    have h1 := List.nodup_cons.mp h1
    rw [List.map_cons, List.sum_cons, sP_list L h1.2 (fun c hc => h2 c (List.mem_cons_of_mem _ hc)), sP_cons h1.1 n (h2 x List.mem_cons_self)]
theorem sP_fTh (d : DS) : ∀ n, fTh d n = sP (fun i => sTh d i = true) (fun i => frS d i 4) n
  | 0 => rfl
  | n + 1 => by
    show fTh d n + (if sTh d n = true then frS d n 4 else 0) = _
    by_cases e : sTh d n = true
    · rw [sP_y e, if_pos e, sP_fTh d n]
    · rw [sP_n e, if_neg e, sP_fTh d n]; rfl
theorem sP_nTh (d : DS) : ∀ n, nTh d n = sP (fun i => sTh d i = true) (fun _ => 1) n
  | 0 => rfl
  | n + 1 => by
    show nTh d n + (if sTh d n = true then 1 else 0) = _
    by_cases e : sTh d n = true
    · rw [sP_y e, if_pos e, sP_nTh d n]
    · rw [sP_n e, if_neg e, sP_nTh d n]; rfl
theorem mO.sum {X : XS} {d : DS} {dp : Nat → Nat} {L : List Nat} (h : mO X d dp L) (f : Nat → Nat) : (L.map f).sum = sP (fun i => sTh d i = true) f 14 := by
  rw [sP_list (n := 14) L h.1 (fun c hc => ((h.2.1 c).mp hc).1)]
  exact sP_congr 14 (fun i hi => ⟨fun q => ((h.2.1 i).mp q).2, fun q => (h.2.1 i).mpr ⟨hi, q⟩⟩)
theorem mO.cnt {X : XS} {d : DS} {dp : Nat → Nat} {L : List Nat} (h : mO X d dp L) : L.length = nTh d 14 := by
  rw [sP_nTh, ← h.sum (fun _ => 1)]
  clear h
  induction L with
  | nil => rfl
  | cons x L ih => rw [List.map_cons, List.sum_cons, List.length_cons, ← ih]; omega
theorem sum_take {L : List Nat} {f : Nat → Nat} {i : Nat} (hi : i < L.length) : ((L.take (i + 1)).map f).sum = ((L.take i).map f).sum + f L[i] := by
  rw [List.take_succ_eq_append_getElem hi, List.map_append, List.sum_append]
  simp
/-- the greatest depth met so far, over a base -/
def hgI (d : DS) (dp : Nat → Nat) (L : List Nat) (P : Nat → Prop) (b i h : Nat) : Prop := h ≤ 5 ∧ (∀ a (ha : a < L.length), a < i → P L[a] → dp L[a] ≤ b + h) ∧ (h = 0 ∨ ∃ c, c < 14 ∧ sTh d c = true ∧ P c ∧ dp c = b + h)
theorem hgI.fin {X : XS} {d : DS} {dp : Nat → Nat} {L : List Nat} {n h : Nat} (hO : mO X d dp L) (hn : n < 14) (hnt : sTh d n = true) (hg : hgI d dp L (fun c => inn d c n) (dp n) L.length h) : mxD d dp n 14 = dp n + h := by
  refine Nat.le_antisymm (mxD_le 14 (fun c hc hct hci => ?_)) ?_
  · obtain ⟨a, ha, ea⟩ := List.getElem_of_mem ((hO.2.1 c).mpr ⟨hc, hct⟩)
    have := hg.2.1 a ha ha
    rw [ea] at this
    exact this hci
  · rcases hg.2.2 with e | ⟨c, h1, h2, h3, h4⟩
    · rw [e]
      exact mxD_ge ⟨hnt, inn_self d n⟩ 14 hn
    · rw [← h4]
      exact mxD_ge ⟨h2, h3⟩ 14 h1
theorem hgI.keep {d : DS} {dp : Nat → Nat} {L : List Nat} {P : Nat → Prop} {b i h : Nat} (hg : hgI d dp L P b i h) (hi : i < L.length) (hn : P L[i] → dp L[i] ≤ b + h) : hgI d dp L P b (i + 1) h := by
  refine ⟨hg.1, fun a ha hai hp => ?_, hg.2.2⟩
  rcases Nat.lt_or_ge a i with q | q
  · exact hg.2.1 a ha q hp
  · obtain rfl : a = i := by omega
    exact hn hp
theorem hgI.up {d : DS} {dp : Nat → Nat} {L : List Nat} {P : Nat → Prop} {b i h c h' : Nat} (hg : hgI d dp L P b i h) (hi : i < L.length) (ec : L[i] = c) (hh : h ≤ h') (h5 : h' ≤ 5) (h1 : c < 14) (h2 : sTh d c = true) (hp : P c) (e : dp c = b + h') : hgI d dp L P b (i + 1) h' := by
  refine ⟨h5, fun a ha hai hpa => ?_, Or.inr ⟨c, h1, h2, hp, e⟩⟩
  rcases Nat.lt_or_ge a i with q | q
  · have := hg.2.1 a ha q hpa
    omega
  · obtain rfl : a = i := by omega
    rw [ec, e]
    exact Nat.le_refl _
set_option maxHeartbeats 4000000 in
set_option maxRecDepth 100000 in
theorem m_Mo_height (l : Launch) (G : EG) (S0 : Nat) (Q : Nat → Nat) (hQ : qInj Q) (X : XS) (w0 : hp_M) (d : DS) (dp : Nat → Nat) (htr : tOk d dp) (hM : mV X d) (L : List Nat) (hO : mO X d dp L) (k : Nat) (hk : k < 14) (hkt : sTh d k = true) : Met l y_Mo_height w_Mo_height (rl 1 0 0) (eP G S0 (mW G Q X w0) [.ref (Q 25), .int (nI k)]) (va_Qi (fun r z => r = nI (mxD d dp k 14 - dp k) ∧ z = mW G Q X w0) (eW G S0) (hp_A S0)) 0 0 (hp_A S0) := by
  refine Met.ofW (cc := b_Mo_height) (maxL := 5) (ret := (some .int)) (by decide) rfl ?_
  intro p e s m args below meth c s₁ B hml hv
  obtain ⟨rfl, hE, hI, hz⟩ := hv
  have hx := B.exec
  have hb := B.bytes
  have hr := B.returns
  have hts := atoms_spec (ws := w_Mo_height) B.pre
  have hg : ∀ w ∈ gw, w.before _ s = true := fun w h => hts w (List.mem_cons_of_mem _ h)
  have hown : s.vm.findClass "SceneEaselModel" = some m.cls := findClass_of_methodNamed B.named
  have hlocks := B.notSynchronized
  have hK := hE.K
  have hS : va_S (hp_A S0) s.heap s.heap [] := va_S.rf
  have hl := lv_entry ([.ref (Q 25), .int (nI k)]) (n := 5) (Nat.le_of_ble_eq_true rfl)
  rw [lg_entry_eq]
  generalize (lg_sl ([.ref (Q 25), .int (nI k)]) ++ List.replicate (5 - (lg_sl ([.ref (Q 25), .int (nI k)])).length) Slot.unset).toArray = ls at hl ⊢
  have hl : lv_has ls 5 [(0, .ref (Q 25)), (1, .int (nI k))] := hl
  have hL := hO.le
  have hk5 := htr.2.2.2.2.2.2 k hk hkt
  refine lv_iconst (v := 0) hx hb d_Mo_height_0 (by decide) ?_
  refine lv_istore_n (lv' := [(2, .int 0), (0, .ref (Q 25)), (1, .int (nI k))]) hx hb d_Mo_height_1 rfl hl (by decide) rfl (fun ls hl => ?_)
  refine lv_iconst (v := 0) hx hb d_Mo_height_2 (by decide) ?_
  refine lv_istore_n (lv' := [(3, .int 0), (2, .int 0), (0, .ref (Q 25)), (1, .int (nI k))]) hx hb d_Mo_height_3 rfl hl (by decide) rfl (fun ls hl => ?_)
  refine W.lpw (fun j (q : Nat × Nat) => match q with | (i, h) => i ≤ L.length ∧ j = L.length - i ∧ hgI d dp L (fun c => inn d c k) (dp k) i h) (fun (q : Nat × Nat) => match q with | (i, h) => (mW G Q X w0)) (fun (q : Nat × Nat) => match q with | (i, h) => [(3, .int (nI i)), (2, .int (nI h)), (0, .ref (Q 25)), (1, .int (nI k))]) (fun (q : Nat × Nat) => match q with | (i, h) => 0) (fun (q : Nat × Nat) => match q with | (i, h) => 0) 5 4 (fun (q : Nat × Nat) => match q with | (i, h) => []) (L.length) ((0, 0)) (⟨Nat.zero_le _, rfl, Nat.zero_le _, fun a ha h => absurd h (Nat.not_lt_zero a), Or.inl rfl⟩) (lv_sub hl [0, 1, 2, 3] rfl) hI hS ?_
  rintro j ⟨i, h⟩ ls H locs hP hl hI hS O
  try dsimp only at hP hl hI ⊢
  obtain ⟨h1, ej, hg9⟩ := hP
  have hg5 := hg9.1
  refine lv_iload_n hx hb d_Mo_height_4 rfl (lv_at hl 0 rfl) ?_
  refine lv_aload_n hx hb d_Mo_height_5 rfl (lv_at hl 2 rfl) ?_
  refine hp_get (ci := 5) (v := .int X.2.2.1) (C := R_Mo) (T := F_Mo) (N := 28) hx hb hg i_Mo hown hK hI (mw_o hQ) rfl 25 (by decide) (hg _ k_798) (fun _ h9 => h9) rfl d_Mo_height_6 ?_
  refine mv_i (y := nI L.length) (hO.nn) ?_
  refine mv_cge (tgt := 69) hx hb i (L.length) rfl rfl (by omega) (by omega) d_Mo_height_9 (by decide) (fun c1 => ?_) (fun c1 => ?_)
  · refine lv_iload_n hx hb d_Mo_height_69 rfl (lv_at hl 1 rfl) ?_
    have hfin := hgI.fin (h := h) hO hk hkt (by rw [show L.length = i by omega]; exact hg9)
    exact W.iret (v := (nI h)) hx hb hr (fun t9 ht9 hW9 => ⟨⟨(nI h), (mW G Q X w0), rfl, ⟨by rw [hfin, Nat.add_sub_cancel_left], rfl⟩, eWo ht9 hI⟩, hS.F ht9⟩) hS.2.2 d_Mo_height_70
  · obtain ⟨c0, ec0⟩ : ∃ c0, L[i] = c0 := ⟨_, rfl⟩
    obtain ⟨hc1, hc2⟩ := hO.th c1
    rw [ec0] at hc1 hc2
    have hc5 := htr.2.2.2.2.2.2 c0 hc1 hc2
    refine lv_aload_n hx hb d_Mo_height_12 rfl (lv_at hl 2 rfl) ?_
    refine hp_get (ci := 5) (v := .ref (Q 11)) (C := R_Mo) (T := F_Mo) (N := 28) hx hb hg i_Mo hown hK hI (mw_o hQ) rfl 11 (by decide) (hg _ k_784) (fun _ h9 => h9) rfl d_Mo_height_13 ?_
    refine lv_iload_n hx hb d_Mo_height_16 rfl (lv_at hl 0 rfl) ?_
    refine mv_iald hx hb hK hI 0 (X.1 11) (mw_11 hQ) rfl i (rfl) (by omega) (by decide) d_Mo_height_17 ?_
    refine mv_i (y := nI c0) ((hO.od c1).trans (by rw [ec0])) ?_
    refine lv_istore (lv' := [(4, .int (nI c0)), (3, .int (nI i)), (2, .int (nI h)), (0, .ref (Q 25)), (1, .int (nI k))]) hx hb d_Mo_height_18 hl (by decide) rfl (fun ls hl => ?_)
    refine lv_aload_n hx hb d_Mo_height_20 rfl (lv_at hl 3 rfl) ?_
    refine lv_iload hx hb d_Mo_height_21 (lv_at hl 0 rfl) ?_
    refine lv_iload_n hx hb d_Mo_height_23 rfl (lv_at hl 4 rfl) ?_
    refine ec_i (va_runV (As := [.int (nI c0), .int (nI k)]) (rest := []) ⟨hx, hb, hml, hown, hts⟩ (m_Mo_within l G S0 Q hQ X w0 d dp htr (fun k h1 h2 => hM.pa h1 h2) c0 k hc1 hc2 hk) (cwV 2 hts (gw_V k_936 k_938 k_48 k_67 k_939) rfl rfl rfl (by decide +kernel) ⟨Nat.le_of_ble_eq_true rfl, Nat.le_of_ble_eq_true rfl⟩) (eB.preV hE hI hS hz rfl (mw_o hQ)) rfl rfl hl.1 rfl (lv_room (Nat.le_of_ble_eq_true rfl)) d_Mo_height_24 ⟨Nat.le_of_ble_eq_true rfl, Nat.le_of_ble_eq_true rfl⟩) hS (fun r_2 w_1 H locs ew_1 hI hsz hS => ?_)
    obtain ⟨ew_1, hw⟩ := ew_1
    have ew_1 := ew_1.symm
    subst ew_1
    obtain ⟨b, eb, hw⟩ := hw
    subst eb
    refine mv_zeq (tgt := 63) hx hb b rfl d_Mo_height_27 (by decide) (fun c2 => ?_) (fun c2 => ?_)
    · refine lv_iinc (v := nI (i + 1)) (lv' := [(3, .int (nI (i + 1))), (4, .int (nI c0)), (2, .int (nI h)), (0, .ref (Q 25)), (1, .int (nI k))]) hx hb d_Mo_height_63 hl (k := 1) rfl (nI_inc i) (by decide) rfl (fun ls hl => ?_)
      refine lv_goto (tgt := 4) hx hb d_Mo_height_66 (by decide) ?_
      exact O (L.length - (i + 1)) ((i + 1, h)) _ _ _ (by omega) (⟨c1, rfl, hg9.keep c1 (fun q => absurd (hw.mpr (by rw [← ec0]; exact q)) (by rw [c2]; decide))⟩) (lv_sub hl [0, 2, 3, 4] rfl) hI hS
    · obtain ⟨jj, hjj⟩ := hw.mp c2
      have hdp := inn_dp htr jj c0 hc1 hc2 hjj
      refine lv_aload_n hx hb d_Mo_height_30 rfl (lv_at hl 3 rfl) ?_
      refine hp_get (ci := 5) (v := .ref (Q 13)) (C := R_Mo) (T := F_Mo) (N := 28) hx hb hg i_Mo hown hK hI (mw_o hQ) rfl 13 (by decide) (hg _ k_786) (fun _ h9 => h9) rfl d_Mo_height_31 ?_
      refine lv_iload hx hb d_Mo_height_34 (lv_at hl 0 rfl) ?_
      refine mv_iald hx hb hK hI 0 (X.1 13) (mw_13 hQ) rfl c0 (rfl) (by omega) (by decide) d_Mo_height_36 ?_
      refine mv_i (y := nI (dp c0)) (hO.de hc1 hc2) ?_
      refine lv_aload_n hx hb d_Mo_height_37 rfl (lv_at hl 3 rfl) ?_
      refine hp_get (ci := 5) (v := .ref (Q 13)) (C := R_Mo) (T := F_Mo) (N := 28) hx hb hg i_Mo hown hK hI (mw_o hQ) rfl 13 (by decide) (hg _ k_786) (fun _ h9 => h9) rfl d_Mo_height_38 ?_
      refine lv_iload_n hx hb d_Mo_height_41 rfl (lv_at hl 4 rfl) ?_
      refine mv_iald hx hb hK hI 0 (X.1 13) (mw_13 hQ) rfl k (rfl) (by omega) (by decide) d_Mo_height_42 ?_
      refine mv_i (y := nI (dp k)) (hO.de hk hkt) ?_
      refine mv_isub hx hb (dp c0) (dp k) rfl rfl (by omega) d_Mo_height_43 ?_
      refine lv_iload_n hx hb d_Mo_height_44 rfl (lv_at hl 2 rfl) ?_
      refine mv_cle (tgt := 63) hx hb (dp c0 - (dp k)) h rfl rfl (by omega) (by omega) d_Mo_height_45 (by decide) (fun c3 => ?_) (fun c3 => ?_)
      · refine lv_iinc (v := nI (i + 1)) (lv' := [(3, .int (nI (i + 1))), (4, .int (nI c0)), (2, .int (nI h)), (0, .ref (Q 25)), (1, .int (nI k))]) hx hb d_Mo_height_63 hl (k := 1) rfl (nI_inc i) (by decide) rfl (fun ls hl => ?_)
        refine lv_goto (tgt := 4) hx hb d_Mo_height_66 (by decide) ?_
        exact O (L.length - (i + 1)) ((i + 1, h)) _ _ _ (by omega) (⟨c1, rfl, hg9.keep c1 (fun q => by rw [ec0]; omega)⟩) (lv_sub hl [0, 2, 3, 4] rfl) hI hS
      · refine lv_aload_n hx hb d_Mo_height_48 rfl (lv_at hl 3 rfl) ?_
        refine hp_get (ci := 5) (v := .ref (Q 13)) (C := R_Mo) (T := F_Mo) (N := 28) hx hb hg i_Mo hown hK hI (mw_o hQ) rfl 13 (by decide) (hg _ k_786) (fun _ h9 => h9) rfl d_Mo_height_49 ?_
        refine lv_iload hx hb d_Mo_height_52 (lv_at hl 0 rfl) ?_
        refine mv_iald hx hb hK hI 0 (X.1 13) (mw_13 hQ) rfl c0 (rfl) (by omega) (by decide) d_Mo_height_54 ?_
        refine mv_i (y := nI (dp c0)) (hO.de hc1 hc2) ?_
        refine lv_aload_n hx hb d_Mo_height_55 rfl (lv_at hl 3 rfl) ?_
        refine hp_get (ci := 5) (v := .ref (Q 13)) (C := R_Mo) (T := F_Mo) (N := 28) hx hb hg i_Mo hown hK hI (mw_o hQ) rfl 13 (by decide) (hg _ k_786) (fun _ h9 => h9) rfl d_Mo_height_56 ?_
        refine lv_iload_n hx hb d_Mo_height_59 rfl (lv_at hl 4 rfl) ?_
        refine mv_iald hx hb hK hI 0 (X.1 13) (mw_13 hQ) rfl k (rfl) (by omega) (by decide) d_Mo_height_60 ?_
        refine mv_i (y := nI (dp k)) (hO.de hk hkt) ?_
        refine mv_isub hx hb (dp c0) (dp k) rfl rfl (by omega) d_Mo_height_61 ?_
        refine lv_istore_n (lv' := [(2, .int (nI (dp c0 - (dp k)))), (4, .int (nI c0)), (3, .int (nI i)), (0, .ref (Q 25)), (1, .int (nI k))]) hx hb d_Mo_height_62 rfl hl (by decide) rfl (fun ls hl => ?_)
        refine lv_iinc (v := nI (i + 1)) (lv' := [(3, .int (nI (i + 1))), (2, .int (nI (dp c0 - (dp k)))), (4, .int (nI c0)), (0, .ref (Q 25)), (1, .int (nI k))]) hx hb d_Mo_height_63 hl (k := 2) rfl (nI_inc i) (by decide) rfl (fun ls hl => ?_)
        refine lv_goto (tgt := 4) hx hb d_Mo_height_66 (by decide) ?_
        exact O (L.length - (i + 1)) ((i + 1, dp c0 - dp k)) _ _ _ (by omega) (⟨c1, rfl, hg9.up c1 ec0 (by omega) (by omega) hc1 hc2 (hw.mp c2) (by omega)⟩) (lv_sub hl [0, 1, 3, 4] rfl) hI hS
set_option maxHeartbeats 4000000 in
set_option maxRecDepth 100000 in
theorem m_Mo_count (l : Launch) (G : EG) (S0 : Nat) (Q : Nat → Nat) (hQ : qInj Q) (X : XS) (w0 : hp_M) (d : DS) (dp : Nat → Nat) (htr : tOk d dp) (hM : mN X d) (L : List Nat) (hO : mO X d dp L) (hC : mC X d) (wh : Int32) : Met l y_Mo_count w_Mo_count (rl 1 0 0) (eP G S0 (mW G Q X w0) [.ref (Q 25), .int wh]) (va_Qi (fun r z => z = mW G Q (xsT X 0) w0 ∧ r = cntF d dp wh) (eW G S0) (hp_A S0)) 0 0 (hp_A S0) := by
  refine Met.ofW (cc := b_Mo_count) (maxL := 5) (ret := (some .int)) (by decide) rfl ?_
  intro p e s m args below meth c s₁ B hml hv
  obtain ⟨rfl, hE, hI, hz⟩ := hv
  have hx := B.exec
  have hb := B.bytes
  have hr := B.returns
  have hts := atoms_spec (ws := w_Mo_count) B.pre
  have hg : ∀ w ∈ gw, w.before _ s = true := fun w h => hts w (List.mem_cons_of_mem _ h)
  have hown : s.vm.findClass "SceneEaselModel" = some m.cls := findClass_of_methodNamed B.named
  have hlocks := B.notSynchronized
  have hK := hE.K
  have hS : va_S (hp_A S0) s.heap s.heap [] := va_S.rf
  have hl := lv_entry ([.ref (Q 25), .int wh]) (n := 5) (Nat.le_of_ble_eq_true rfl)
  rw [lg_entry_eq]
  generalize (lg_sl ([.ref (Q 25), .int wh]) ++ List.replicate (5 - (lg_sl ([.ref (Q 25), .int wh])).length) Slot.unset).toArray = ls at hl ⊢
  have hl : lv_has ls 5 [(0, .ref (Q 25)), (1, .int wh)] := hl
  have hL := hO.le
  refine lv_aload_n hx hb d_Mo_count_0 rfl (lv_at hl 0 rfl) ?_
  refine lv_iconst (v := 0) hx hb d_Mo_count_1 (by decide) ?_
  refine hp_putC (ci := 5) (v := .int 0) (ty := .int) (C := R_Mo) (T := F_Mo) (N := 28) hx hb hg i_Mo t_Mo t_Mo_ok n_Mo hown hK hI hS (mw_o hQ) rfl 27 (by decide) (hg _ k_800) (fun _ h9 => h9) rfl (by decide +kernel) rfl rfl (Nat.le_of_ble_eq_true rfl) d_Mo_count_2 (fun H locs hI hS hsz => ?_)
  have hI : eI G S0 (mW G Q (xsT X 0) w0) H := by rw [← mws_T hQ]; exact hI
  refine lv_iconst (v := 0) hx hb d_Mo_count_5 (by decide) ?_
  refine lv_istore_n (lv' := [(2, .int 0), (0, .ref (Q 25)), (1, .int wh)]) hx hb d_Mo_count_6 rfl hl (by decide) rfl (fun ls hl => ?_)
  refine lv_iconst (v := 0) hx hb d_Mo_count_7 (by decide) ?_
  refine lv_istore_n (lv' := [(3, .int 0), (2, .int 0), (0, .ref (Q 25)), (1, .int wh)]) hx hb d_Mo_count_8 rfl hl (by decide) rfl (fun ls hl => ?_)
  refine lv_iconst (v := 0) hx hb d_Mo_count_9 (by decide) ?_
  refine lv_istore (lv' := [(4, .int 0), (3, .int 0), (2, .int 0), (0, .ref (Q 25)), (1, .int wh)]) hx hb d_Mo_count_10 hl (by decide) rfl (fun ls hl => ?_)
  refine W.lpw (fun j (q : Nat × Nat × Nat) => match q with | (i, a, h) => i ≤ L.length ∧ j = L.length - i ∧ a = ((L.take i).map (fun k => frS d k 4)).sum ∧ hgI d dp L (fun c => inn d c 0) (dp 0) i h) (fun (q : Nat × Nat × Nat) => match q with | (i, a, h) => (mW G Q (xsT X 0) w0)) (fun (q : Nat × Nat × Nat) => match q with | (i, a, h) => [(4, .int (nI i)), (3, .int (nI h)), (2, .int (nI a)), (0, .ref (Q 25)), (1, .int wh)]) (fun (q : Nat × Nat × Nat) => match q with | (i, a, h) => 0) (fun (q : Nat × Nat × Nat) => match q with | (i, a, h) => 0) 5 12 (fun (q : Nat × Nat × Nat) => match q with | (i, a, h) => []) (L.length) ((0, 0, 0)) (⟨Nat.zero_le _, rfl, rfl, Nat.zero_le _, fun a ha h => absurd h (Nat.not_lt_zero a), Or.inl rfl⟩) (lv_sub hl [0, 1, 2, 3, 4] rfl) hI hS ?_
  rintro j ⟨i, a, h⟩ ls H locs hP hl hI hS O
  try dsimp only at hP hl hI ⊢
  obtain ⟨h1, ej, ea, hg9⟩ := hP
  have hg5 := hg9.1
  refine lv_iload hx hb d_Mo_count_12 (lv_at hl 0 rfl) ?_
  refine lv_aload_n hx hb d_Mo_count_14 rfl (lv_at hl 3 rfl) ?_
  refine hp_get (ci := 5) (v := .int X.2.2.1) (C := R_Mo) (T := F_Mo) (N := 28) hx hb hg i_Mo hown hK hI (mw_o hQ) rfl 25 (by decide) (hg _ k_798) (fun _ h9 => h9) rfl d_Mo_count_15 ?_
  refine mv_i (y := nI L.length) (hO.nn) ?_
  refine mv_cge (tgt := 70) hx hb i (L.length) rfl rfl (by omega) (by omega) d_Mo_count_18 (by decide) (fun c1 => ?_) (fun c1 => ?_)
  · have ei : i = L.length := by omega
    have hfin := hgI.fin (h := h) (n := 0) hO (by decide) htr.1 (by rw [← ei]; exact hg9)
    rw [htr.2.2.2.1, Nat.zero_add] at hfin
    rw [ei, List.take_length, hO.sum, ← sP_fTh] at ea
    refine lv_iload_n hx hb d_Mo_count_70 rfl (lv_at hl 4 rfl) ?_
    refine lv_if_ne (tgt := 81) hx hb d_Mo_count_71 (by decide) (fun c2 => ?_) (fun c2 => ?_)
    · have c2 : ¬ wh = nI 0 := c2
      refine lv_iload_n hx hb d_Mo_count_81 rfl (lv_at hl 4 rfl) ?_
      refine lv_iconst (v := 1) hx hb d_Mo_count_82 (by decide) ?_
      refine lv_icmp_ne (tgt := 90) hx hb d_Mo_count_83 (by decide) (fun c3 => ?_) (fun c3 => ?_)
      · have c3 : ¬ wh = nI 1 := c3
        refine lv_iload_n hx hb d_Mo_count_90 rfl (lv_at hl 4 rfl) ?_
        refine lv_iconst (v := 2) hx hb d_Mo_count_91 (by decide) ?_
        refine lv_icmp_ne (tgt := 102) hx hb d_Mo_count_92 (by decide) (fun c4 => ?_) (fun c4 => ?_)
        · have c4 : ¬ wh = nI 2 := c4
          refine lv_iload_n hx hb d_Mo_count_102 rfl (lv_at hl 4 rfl) ?_
          refine lv_iconst (v := 3) hx hb d_Mo_count_103 (by decide) ?_
          refine lv_icmp_ne (tgt := 111) hx hb d_Mo_count_104 (by decide) (fun c5 => ?_) (fun c5 => ?_)
          · have c5 : ¬ wh = nI 3 := c5
            refine lv_iconst (v := (-1)) hx hb d_Mo_count_111 (by decide) ?_
            exact W.iret (v := (-1)) hx hb hr (fun t9 ht9 hW9 => ⟨⟨(-1), (mW G Q (xsT X 0) w0), rfl, ⟨rfl, by unfold cntF; rw [if_neg c2, if_neg c3, if_neg c4, if_neg c5]⟩, eWo ht9 hI⟩, hS.F ht9⟩) hS.2.2 d_Mo_count_112
          · have c5 : wh = nI 3 := c5
            refine lv_iload_n hx hb d_Mo_count_107 rfl (lv_at hl 1 rfl) ?_
            refine lv_goto (tgt := 112) hx hb d_Mo_count_108 (by decide) ?_
            exact W.iret (v := (nI h)) hx hb hr (fun t9 ht9 hW9 => ⟨⟨(nI h), (mW G Q (xsT X 0) w0), rfl, ⟨rfl, by unfold cntF; rw [if_neg c2, if_neg c3, if_neg c4, if_pos c5, hfin]⟩, eWo ht9 hI⟩, hS.F ht9⟩) hS.2.2 d_Mo_count_112
        · have c4 : wh = nI 2 := c4
          refine lv_aload_n hx hb d_Mo_count_95 rfl (lv_at hl 3 rfl) ?_
          refine hp_get (ci := 5) (v := .int X.2.2.2.1) (C := R_Mo) (T := F_Mo) (N := 28) hx hb hg i_Mo hown hK hI (mw_o hQ) rfl 26 (by decide) (hg _ k_799) (fun _ h9 => h9) rfl d_Mo_count_96 ?_
          refine mv_i (y := sPt d) (hC.2) ?_
          refine lv_goto (tgt := 112) hx hb d_Mo_count_99 (by decide) ?_
          exact W.iret (v := (sPt d)) hx hb hr (fun t9 ht9 hW9 => ⟨⟨(sPt d), (mW G Q (xsT X 0) w0), rfl, ⟨rfl, by unfold cntF; rw [if_neg c2, if_neg c3, if_pos c4]⟩, eWo ht9 hI⟩, hS.F ht9⟩) hS.2.2 d_Mo_count_112
      · have c3 : wh = nI 1 := c3
        refine lv_iload_n hx hb d_Mo_count_86 rfl (lv_at hl 2 rfl) ?_
        refine lv_goto (tgt := 112) hx hb d_Mo_count_87 (by decide) ?_
        exact W.iret (v := (nI a)) hx hb hr (fun t9 ht9 hW9 => ⟨⟨(nI a), (mW G Q (xsT X 0) w0), rfl, ⟨rfl, by unfold cntF; rw [if_neg c2, if_pos c3, ea]⟩, eWo ht9 hI⟩, hS.F ht9⟩) hS.2.2 d_Mo_count_112
    · have c2 : wh = nI 0 := c2
      refine lv_aload_n hx hb d_Mo_count_74 rfl (lv_at hl 3 rfl) ?_
      refine hp_get (ci := 5) (v := .int X.2.2.1) (C := R_Mo) (T := F_Mo) (N := 28) hx hb hg i_Mo hown hK hI (mw_o hQ) rfl 25 (by decide) (hg _ k_798) (fun _ h9 => h9) rfl d_Mo_count_75 ?_
      refine mv_i (y := nI L.length) (hO.nn) ?_
      refine lv_goto (tgt := 112) hx hb d_Mo_count_78 (by decide) ?_
      exact W.iret (v := (nI L.length)) hx hb hr (fun t9 ht9 hW9 => ⟨⟨(nI L.length), (mW G Q (xsT X 0) w0), rfl, ⟨rfl, by unfold cntF; rw [if_pos c2, hO.cnt]⟩, eWo ht9 hI⟩, hS.F ht9⟩) hS.2.2 d_Mo_count_112
  · obtain ⟨c0, ec0⟩ : ∃ c0, L[i] = c0 := ⟨_, rfl⟩
    obtain ⟨hc1, hc2⟩ := hO.th c1
    rw [ec0] at hc1 hc2
    have hc5 := htr.2.2.2.2.2.2 c0 hc1 hc2
    refine lv_iload_n hx hb d_Mo_count_21 rfl (lv_at hl 2 rfl) ?_
    refine lv_aload_n hx hb d_Mo_count_22 rfl (lv_at hl 3 rfl) ?_
    refine lv_aload_n hx hb d_Mo_count_23 rfl (lv_at hl 3 rfl) ?_
    refine hp_get (ci := 5) (v := .ref (Q 11)) (C := R_Mo) (T := F_Mo) (N := 28) hx hb hg i_Mo hown hK hI (mw_o hQ) rfl 11 (by decide) (hg _ k_784) (fun _ h9 => h9) rfl d_Mo_count_24 ?_
    refine lv_iload hx hb d_Mo_count_27 (lv_at hl 0 rfl) ?_
    refine mv_iald hx hb hK hI 0 (X.1 11) (mw_11 hQ) rfl i (rfl) (by omega) (by decide) d_Mo_count_29 ?_
    refine mv_i (y := nI c0) ((hO.od c1).trans (by rw [ec0])) ?_
    refine ec_i (va_runV (As := [.int (nI c0)]) (rest := [.int (nI a)]) ⟨hx, hb, hml, hown, hts⟩ (m_Mo_keysOf l G S0 Q hQ (xsT X 0) w0 d hM.T c0 hc1 hc2) (cwV 1 hts (gw_V k_1011 k_1013 k_58 k_67 k_1014) rfl rfl rfl (by decide +kernel) ⟨Nat.le_of_ble_eq_true rfl, Nat.le_of_ble_eq_true rfl⟩) (eB.preV hE hI hS hz rfl (mw_o hQ)) rfl rfl hl.1 rfl (lv_room (Nat.le_of_ble_eq_true rfl)) d_Mo_count_30 ⟨Nat.le_of_ble_eq_true rfl, Nat.le_of_ble_eq_true rfl⟩) hS (fun ko w_1 H locs ew_1 hI hsz hS => ?_)
    obtain ⟨eko, ew_1⟩ := ew_1
    have ew_1 := ew_1.symm
    subst ew_1
    subst eko
    have ea2 : a + frS d c0 4 = ((L.take (i + 1)).map (fun k => frS d k 4)).sum := by rw [sum_take c1, ec0, ea]
    refine mv_iadd hx hb a (frS d c0 4) rfl rfl d_Mo_count_33 ?_
    refine lv_istore_n (lv' := [(2, .int (nI (a + (frS d c0 4)))), (4, .int (nI i)), (3, .int (nI h)), (0, .ref (Q 25)), (1, .int wh)]) hx hb d_Mo_count_34 rfl hl (by decide) rfl (fun ls hl => ?_)
    refine lv_aload_n hx hb d_Mo_count_35 rfl (lv_at hl 3 rfl) ?_
    refine hp_get (ci := 5) (v := .ref (Q 13)) (C := R_Mo) (T := F_Mo) (N := 28) hx hb hg i_Mo hown hK hI (mw_o hQ) rfl 13 (by decide) (hg _ k_786) (fun _ h9 => h9) rfl d_Mo_count_36 ?_
    refine lv_aload_n hx hb d_Mo_count_39 rfl (lv_at hl 3 rfl) ?_
    refine hp_get (ci := 5) (v := .ref (Q 11)) (C := R_Mo) (T := F_Mo) (N := 28) hx hb hg i_Mo hown hK hI (mw_o hQ) rfl 11 (by decide) (hg _ k_784) (fun _ h9 => h9) rfl d_Mo_count_40 ?_
    refine lv_iload hx hb d_Mo_count_43 (lv_at hl 1 rfl) ?_
    refine mv_iald hx hb hK hI 0 (X.1 11) (mw_11 hQ) rfl i (rfl) (by omega) (by decide) d_Mo_count_45 ?_
    refine mv_i (y := nI c0) ((hO.od c1).trans (by rw [ec0])) ?_
    refine mv_iald hx hb hK hI 0 (X.1 13) (mw_13 hQ) rfl c0 (rfl) (by omega) (by decide) d_Mo_count_46 ?_
    refine mv_i (y := nI (dp c0)) (hO.de hc1 hc2) ?_
    refine lv_iload_n hx hb d_Mo_count_47 rfl (lv_at hl 2 rfl) ?_
    refine mv_cle (tgt := 64) hx hb (dp c0) h rfl rfl (by omega) (by omega) d_Mo_count_48 (by decide) (fun c2 => ?_) (fun c2 => ?_)
    · refine lv_iinc (v := nI (i + 1)) (lv' := [(4, .int (nI (i + 1))), (2, .int (nI (a + (frS d c0 4)))), (3, .int (nI h)), (0, .ref (Q 25)), (1, .int wh)]) hx hb d_Mo_count_64 hl (k := 1) rfl (nI_inc i) (by decide) rfl (fun ls hl => ?_)
      refine lv_goto (tgt := 12) hx hb d_Mo_count_67 (by decide) ?_
      exact O (L.length - (i + 1)) ((i + 1, a + frS d c0 4, h)) _ _ _ (by omega) (⟨c1, rfl, ea2, hg9.keep c1 (fun q => by rw [ec0, htr.2.2.2.1]; omega)⟩) (lv_sub hl [0, 2, 1, 3, 4] rfl) hI hS
    · refine lv_aload_n hx hb d_Mo_count_51 rfl (lv_at hl 3 rfl) ?_
      refine hp_get (ci := 5) (v := .ref (Q 13)) (C := R_Mo) (T := F_Mo) (N := 28) hx hb hg i_Mo hown hK hI (mw_o hQ) rfl 13 (by decide) (hg _ k_786) (fun _ h9 => h9) rfl d_Mo_count_52 ?_
      refine lv_aload_n hx hb d_Mo_count_55 rfl (lv_at hl 3 rfl) ?_
      refine hp_get (ci := 5) (v := .ref (Q 11)) (C := R_Mo) (T := F_Mo) (N := 28) hx hb hg i_Mo hown hK hI (mw_o hQ) rfl 11 (by decide) (hg _ k_784) (fun _ h9 => h9) rfl d_Mo_count_56 ?_
      refine lv_iload hx hb d_Mo_count_59 (lv_at hl 1 rfl) ?_
      refine mv_iald hx hb hK hI 0 (X.1 11) (mw_11 hQ) rfl i (rfl) (by omega) (by decide) d_Mo_count_61 ?_
      refine mv_i (y := nI c0) ((hO.od c1).trans (by rw [ec0])) ?_
      refine mv_iald hx hb hK hI 0 (X.1 13) (mw_13 hQ) rfl c0 (rfl) (by omega) (by decide) d_Mo_count_62 ?_
      refine mv_i (y := nI (dp c0)) (hO.de hc1 hc2) ?_
      refine lv_istore_n (lv' := [(3, .int (nI (dp c0))), (2, .int (nI (a + (frS d c0 4)))), (4, .int (nI i)), (0, .ref (Q 25)), (1, .int wh)]) hx hb d_Mo_count_63 rfl hl (by decide) rfl (fun ls hl => ?_)
      refine lv_iinc (v := nI (i + 1)) (lv' := [(4, .int (nI (i + 1))), (3, .int (nI (dp c0))), (2, .int (nI (a + (frS d c0 4)))), (0, .ref (Q 25)), (1, .int wh)]) hx hb d_Mo_count_64 hl (k := 2) rfl (nI_inc i) (by decide) rfl (fun ls hl => ?_)
      refine lv_goto (tgt := 12) hx hb d_Mo_count_67 (by decide) ?_
      exact O (L.length - (i + 1)) ((i + 1, a + frS d c0 4, dp c0)) _ _ _ (by omega) (⟨c1, rfl, ea2, hg9.up c1 ec0 (by omega) (by omega) hc1 hc2 (inn_root htr _ c0 rfl hc1 hc2) (by rw [htr.2.2.2.1]; omega)⟩) (lv_sub hl [0, 1, 2, 3, 4] rfl) hI hS

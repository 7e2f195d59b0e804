/-! the model: find -/
theorem dge0 {g : Nat} {a : UInt64} (h : pR g a) : dge a FP.dconst0 ↔ dle FP.dconst0 a := by
  obtain ⟨n, h1, -⟩ := h
  have z0 : fx 0 0 FP.dconst0 := by have := fx_i2d 0; rw [i2d_z] at this; exact this
  have z1 := fx_up (6 + 2 * g) z0
  rw [Int.zero_mul, Nat.zero_add] at z1
  rw [fx_ge h1 z1, fx_le z1 h1]
def fdR (Y X : XS) (n : Nat) : Prop := (∀ j, j ≠ 2 → j ≠ 12 → Y.1 j = X.1 j) ∧ (∀ c, c ≠ n → Y.1 2 c = X.1 2 c ∧ Y.1 12 c = X.1 12 c) ∧ Y.2 = X.2
theorem fdR.tr {X Y Z : XS} {n : Nat} (h1 : fdR Y X n) (h2 : fdR Z Y n) : fdR Z X n := ⟨fun j a b => (h2.1 j a b).trans (h1.1 j a b), fun c hc => ⟨(h2.2.1 c hc).1.trans (h1.2.1 c hc).1, (h2.2.1 c hc).2.trans (h1.2.1 c hc).2⟩, h2.2.2.trans h1.2.2⟩
theorem fdR.a2 {X : XS} {n : Nat} {v : Int32} : fdR (xsI X 2 (upd (X.1 2) n v)) X n := ⟨fun j a _ => fset_ne a, fun c hc => ⟨upd_n hc, rfl⟩, rfl⟩
theorem fdR.a12 {X : XS} {n : Nat} {v : Int32} : fdR (xsI X 12 (upd (X.1 12) n v)) X n := ⟨fun j _ a => fset_ne a, fun c hc => ⟨rfl, upd_n hc⟩, rfl⟩
theorem fdR.sc {X Y : XS} {n : Nat} (h : fdR Y X n) : xSc Y X := ⟨fun j a _ b => h.1 j a b, fun j _ => by rw [h.2.2], by rw [h.2.2]⟩
theorem acc_s {L : List Nat} {R : Nat → Option Nat} {f k c : Nat} (hk : L[k]? = some c) (hf : f ≤ k) : ((L.take (k + 1)).drop f).reverse.findSome? R = (match R c with | some t => some t | none => ((L.take k).drop f).reverse.findSome? R) := by
  obtain ⟨hk1, hk2⟩ := List.getElem?_eq_some_iff.mp hk
  rw [List.take_succ_eq_append_getElem hk1, hk2, List.drop_append_of_le_length (by rw [List.length_take]; omega), List.reverse_append]
  show List.findSome? R (c :: ((L.take k).drop f).reverse) = _
  rw [List.findSome?_cons]
  cases R c <;> rfl
theorem acc_0 {L : List Nat} {R : Nat → Option Nat} {f : Nat} : ((L.take f).drop f).reverse.findSome? R = none := by
  rw [List.drop_eq_nil_of_le (by rw [List.length_take]; omega)]
  rfl
set_option maxHeartbeats 8000000 in
set_option maxRecDepth 100000 in
theorem m_Mo_find (l : Launch) (G : EG) (S0 : Nat) (Q : Nat → Nat) (hQ : qInj Q) (X : XS) (w0 : hp_M) (d : DS) (dp : Nat → Nat) (htr : tOk d dp) (hM : mV X d) (hv1 : vOk d) (u x y : UInt64) (hu : tiO u) (hx0 : pR 0 x) (hy0 : pR 0 y) (n : Nat) (hn : n < 14) (hnt : sTh d n = true) (hA : X.2.1 20 n = (pt d dp u x y n).1) (hB : X.2.1 21 n = (pt d dp u x y n).2) (hch : ∀ c ∈ sCh d n, X.1 2 c = bI (Rk d dp u x y c).isSome ∧ ∀ t, Rk d dp u x y c = some t → X.1 12 c = nI t) : Met l y_Mo_find w_Mo_find (rl 1 0 0) (eP G S0 (mW G Q X w0) [.ref (Q 25), .int (nI n)]) (va_Qv (fun z => ∃ Y, z = mW G Q Y w0 ∧ fdR Y X n ∧ Y.1 2 n = bI (Rk d dp u x y n).isSome ∧ ∀ t, Rk d dp u x y n = some t → Y.1 12 n = nI t) (eW G S0) (hp_A S0)) 0 0 (hp_A S0) := by
  refine Met.ofW (cc := b_Mo_find) (maxL := 10) (ret := none) (by decide) rfl ?_
  intro p e s m args below meth c s₁ B hml hv
  obtain ⟨rfl, hE, hI, hz⟩ := hv
  have hx := B.exec
  have hb := B.bytes
  have hr := B.returns
  have hts := atoms_spec (ws := w_Mo_find) B.pre
  have hg : ∀ w ∈ gw, w.before _ s = true := fun w h => hts w (List.mem_cons_of_mem _ h)
  have hown : s.vm.findClass "SceneEaselModel" = some m.cls := findClass_of_methodNamed B.named
  have hlocks := B.notSynchronized
  have hK := hE.K
  have hS : va_S (hp_A S0) s.heap s.heap [] := va_S.rf
  have hl := lv_entry ([.ref (Q 25), .int (nI n)]) (n := 10) (Nat.le_of_ble_eq_true rfl)
  rw [lg_entry_eq]
  generalize (lg_sl ([.ref (Q 25), .int (nI n)]) ++ List.replicate (10 - (lg_sl ([.ref (Q 25), .int (nI n)])).length) Slot.unset).toArray = ls at hl ⊢
  have hl : lv_has ls 10 [(0, .ref (Q 25)), (1, .int (nI n))] := hl
  obtain ⟨⟨kc, hkc, ekc⟩, -, hhid, -, -, ⟨mc, hmc, emc⟩, hP0, hQ0, -⟩ := hv1 n hn hnt
  have hn5 := htr.2.2.2.2.2.2 n hn hnt
  obtain ⟨ra, rb⟩ := rwP_ok htr hv1 hu hx0 hy0 _ n rfl hn hnt
  have fa := ra.bnd hn5
  have fb := rb.bnd hn5
  have fp := hP0.bnd
  have fq := hQ0.bnd
  have hlen := htr.len hn hnt
  refine W.midw (G := G) (S0 := S0) (fun (Z : XS) => fdR Z X n ∧ Z.1 2 n = bI (Bk d dp u x y n).isSome ∧ ∀ t, Bk d dp u x y n = some t → Z.1 12 n = nI t) (fun (Z : XS) => mW G Q Z w0) (fun (Z : XS) => [(0, .ref (Q 25)), (1, .int (nI n))]) (fun (Z : XS) => 0) (fun (Z : XS) => 0) 10 332 (fun (Z : XS) => []) ?_ (fun T => ?_)
  · rintro Z ls H locs hP hl hI hS
    try dsimp only at hP hl hI ⊢
    obtain ⟨hf, h2, h12⟩ := hP
    refine lv_aload_n hx hb d_Mo_find_332 rfl (lv_at hl 0 rfl) ?_
    refine hp_get (ci := 5) (v := .ref (Q 1)) (C := R_Mo) (T := F_Mo) (N := 28) hx hb hg i_Mo hown hK hI (mw_o hQ) rfl 1 (by decide) (hg _ k_774) (fun _ h9 => h9) rfl d_Mo_find_333 ?_
    refine lv_iload_n hx hb d_Mo_find_336 rfl (lv_at hl 1 rfl) ?_
    refine mv_zald hx hb hK hI 2 (Z.1 1) (mw_1 hQ) rfl n (rfl) (by omega) (by decide) d_Mo_find_337 ?_
    refine mv_i (y := sNi d n 2) ((by rw [hf.1 1 (by decide) (by decide)]; exact hM.hi hn hnt)) ?_
    refine lv_if_eq (tgt := 352) hx hb d_Mo_find_338 (by decide) (fun c1 => ?_) (fun c1 => ?_)
    · exact W.vret hx hb hr (fun t9 ht9 hW9 => ⟨⟨(mW G Q Z w0), rfl, ⟨Z, rfl, hf, by unfold Rk; rw [if_neg (fun h => h.2 c1)]; exact h2, by unfold Rk; rw [if_neg (fun h => h.2 c1)]; exact h12⟩, eWo ht9 hI⟩, hS.F ht9⟩) hS.2.2 d_Mo_find_352
    · refine lv_iload_n hx hb d_Mo_find_341 rfl (lv_at hl 1 rfl) ?_
      refine mv_ile (tgt := 352) hx hb n rfl (by omega) d_Mo_find_342 (by decide) (fun c2 => ?_) (fun c2 => ?_)
      · exact W.vret hx hb hr (fun t9 ht9 hW9 => ⟨⟨(mW G Q Z w0), rfl, ⟨Z, rfl, hf, by unfold Rk; rw [if_neg (fun h => h.1 c2)]; exact h2, by unfold Rk; rw [if_neg (fun h => h.1 c2)]; exact h12⟩, eWo ht9 hI⟩, hS.F ht9⟩) hS.2.2 d_Mo_find_352
      · have c3 : n ≠ 0 ∧ sNi d n 2 ≠ 0 := ⟨by omega, c1⟩
        refine lv_aload_n hx hb d_Mo_find_345 rfl (lv_at hl 0 rfl) ?_
        refine hp_get (ci := 5) (v := .ref (Q 2)) (C := R_Mo) (T := F_Mo) (N := 28) hx hb hg i_Mo hown hK hI (mw_o hQ) rfl 2 (by decide) (hg _ k_775) (fun _ h9 => h9) rfl d_Mo_find_346 ?_
        refine lv_iload_n hx hb d_Mo_find_349 rfl (lv_at hl 1 rfl) ?_
        refine lv_iconst (v := 0) hx hb d_Mo_find_350 (by decide) ?_
        refine mv_zast hx hb hK hI hS 2 (Z.1 2) (mw_2 hQ) rfl n (Or.inl rfl) (fun f9 => mW G Q (xsI Z 2 f9) w0) (fun _ => mws_2 hQ) (rfl) (by omega) (by decide) d_Mo_find_351 (fun H locs f_1 ef_1 hI hS hsz => ?_)
        try dsimp only at hI
        have hf2 : fdR (xsI Z 2 f_1) Z n := by rw [ef_1]; exact fdR.a2
        exact W.vret hx hb hr (fun t9 ht9 hW9 => ⟨⟨(mW G Q (xsI Z 2 f_1) w0), rfl, ⟨_, rfl, hf.tr hf2, by unfold Rk; rw [if_pos c3]; show f_1 n = _; rw [ef_1]; exact upd_y, by unfold Rk; rw [if_pos c3]; intro t h; cases h⟩, eWo ht9 hI⟩, hS.F ht9⟩) hS.2.2 d_Mo_find_352
  · by_cases hg0 : sNi d n 0 = 0
    · have e40 : X.1 4 n = 0 := (hM.ki hn hnt).trans hg0
      refine lv_aload_n hx hb d_Mo_find_0 rfl (lv_at hl 0 rfl) ?_
      refine hp_get (ci := 5) (v := .ref (Q 20)) (C := R_Mo) (T := F_Mo) (N := 28) hx hb hg i_Mo hown hK hI (mw_o hQ) rfl 20 (by decide) (hg _ k_793) (fun _ h9 => h9) rfl d_Mo_find_1 ?_
      refine lv_iload_n hx hb d_Mo_find_4 rfl (lv_at hl 1 rfl) ?_
      refine mv_dald hx hb hK hI 1 (X.2.1 20) (mw_20 hQ) rfl n (rfl) (by omega) (by decide) d_Mo_find_5 ?_
      refine mv_d (y := (pt d dp u x y n).1) (hA) ?_
      refine lv_dstore_n (lv' := [(2, .double ((pt d dp u x y n).1)), (0, .ref (Q 25)), (1, .int (nI n))]) hx hb d_Mo_find_6 rfl hl (by decide) rfl (fun ls hl => ?_)
      refine lv_aload_n hx hb d_Mo_find_7 rfl (lv_at hl 1 rfl) ?_
      refine hp_get (ci := 5) (v := .ref (Q 21)) (C := R_Mo) (T := F_Mo) (N := 28) hx hb hg i_Mo hown hK hI (mw_o hQ) rfl 21 (by decide) (hg _ k_794) (fun _ h9 => h9) rfl d_Mo_find_8 ?_
      refine lv_iload_n hx hb d_Mo_find_11 rfl (lv_at hl 2 rfl) ?_
      refine mv_dald hx hb hK hI 1 (X.2.1 21) (mw_21 hQ) rfl n (rfl) (by omega) (by decide) d_Mo_find_12 ?_
      refine mv_d (y := (pt d dp u x y n).2) (hB) ?_
      refine lv_dstore (lv' := [(4, .double ((pt d dp u x y n).2)), (2, .double ((pt d dp u x y n).1)), (0, .ref (Q 25)), (1, .int (nI n))]) hx hb d_Mo_find_13 hl (by decide) rfl (fun ls hl => ?_)
      refine lv_aload_n hx hb d_Mo_find_15 rfl (lv_at hl 2 rfl) ?_
      refine hp_get (ci := 5) (v := .ref (Q 12)) (C := R_Mo) (T := F_Mo) (N := 28) hx hb hg i_Mo hown hK hI (mw_o hQ) rfl 12 (by decide) (hg _ k_785) (fun _ h9 => h9) rfl d_Mo_find_16 ?_
      refine lv_iload_n hx hb d_Mo_find_19 rfl (lv_at hl 3 rfl) ?_
      refine lv_iload_n hx hb d_Mo_find_20 rfl (lv_at hl 3 rfl) ?_
      refine mv_iast hx hb hK hI hS 0 (X.1 12) (mw_12 hQ) rfl n (fun f9 => mW G Q (xsI X 12 f9) w0) (fun _ => mws_12 hQ) (rfl) (by omega) (by decide) d_Mo_find_21 (fun H locs f_2 ef_2 hI hS hsz => ?_)
      try dsimp only at hI
      refine lv_aload_n hx hb d_Mo_find_22 rfl (lv_at hl 2 rfl) ?_
      refine hp_get (ci := 5) (v := .ref (Q 4)) (C := R_Mo) (T := F_Mo) (N := 28) hx hb hg i_Mo hown hK hI (mw_o hQ) rfl 4 (by decide) (hg _ k_777) (fun _ h9 => h9) rfl d_Mo_find_23 ?_
      refine lv_iload_n hx hb d_Mo_find_26 rfl (lv_at hl 3 rfl) ?_
      refine mv_iald hx hb hK hI 0 (X.1 4) (mw_4 hQ) rfl n (rfl) (by omega) (by decide) d_Mo_find_27 ?_
      refine mv_i (y := 0) (e40) ?_
      refine lv_iconst (v := 1) hx hb d_Mo_find_28 (by decide) ?_
      refine lv_icmp_ne (tgt := 72) hx hb d_Mo_find_29 (by decide) (fun c9 => ?_) (fun c9 => absurd c9 (by decide))
      refine lv_aload_n hx hb d_Mo_find_72 rfl (lv_at hl 2 rfl) ?_
      refine hp_get (ci := 5) (v := .ref (Q 4)) (C := R_Mo) (T := F_Mo) (N := 28) hx hb hg i_Mo hown hK hI (mw_o hQ) rfl 4 (by decide) (hg _ k_777) (fun _ h9 => h9) rfl d_Mo_find_73 ?_
      refine lv_iload_n hx hb d_Mo_find_76 rfl (lv_at hl 3 rfl) ?_
      refine mv_iald hx hb hK hI 0 (X.1 4) (mw_4 hQ) rfl n (rfl) (by omega) (by decide) d_Mo_find_77 ?_
      refine mv_i (y := 0) (e40) ?_
      refine lv_iconst (v := 2) hx hb d_Mo_find_78 (by decide) ?_
      refine lv_icmp_ne (tgt := 119) hx hb d_Mo_find_79 (by decide) (fun c9 => ?_) (fun c9 => absurd c9 (by decide))
      refine lv_aload_n hx hb d_Mo_find_119 rfl (lv_at hl 2 rfl) ?_
      refine hp_get (ci := 5) (v := .ref (Q 4)) (C := R_Mo) (T := F_Mo) (N := 28) hx hb hg i_Mo hown hK hI (mw_o hQ) rfl 4 (by decide) (hg _ k_777) (fun _ h9 => h9) rfl d_Mo_find_120 ?_
      refine lv_iload_n hx hb d_Mo_find_123 rfl (lv_at hl 3 rfl) ?_
      refine mv_iald hx hb hK hI 0 (X.1 4) (mw_4 hQ) rfl n (rfl) (by omega) (by decide) d_Mo_find_124 ?_
      refine mv_i (y := 0) (e40) ?_
      refine lv_iconst (v := 3) hx hb d_Mo_find_125 (by decide) ?_
      refine lv_icmp_ne (tgt := 188) hx hb d_Mo_find_126 (by decide) (fun c9 => ?_) (fun c9 => absurd c9 (by decide))
      refine lv_aload_n hx hb d_Mo_find_188 rfl (lv_at hl 2 rfl) ?_
      refine hp_get (ci := 5) (v := .ref (Q 4)) (C := R_Mo) (T := F_Mo) (N := 28) hx hb hg i_Mo hown hK hI (mw_o hQ) rfl 4 (by decide) (hg _ k_777) (fun _ h9 => h9) rfl d_Mo_find_189 ?_
      refine lv_iload_n hx hb d_Mo_find_192 rfl (lv_at hl 3 rfl) ?_
      refine mv_iald hx hb hK hI 0 (X.1 4) (mw_4 hQ) rfl n (rfl) (by omega) (by decide) d_Mo_find_193 ?_
      refine mv_i (y := 0) (e40) ?_
      refine lv_if_ne (tgt := 332) hx hb d_Mo_find_194 (by decide) (fun c9 => absurd c9 (fun h => h rfl)) (fun c9 => ?_)
      have e2 : ∀ c, c ≠ n → upd (X.1 2) n 0 c = X.1 2 c := fun c hc => upd_n hc
      refine lv_aload_n hx hb d_Mo_find_197 rfl (lv_at hl 2 rfl) ?_
      refine hp_get (ci := 5) (v := .ref (Q 2)) (C := R_Mo) (T := F_Mo) (N := 28) hx hb hg i_Mo hown hK hI (mw_o hQ) rfl 2 (by decide) (hg _ k_775) (fun _ h9 => h9) rfl d_Mo_find_198 ?_
      refine lv_iload_n hx hb d_Mo_find_201 rfl (lv_at hl 3 rfl) ?_
      refine lv_iconst (v := 0) hx hb d_Mo_find_202 (by decide) ?_
      refine mv_zast hx hb hK hI hS 2 (X.1 2) (mw_2 hQ) rfl n (Or.inl rfl) (fun f9 => mW G Q (xsI (xsI X 12 f_2) 2 f9) w0) (fun _ => mws_2 hQ) (rfl) (by omega) (by decide) d_Mo_find_203 (fun H locs f_3 ef_3 hI hS hsz => ?_)
      try dsimp only at hI
      have hf1 : fdR (xsI (xsI X 12 f_2) 2 f_3) X n := by rw [ef_3, ef_2]; exact (fdR.a12 (X := X)).tr (fdR.a2 (X := xsI X 12 (upd (X.1 12) n (nI n))))
      have hBk := Bk_group (u := u) (x := x) (y := y) htr hn hnt hg0
      have e7 : X.1 7 n = nI (sCh d n).length := hM.ct hn hnt
      have ef2n : f_3 n = 0 := by rw [ef_3]; exact upd_y
      refine W.midw (G := G) (S0 := S0) (fun (fr : Nat) => fr ≤ (sCh d n).length ∧ gIn d (Rk d dp u x y) n = ((sCh d n).drop fr).reverse.findSome? (Rk d dp u x y)) (fun (fr : Nat) => (mW G Q (xsI (xsI X 12 f_2) 2 f_3) w0)) (fun (fr : Nat) => [(8, .int (nI fr)), (7, .int 1), (0, .ref (Q 25)), (1, .int (nI n))]) (fun (fr : Nat) => 0) (fun (fr : Nat) => 0) 10 263 (fun (fr : Nat) => []) ?_ (fun LP => ?_)
      · rintro fr ls H locs hP hl hI hS
        try dsimp only at hP hl hI ⊢
        obtain ⟨hfr, hgin⟩ := hP
        refine W.lpw (fun j (q : XS × Nat) => match q with | (Z, k) => fr ≤ k ∧ k ≤ (sCh d n).length ∧ j = (sCh d n).length - k ∧ fdR Z X n ∧ Z.1 2 n = bI ((((sCh d n).take k).drop fr).reverse.findSome? (Rk d dp u x y)).isSome ∧ (∀ t, (((sCh d n).take k).drop fr).reverse.findSome? (Rk d dp u x y) = some t → Z.1 12 n = nI t)) (fun (q : XS × Nat) => match q with | (Z, k) => mW G Q Z w0) (fun (q : XS × Nat) => match q with | (Z, k) => [(8, .int (nI k)), (7, .int 1), (0, .ref (Q 25)), (1, .int (nI n))]) (fun (q : XS × Nat) => match q with | (Z, k) => 0) (fun (q : XS × Nat) => match q with | (Z, k) => 0) 10 263 (fun (q : XS × Nat) => match q with | (Z, k) => []) ((sCh d n).length - fr) (((xsI (xsI X 12 f_2) 2 f_3), fr)) (⟨Nat.le_refl _, hfr, rfl, hf1, by rw [acc_0]; exact ef2n, by rw [acc_0]; intro t h; cases h⟩) (lv_sub hl [0, 1, 2, 3] rfl) hI hS ?_
        rintro j ⟨Z, k⟩ ls H locs hP hl hI hS O
        try dsimp only at hP hl hI ⊢
        obtain ⟨h1, h2, ej, hf, hz2, hz12⟩ := hP
        refine lv_iload hx hb d_Mo_find_263 (lv_at hl 0 rfl) ?_
        refine lv_aload_n hx hb d_Mo_find_265 rfl (lv_at hl 2 rfl) ?_
        refine hp_get (ci := 5) (v := .ref (Q 7)) (C := R_Mo) (T := F_Mo) (N := 28) hx hb hg i_Mo hown hK hI (mw_o hQ) rfl 7 (by decide) (hg _ k_780) (fun _ h9 => h9) rfl d_Mo_find_266 ?_
        refine lv_iload_n hx hb d_Mo_find_269 rfl (lv_at hl 3 rfl) ?_
        refine mv_iald hx hb hK hI 0 (Z.1 7) (mw_7 hQ) rfl n (rfl) (by omega) (by decide) d_Mo_find_270 ?_
        refine mv_i (y := nI (sCh d n).length) ((by rw [hf.1 7 (by decide) (by decide)]; exact e7)) ?_
        refine mv_cge (tgt := 332) hx hb k (sCh d n).length rfl rfl (by omega) (by omega) d_Mo_find_271 (by decide) (fun c1 => ?_) (fun c1 => ?_)
        · have ek : k = (sCh d n).length := by omega
          rw [ek, List.take_length, ← hgin, ← hBk] at hz2 hz12
          exact T (Z) _ _ _ (⟨hf, hz2, hz12⟩) (lv_sub hl [2, 3] rfl) hI hS
        · obtain ⟨c0, ec0⟩ : ∃ c0, (sCh d n)[k]? = some c0 := ⟨_, List.getElem?_eq_getElem c1⟩
          have hcm := List.mem_of_getElem? ec0
          obtain ⟨q1, q2, q3, q4, q5, q6⟩ := htr.child hn hnt hcm
          have hcn : c0 ≠ n := fun e => by rw [e] at q5; omega
          obtain ⟨w1, w2⟩ := hch c0 hcm
          have hacc := acc_s (R := Rk d dp u x y) ec0 h1
          refine lv_iload hx hb d_Mo_find_274 (lv_at hl 1 rfl) ?_
          refine lv_if_eq (tgt := 332) hx hb d_Mo_find_276 (by decide) (fun c9 => absurd c9 (by decide)) (fun c9 => ?_)
          refine lv_aload_n hx hb d_Mo_find_279 rfl (lv_at hl 2 rfl) ?_
          refine hp_get (ci := 5) (v := .ref (Q 8)) (C := R_Mo) (T := F_Mo) (N := 28) hx hb hg i_Mo hown hK hI (mw_o hQ) rfl 8 (by decide) (hg _ k_781) (fun _ h9 => h9) rfl d_Mo_find_280 ?_
          refine lv_iload_n hx hb d_Mo_find_283 rfl (lv_at hl 3 rfl) ?_
          refine lv_bipush (v := 14) hx hb d_Mo_find_284 (by decide) ?_
          refine mv_imul hx hb n 14 rfl rfl d_Mo_find_286 ?_
          refine lv_iload hx hb d_Mo_find_287 (lv_at hl 0 rfl) ?_
          refine mv_iadd hx hb (n * 14) k rfl rfl d_Mo_find_289 ?_
          refine mv_iald hx hb hK hI 0 (Z.1 8) (mw_8 hQ) rfl (n * 14 + k) (rfl) (by omega) (by decide) d_Mo_find_290 ?_
          refine mv_i (y := nI c0) ((by rw [hf.1 8 (by decide) (by decide)]; exact hM.ch' hn hnt ec0)) ?_
          refine lv_istore (lv' := [(9, .int (nI c0)), (8, .int (nI k)), (7, .int 1), (0, .ref (Q 25)), (1, .int (nI n))]) hx hb d_Mo_find_291 hl (by decide) rfl (fun ls hl => ?_)
          refine lv_aload_n hx hb d_Mo_find_293 rfl (lv_at hl 3 rfl) ?_
          refine hp_get (ci := 5) (v := .ref (Q 2)) (C := R_Mo) (T := F_Mo) (N := 28) hx hb hg i_Mo hown hK hI (mw_o hQ) rfl 2 (by decide) (hg _ k_775) (fun _ h9 => h9) rfl d_Mo_find_294 ?_
          refine lv_iload hx hb d_Mo_find_297 (lv_at hl 0 rfl) ?_
          refine mv_zald hx hb hK hI 2 (Z.1 2) (mw_2 hQ) rfl c0 (rfl) (by omega) (by decide) d_Mo_find_299 ?_
          refine mv_i (y := bI (Rk d dp u x y c0).isSome) ((by rw [(hf.2.1 c0 hcn).1]; exact w1)) ?_
          refine mv_zne (tgt := 306) hx hb (Rk d dp u x y c0).isSome rfl d_Mo_find_300 (by decide) (fun c2 => ?_) (fun c2 => ?_)
          · obtain ⟨t, et⟩ := Option.isSome_iff_exists.mp c2
            rw [et] at hacc
            refine lv_aload_n hx hb d_Mo_find_306 rfl (lv_at hl 3 rfl) ?_
            refine hp_get (ci := 5) (v := .ref (Q 2)) (C := R_Mo) (T := F_Mo) (N := 28) hx hb hg i_Mo hown hK hI (mw_o hQ) rfl 2 (by decide) (hg _ k_775) (fun _ h9 => h9) rfl d_Mo_find_307 ?_
            refine lv_iload_n hx hb d_Mo_find_310 rfl (lv_at hl 4 rfl) ?_
            refine lv_iconst (v := 1) hx hb d_Mo_find_311 (by decide) ?_
            refine mv_zast hx hb hK hI hS 2 (Z.1 2) (mw_2 hQ) rfl n (Or.inr rfl) (fun f9 => mW G Q (xsI Z 2 f9) w0) (fun _ => mws_2 hQ) (rfl) (by omega) (by decide) d_Mo_find_312 (fun H locs f_4 ef_4 hI hS hsz => ?_)
            try dsimp only at hI
            refine lv_aload_n hx hb d_Mo_find_313 rfl (lv_at hl 3 rfl) ?_
            refine hp_get (ci := 5) (v := .ref (Q 12)) (C := R_Mo) (T := F_Mo) (N := 28) hx hb hg i_Mo hown hK hI (mw_o hQ) rfl 12 (by decide) (hg _ k_785) (fun _ h9 => h9) rfl d_Mo_find_314 ?_
            refine lv_iload_n hx hb d_Mo_find_317 rfl (lv_at hl 4 rfl) ?_
            refine lv_aload_n hx hb d_Mo_find_318 rfl (lv_at hl 3 rfl) ?_
            refine hp_get (ci := 5) (v := .ref (Q 12)) (C := R_Mo) (T := F_Mo) (N := 28) hx hb hg i_Mo hown hK hI (mw_o hQ) rfl 12 (by decide) (hg _ k_785) (fun _ h9 => h9) rfl d_Mo_find_319 ?_
            refine lv_iload hx hb d_Mo_find_322 (lv_at hl 0 rfl) ?_
            refine mv_iald hx hb hK hI 0 (Z.1 12) (mw_12 hQ) rfl c0 (rfl) (by omega) (by decide) d_Mo_find_324 ?_
            refine mv_i (y := nI t) ((by rw [(hf.2.1 c0 hcn).2]; exact w2 t et)) ?_
            refine mv_iast hx hb hK hI hS 0 (Z.1 12) (mw_12 hQ) rfl n (fun f9 => mW G Q (xsI (xsI Z 2 f_4) 12 f9) w0) (fun _ => mws_12 hQ) (rfl) (by omega) (by decide) d_Mo_find_325 (fun H locs f_5 ef_5 hI hS hsz => ?_)
            try dsimp only at hI
            refine lv_iinc (v := nI (k + 1)) (lv' := [(8, .int (nI (k + 1))), (9, .int (nI c0)), (7, .int 1), (0, .ref (Q 25)), (1, .int (nI n))]) hx hb d_Mo_find_326 hl (k := 1) rfl (nI_inc k) (by decide) rfl (fun ls hl => ?_)
            refine lv_goto (tgt := 263) hx hb d_Mo_find_329 (by decide) ?_
            have hf2 : fdR (xsI (xsI Z 2 f_4) 12 f_5) Z n := by rw [ef_5, ef_4]; exact (fdR.a2 (X := Z)).tr (fdR.a12 (X := xsI Z 2 (upd (Z.1 2) n 1)))
            exact O ((sCh d n).length - (k + 1)) (((xsI (xsI Z 2 f_4) 12 f_5), k + 1)) _ _ _ (by omega) (⟨by show fr ≤ k + 1; omega, c1, rfl, hf.tr hf2, by rw [hacc]; show f_4 n = _; rw [ef_4]; exact upd_y, by rw [hacc]; intro t' ht'; cases ht'; show f_5 n = _; rw [ef_5]; exact upd_y⟩) (lv_sub hl [0, 2, 3, 4] rfl) hI hS
          · have et : Rk d dp u x y c0 = none := by cases hq : Rk d dp u x y c0 with | none => rfl | some t => rw [hq] at c2; cases c2
            rw [et] at hacc
            refine lv_goto (tgt := 326) hx hb d_Mo_find_303 (by decide) ?_
            refine lv_iinc (v := nI (k + 1)) (lv' := [(8, .int (nI (k + 1))), (9, .int (nI c0)), (7, .int 1), (0, .ref (Q 25)), (1, .int (nI n))]) hx hb d_Mo_find_326 hl (k := 1) rfl (nI_inc k) (by decide) rfl (fun ls hl => ?_)
            refine lv_goto (tgt := 263) hx hb d_Mo_find_329 (by decide) ?_
            exact O ((sCh d n).length - (k + 1)) ((Z, k + 1)) _ _ _ (by omega) (⟨by show fr ≤ k + 1; omega, c1, rfl, hf, by rw [hacc]; exact hz2, by rw [hacc]; exact hz12⟩) (lv_sub hl [0, 2, 3, 4] rfl) hI hS
      · refine lv_aload_n hx hb d_Mo_find_204 rfl (lv_at hl 2 rfl) ?_
        refine hp_get (ci := 5) (v := .ref (Q 5)) (C := R_Mo) (T := F_Mo) (N := 28) hx hb hg i_Mo hown hK hI (mw_o hQ) rfl 5 (by decide) (hg _ k_778) (fun _ h9 => h9) rfl d_Mo_find_205 ?_
        refine lv_iload_n hx hb d_Mo_find_208 rfl (lv_at hl 3 rfl) ?_
        refine mv_iald hx hb hK hI 0 (X.1 5) (mw_5 hQ) rfl n (rfl) (by omega) (by decide) d_Mo_find_209 ?_
        refine mv_i (y := nI mc) ((hM.mo hn hnt).trans emc) ?_
        refine lv_iconst (v := 1) hx hb d_Mo_find_210 (by decide) ?_
        refine mv_cne (tgt := 218) hx hb mc 1 rfl rfl (by omega) (by omega) d_Mo_find_211 (by decide) (fun c1 => ?_) (fun c1 => ?_)
        · have hgin : gIn d (Rk d dp u x y) n = ((sCh d n).drop 0).reverse.findSome? (Rk d dp u x y) := by
            unfold gIn
            rw [if_neg (by rw [emc]; exact fun h => c1 ((nI_eq (a := mc) (b := 1) (by omega) (by decide)).mp h))]
          refine lv_iconst (v := 0) hx hb d_Mo_find_218 (by decide) ?_
          refine lv_istore (lv' := [(6, .int 0), (4, .double ((pt d dp u x y n).2)), (2, .double ((pt d dp u x y n).1)), (0, .ref (Q 25)), (1, .int (nI n))]) hx hb d_Mo_find_219 hl (by decide) rfl (fun ls hl => ?_)
          refine lv_iload hx hb d_Mo_find_221 (lv_at hl 0 rfl) ?_
          refine lv_if_eq (tgt := 252) hx hb d_Mo_find_223 (by decide) (fun c9 => ?_) (fun c9 => absurd (rfl) c9)
          refine lv_iconst (v := 1) hx hb d_Mo_find_252 (by decide) ?_
          refine lv_goto (tgt := 257) hx hb d_Mo_find_253 (by decide) ?_
          refine lv_istore (lv' := [(7, .int 1), (6, .int 0), (4, .double ((pt d dp u x y n).2)), (2, .double ((pt d dp u x y n).1)), (0, .ref (Q 25)), (1, .int (nI n))]) hx hb d_Mo_find_257 hl (by decide) rfl (fun ls hl => ?_)
          refine lv_iload hx hb d_Mo_find_259 (lv_at hl 1 rfl) ?_
          refine lv_istore (lv' := [(8, .int 0), (7, .int 1), (6, .int 0), (4, .double ((pt d dp u x y n).2)), (2, .double ((pt d dp u x y n).1)), (0, .ref (Q 25)), (1, .int (nI n))]) hx hb d_Mo_find_261 hl (by decide) rfl (fun ls hl => ?_)
          exact LP (0) _ _ _ (⟨Nat.zero_le _, hgin⟩) (lv_sub hl [0, 1, 5, 6] rfl) hI hS
        · have hg1 : gIn d (Rk d dp u x y) n = if fstH (sCh d n) (Rk d dp u x y) then ((sCh d n).drop 1).reverse.findSome? (Rk d dp u x y) else none := by
            unfold gIn
            rw [if_pos (by rw [emc, c1]; rfl)]
          refine lv_iconst (v := 1) hx hb d_Mo_find_214 (by decide) ?_
          refine lv_goto (tgt := 219) hx hb d_Mo_find_215 (by decide) ?_
          refine lv_istore (lv' := [(6, .int 1), (4, .double ((pt d dp u x y n).2)), (2, .double ((pt d dp u x y n).1)), (0, .ref (Q 25)), (1, .int (nI n))]) hx hb d_Mo_find_219 hl (by decide) rfl (fun ls hl => ?_)
          refine lv_iload hx hb d_Mo_find_221 (lv_at hl 0 rfl) ?_
          refine lv_if_eq (tgt := 252) hx hb d_Mo_find_223 (by decide) (fun c9 => absurd c9 (by decide)) (fun c9 => ?_)
          refine lv_aload_n hx hb d_Mo_find_226 rfl (lv_at hl 3 rfl) ?_
          refine hp_get (ci := 5) (v := .ref (Q 7)) (C := R_Mo) (T := F_Mo) (N := 28) hx hb hg i_Mo hown hK hI (mw_o hQ) rfl 7 (by decide) (hg _ k_780) (fun _ h9 => h9) rfl d_Mo_find_227 ?_
          refine lv_iload_n hx hb d_Mo_find_230 rfl (lv_at hl 4 rfl) ?_
          refine mv_iald hx hb hK hI 0 (X.1 7) (mw_7 hQ) rfl n (rfl) (by omega) (by decide) d_Mo_find_231 ?_
          refine mv_i (y := nI (sCh d n).length) (e7) ?_
          refine mv_ile (tgt := 256) hx hb (sCh d n).length rfl (by omega) d_Mo_find_232 (by decide) (fun c2 => ?_) (fun c2 => ?_)
          · have hno : Bk d dp u x y n = none := by
              rw [hBk, hg1]
              have : fstH (sCh d n) (Rk d dp u x y) = false := by unfold fstH; rw [List.getElem?_eq_none (by omega)]
              rw [this]
              rfl
            refine lv_iconst (v := 0) hx hb d_Mo_find_256 (by decide) ?_
            refine lv_istore (lv' := [(7, .int 0), (6, .int 1), (4, .double ((pt d dp u x y n).2)), (2, .double ((pt d dp u x y n).1)), (0, .ref (Q 25)), (1, .int (nI n))]) hx hb d_Mo_find_257 hl (by decide) rfl (fun ls hl => ?_)
            refine lv_iload hx hb d_Mo_find_259 (lv_at hl 1 rfl) ?_
            refine lv_istore (lv' := [(8, .int 1), (7, .int 0), (6, .int 1), (4, .double ((pt d dp u x y n).2)), (2, .double ((pt d dp u x y n).1)), (0, .ref (Q 25)), (1, .int (nI n))]) hx hb d_Mo_find_261 hl (by decide) rfl (fun ls hl => ?_)
            refine lv_iload hx hb d_Mo_find_263 (lv_at hl 0 rfl) ?_
            refine lv_aload_n hx hb d_Mo_find_265 rfl (lv_at hl 5 rfl) ?_
            refine hp_get (ci := 5) (v := .ref (Q 7)) (C := R_Mo) (T := F_Mo) (N := 28) hx hb hg i_Mo hown hK hI (mw_o hQ) rfl 7 (by decide) (hg _ k_780) (fun _ h9 => h9) rfl d_Mo_find_266 ?_
            refine lv_iload_n hx hb d_Mo_find_269 rfl (lv_at hl 6 rfl) ?_
            refine mv_iald hx hb hK hI 0 (X.1 7) (mw_7 hQ) rfl n (rfl) (by omega) (by decide) d_Mo_find_270 ?_
            refine mv_i (y := nI (sCh d n).length) (e7) ?_
            refine mv_cge (tgt := 332) hx hb 1 (sCh d n).length rfl rfl (by omega) (by omega) d_Mo_find_271 (by decide) (fun c3 => ?_) (fun c3 => ?_)
            · exact T ((xsI (xsI X 12 f_2) 2 f_3)) _ _ _ (⟨hf1, by rw [hno]; exact ef2n, by rw [hno]; intro t h; cases h⟩) (lv_sub hl [5, 6] rfl) hI hS
            · omega
          · obtain ⟨c0, ec0⟩ : ∃ c0, (sCh d n)[0]? = some c0 := ⟨_, List.getElem?_eq_getElem c2⟩
            have hcm := List.mem_of_getElem? ec0
            obtain ⟨q1, q2, q3, q4, q5, q6⟩ := htr.child hn hnt hcm
            have hcn : c0 ≠ n := fun e => by rw [e] at q5; omega
            obtain ⟨w1, w2⟩ := hch c0 hcm
            have hfs : fstH (sCh d n) (Rk d dp u x y) = (Rk d dp u x y c0).isSome := by unfold fstH; rw [ec0]
            refine lv_aload_n hx hb d_Mo_find_235 rfl (lv_at hl 3 rfl) ?_
            refine hp_get (ci := 5) (v := .ref (Q 2)) (C := R_Mo) (T := F_Mo) (N := 28) hx hb hg i_Mo hown hK hI (mw_o hQ) rfl 2 (by decide) (hg _ k_775) (fun _ h9 => h9) rfl d_Mo_find_236 ?_
            refine lv_aload_n hx hb d_Mo_find_239 rfl (lv_at hl 3 rfl) ?_
            refine hp_get (ci := 5) (v := .ref (Q 8)) (C := R_Mo) (T := F_Mo) (N := 28) hx hb hg i_Mo hown hK hI (mw_o hQ) rfl 8 (by decide) (hg _ k_781) (fun _ h9 => h9) rfl d_Mo_find_240 ?_
            refine lv_iload_n hx hb d_Mo_find_243 rfl (lv_at hl 4 rfl) ?_
            refine lv_bipush (v := 14) hx hb d_Mo_find_244 (by decide) ?_
            refine mv_imul hx hb n 14 rfl rfl d_Mo_find_246 ?_
            refine mv_iald hx hb hK hI 0 (X.1 8) (mw_8 hQ) rfl (n * 14) (rfl) (by omega) (by decide) d_Mo_find_247 ?_
            refine mv_i (y := nI c0) (hM.ch' hn hnt ec0) ?_
            refine mv_zald hx hb hK hI 2 f_3 (mw_2 hQ) rfl c0 (rfl) (by omega) (by decide) d_Mo_find_248 ?_
            refine mv_i (y := bI (Rk d dp u x y c0).isSome) ((by rw [ef_3, upd_n hcn]; exact w1)) ?_
            refine mv_zeq (tgt := 256) hx hb (Rk d dp u x y c0).isSome rfl d_Mo_find_249 (by decide) (fun c3 => ?_) (fun c3 => ?_)
            · have hno : Bk d dp u x y n = none := by
                rw [hBk, hg1, hfs, c3]
                rfl
              refine lv_iconst (v := 0) hx hb d_Mo_find_256 (by decide) ?_
              refine lv_istore (lv' := [(7, .int 0), (6, .int 1), (4, .double ((pt d dp u x y n).2)), (2, .double ((pt d dp u x y n).1)), (0, .ref (Q 25)), (1, .int (nI n))]) hx hb d_Mo_find_257 hl (by decide) rfl (fun ls hl => ?_)
              refine lv_iload hx hb d_Mo_find_259 (lv_at hl 1 rfl) ?_
              refine lv_istore (lv' := [(8, .int 1), (7, .int 0), (6, .int 1), (4, .double ((pt d dp u x y n).2)), (2, .double ((pt d dp u x y n).1)), (0, .ref (Q 25)), (1, .int (nI n))]) hx hb d_Mo_find_261 hl (by decide) rfl (fun ls hl => ?_)
              refine lv_iload hx hb d_Mo_find_263 (lv_at hl 0 rfl) ?_
              refine lv_aload_n hx hb d_Mo_find_265 rfl (lv_at hl 5 rfl) ?_
              refine hp_get (ci := 5) (v := .ref (Q 7)) (C := R_Mo) (T := F_Mo) (N := 28) hx hb hg i_Mo hown hK hI (mw_o hQ) rfl 7 (by decide) (hg _ k_780) (fun _ h9 => h9) rfl d_Mo_find_266 ?_
              refine lv_iload_n hx hb d_Mo_find_269 rfl (lv_at hl 6 rfl) ?_
              refine mv_iald hx hb hK hI 0 (X.1 7) (mw_7 hQ) rfl n (rfl) (by omega) (by decide) d_Mo_find_270 ?_
              refine mv_i (y := nI (sCh d n).length) (e7) ?_
              refine mv_cge (tgt := 332) hx hb 1 (sCh d n).length rfl rfl (by omega) (by omega) d_Mo_find_271 (by decide) (fun c4 => ?_) (fun c4 => ?_)
              · exact T ((xsI (xsI X 12 f_2) 2 f_3)) _ _ _ (⟨hf1, by rw [hno]; exact ef2n, by rw [hno]; intro t h; cases h⟩) (lv_sub hl [5, 6] rfl) hI hS
              · refine lv_iload hx hb d_Mo_find_274 (lv_at hl 1 rfl) ?_
                refine lv_if_eq (tgt := 332) hx hb d_Mo_find_276 (by decide) (fun c9 => ?_) (fun c9 => absurd (rfl) c9)
                exact T ((xsI (xsI X 12 f_2) 2 f_3)) _ _ _ (⟨hf1, by rw [hno]; exact ef2n, by rw [hno]; intro t h; cases h⟩) (lv_sub hl [5, 6] rfl) hI hS
            · refine lv_iconst (v := 1) hx hb d_Mo_find_252 (by decide) ?_
              refine lv_goto (tgt := 257) hx hb d_Mo_find_253 (by decide) ?_
              refine lv_istore (lv' := [(7, .int 1), (6, .int 1), (4, .double ((pt d dp u x y n).2)), (2, .double ((pt d dp u x y n).1)), (0, .ref (Q 25)), (1, .int (nI n))]) hx hb d_Mo_find_257 hl (by decide) rfl (fun ls hl => ?_)
              refine lv_iload hx hb d_Mo_find_259 (lv_at hl 1 rfl) ?_
              refine lv_istore (lv' := [(8, .int 1), (7, .int 1), (6, .int 1), (4, .double ((pt d dp u x y n).2)), (2, .double ((pt d dp u x y n).1)), (0, .ref (Q 25)), (1, .int (nI n))]) hx hb d_Mo_find_261 hl (by decide) rfl (fun ls hl => ?_)
              exact LP (1) _ _ _ (⟨c2, by rw [hg1, hfs, c3]; rfl⟩) (lv_sub hl [0, 1, 5, 6] rfl) hI hS
    · have hn0 : n ≠ 0 := fun e => hg0 (by rw [e]; exact htr.2.2.1)
      have ept : pt d dp u x y n = rwP d dp u x y n := by
        rw [pt_eq htr hn hnt]
        unfold tilG
        rw [if_neg hg0, if_neg hg0]
      rw [ept] at hA hB
      obtain ⟨a0, ea0⟩ : ∃ z9, z9 = (rwP d dp u x y n).1 := ⟨_, rfl⟩
      obtain ⟨b0, eb0⟩ : ∃ z9, z9 = (rwP d dp u x y n).2 := ⟨_, rfl⟩
      rw [← ea0] at hA ra fa
      rw [← eb0] at hB rb fb
      have hBk : Bk d dp u x y n = if covB (sNi d n 0) (sNd d n 0) (sNd d n 1) a0 b0 then some n else none := by
        unfold Bk
        rw [if_neg hg0, ea0, eb0]
      have fin : ∀ (b : Bool) (f1 f2 : Nat → Int32), covB (sNi d n 0) (sNd d n 0) (sNd d n 1) a0 b0 = b → f1 = upd (X.1 12) n (nI n) → f2 = upd (X.1 2) n (bI b) → fdR (xsI (xsI X 12 f1) 2 f2) X n ∧ (xsI (xsI X 12 f1) 2 f2).1 2 n = bI (Bk d dp u x y n).isSome ∧ ∀ t, Bk d dp u x y n = some t → (xsI (xsI X 12 f1) 2 f2).1 12 n = nI t := by
        intro b f1 f2 hb1 h1 h2
        rw [hBk, hb1]
        refine ⟨by rw [h2, h1]; exact (fdR.a12 (X := X)).tr (fdR.a2 (X := xsI X 12 (upd (X.1 12) n (nI n)))), ?_, ?_⟩
        · show f2 n = _
          rw [h2, upd_y]
          cases b <;> rfl
        · intro t ht
          show f1 n = _
          rw [h1, upd_y]
          cases b with
          | true => cases ht; rfl
          | false => cases ht
      obtain ⟨-, -, b1, b2, -⟩ : X.2.1 15 n = sNd d n 0 ∧ X.2.1 16 n = sNd d n 1 ∧ X.2.1 15 n = sNd d n 0 ∧ X.2.1 16 n = sNd d n 1 ∧ True := ⟨(hM.ba hn hnt hn0).1, (hM.ba hn hnt hn0).2.1, (hM.ba hn hnt hn0).1, (hM.ba hn hnt hn0).2.1, trivial⟩
      have h3 : sNi d n 0 = 1 ∨ sNi d n 0 = 2 ∨ sNi d n 0 = 3 := by
        rcases (show kc = 0 ∨ kc = 1 ∨ kc = 2 ∨ kc = 3 by omega) with rfl | rfl | rfl | rfl
        · exact absurd ekc hg0
        · exact Or.inl ekc
        · exact Or.inr (Or.inl ekc)
        · exact Or.inr (Or.inr ekc)
      rcases h3 with hkd | hkd | hkd
      · have hcov : covB (sNi d n 0) (sNd d n 0) (sNd d n 1) a0 b0 = (dIn a0 FP.dconst0 (sNd d n 0) && dIn b0 FP.dconst0 (sNd d n 1)) := by
          unfold covB dIn
          rw [if_pos hkd, ← Bool.decide_and]
          congr 1
          rw [dge0 ra, dge0 rb]
          simp only [and_assoc]
        refine lv_aload_n hx hb d_Mo_find_0 rfl (lv_at hl 0 rfl) ?_
        refine hp_get (ci := 5) (v := .ref (Q 20)) (C := R_Mo) (T := F_Mo) (N := 28) hx hb hg i_Mo hown hK hI (mw_o hQ) rfl 20 (by decide) (hg _ k_793) (fun _ h9 => h9) rfl d_Mo_find_1 ?_
        refine lv_iload_n hx hb d_Mo_find_4 rfl (lv_at hl 1 rfl) ?_
        refine mv_dald hx hb hK hI 1 (X.2.1 20) (mw_20 hQ) rfl n (rfl) (by omega) (by decide) d_Mo_find_5 ?_
        refine mv_d (y := a0) (hA) ?_
        refine lv_dstore_n (lv' := [(2, .double a0), (0, .ref (Q 25)), (1, .int (nI n))]) hx hb d_Mo_find_6 rfl hl (by decide) rfl (fun ls hl => ?_)
        refine lv_aload_n hx hb d_Mo_find_7 rfl (lv_at hl 1 rfl) ?_
        refine hp_get (ci := 5) (v := .ref (Q 21)) (C := R_Mo) (T := F_Mo) (N := 28) hx hb hg i_Mo hown hK hI (mw_o hQ) rfl 21 (by decide) (hg _ k_794) (fun _ h9 => h9) rfl d_Mo_find_8 ?_
        refine lv_iload_n hx hb d_Mo_find_11 rfl (lv_at hl 2 rfl) ?_
        refine mv_dald hx hb hK hI 1 (X.2.1 21) (mw_21 hQ) rfl n (rfl) (by omega) (by decide) d_Mo_find_12 ?_
        refine mv_d (y := b0) (hB) ?_
        refine lv_dstore (lv' := [(4, .double b0), (2, .double a0), (0, .ref (Q 25)), (1, .int (nI n))]) hx hb d_Mo_find_13 hl (by decide) rfl (fun ls hl => ?_)
        refine lv_aload_n hx hb d_Mo_find_15 rfl (lv_at hl 2 rfl) ?_
        refine hp_get (ci := 5) (v := .ref (Q 12)) (C := R_Mo) (T := F_Mo) (N := 28) hx hb hg i_Mo hown hK hI (mw_o hQ) rfl 12 (by decide) (hg _ k_785) (fun _ h9 => h9) rfl d_Mo_find_16 ?_
        refine lv_iload_n hx hb d_Mo_find_19 rfl (lv_at hl 3 rfl) ?_
        refine lv_iload_n hx hb d_Mo_find_20 rfl (lv_at hl 3 rfl) ?_
        refine mv_iast hx hb hK hI hS 0 (X.1 12) (mw_12 hQ) rfl n (fun f9 => mW G Q (xsI X 12 f9) w0) (fun _ => mws_12 hQ) (rfl) (by omega) (by decide) d_Mo_find_21 (fun H locs f_6 ef_6 hI hS hsz => ?_)
        try dsimp only at hI
        refine lv_aload_n hx hb d_Mo_find_22 rfl (lv_at hl 2 rfl) ?_
        refine hp_get (ci := 5) (v := .ref (Q 4)) (C := R_Mo) (T := F_Mo) (N := 28) hx hb hg i_Mo hown hK hI (mw_o hQ) rfl 4 (by decide) (hg _ k_777) (fun _ h9 => h9) rfl d_Mo_find_23 ?_
        refine lv_iload_n hx hb d_Mo_find_26 rfl (lv_at hl 3 rfl) ?_
        refine mv_iald hx hb hK hI 0 (X.1 4) (mw_4 hQ) rfl n (rfl) (by omega) (by decide) d_Mo_find_27 ?_
        refine mv_i (y := 1) ((hM.ki hn hnt).trans hkd) ?_
        refine lv_iconst (v := 1) hx hb d_Mo_find_28 (by decide) ?_
        refine lv_icmp_ne (tgt := 72) hx hb d_Mo_find_29 (by decide) (fun c9 => absurd c9 (fun h => h rfl)) (fun c9 => ?_)
        refine lv_aload_n hx hb d_Mo_find_32 rfl (lv_at hl 2 rfl) ?_
        refine hp_get (ci := 5) (v := .ref (Q 2)) (C := R_Mo) (T := F_Mo) (N := 28) hx hb hg i_Mo hown hK hI (mw_o hQ) rfl 2 (by decide) (hg _ k_775) (fun _ h9 => h9) rfl d_Mo_find_33 ?_
        refine lv_iload_n hx hb d_Mo_find_36 rfl (lv_at hl 3 rfl) ?_
        refine lv_dload_n hx hb d_Mo_find_37 rfl (lv_at hl 1 rfl) ?_
        refine lv_dconst0 hx hb d_Mo_find_38 ?_
        refine lv_aload_n hx hb d_Mo_find_39 rfl (lv_at hl 2 rfl) ?_
        refine hp_get (ci := 5) (v := .ref (Q 15)) (C := R_Mo) (T := F_Mo) (N := 28) hx hb hg i_Mo hown hK hI (mw_o hQ) rfl 15 (by decide) (hg _ k_788) (fun _ h9 => h9) rfl d_Mo_find_40 ?_
        refine lv_iload_n hx hb d_Mo_find_43 rfl (lv_at hl 3 rfl) ?_
        refine mv_dald hx hb hK hI 1 (X.2.1 15) (mw_15 hQ) rfl n (rfl) (by omega) (by decide) d_Mo_find_44 ?_
        refine mv_d (y := sNd d n 0) (b1) ?_
        refine W.midw (G := G) (S0 := S0) (fun (v9 : Bool) => v9 = (dIn a0 FP.dconst0 (sNd d n 0) && dIn b0 FP.dconst0 (sNd d n 1))) (fun (v9 : Bool) => (mW G Q (xsI X 12 f_6) w0)) (fun (v9 : Bool) => [(0, .ref (Q 25)), (1, .int (nI n))]) (fun (v9 : Bool) => 0) (fun (v9 : Bool) => 0) 10 71 (fun (v9 : Bool) => [.int (bI v9), .int (nI n), .ref (Q 2)]) ?_ (fun V => ?_)
        · rintro v9 ls H locs hP hl hI hS
          try dsimp only at hP hl hI ⊢
          refine mv_zast hx hb hK hI hS 2 (X.1 2) (mw_2 hQ) rfl n (bI_01 v9) (fun f9 => mW G Q (xsI (xsI X 12 f_6) 2 f9) w0) (fun _ => mws_2 hQ) (rfl) (by omega) (by decide) d_Mo_find_71 (fun H locs f_7 ef_7 hI hS hsz => ?_)
          try dsimp only at hI
          refine lv_aload_n hx hb d_Mo_find_72 rfl (lv_at hl 0 rfl) ?_
          refine hp_get (ci := 5) (v := .ref (Q 4)) (C := R_Mo) (T := F_Mo) (N := 28) hx hb hg i_Mo hown hK hI (mw_o hQ) rfl 4 (by decide) (hg _ k_777) (fun _ h9 => h9) rfl d_Mo_find_73 ?_
          refine lv_iload_n hx hb d_Mo_find_76 rfl (lv_at hl 1 rfl) ?_
          refine mv_iald hx hb hK hI 0 (X.1 4) (mw_4 hQ) rfl n (rfl) (by omega) (by decide) d_Mo_find_77 ?_
          refine mv_i (y := 1) ((hM.ki hn hnt).trans hkd) ?_
          refine lv_iconst (v := 2) hx hb d_Mo_find_78 (by decide) ?_
          refine lv_icmp_ne (tgt := 119) hx hb d_Mo_find_79 (by decide) (fun c9 => ?_) (fun c9 => absurd c9 (by decide))
          refine lv_aload_n hx hb d_Mo_find_119 rfl (lv_at hl 0 rfl) ?_
          refine hp_get (ci := 5) (v := .ref (Q 4)) (C := R_Mo) (T := F_Mo) (N := 28) hx hb hg i_Mo hown hK hI (mw_o hQ) rfl 4 (by decide) (hg _ k_777) (fun _ h9 => h9) rfl d_Mo_find_120 ?_
          refine lv_iload_n hx hb d_Mo_find_123 rfl (lv_at hl 1 rfl) ?_
          refine mv_iald hx hb hK hI 0 (X.1 4) (mw_4 hQ) rfl n (rfl) (by omega) (by decide) d_Mo_find_124 ?_
          refine mv_i (y := 1) ((hM.ki hn hnt).trans hkd) ?_
          refine lv_iconst (v := 3) hx hb d_Mo_find_125 (by decide) ?_
          refine lv_icmp_ne (tgt := 188) hx hb d_Mo_find_126 (by decide) (fun c9 => ?_) (fun c9 => absurd c9 (by decide))
          refine lv_aload_n hx hb d_Mo_find_188 rfl (lv_at hl 0 rfl) ?_
          refine hp_get (ci := 5) (v := .ref (Q 4)) (C := R_Mo) (T := F_Mo) (N := 28) hx hb hg i_Mo hown hK hI (mw_o hQ) rfl 4 (by decide) (hg _ k_777) (fun _ h9 => h9) rfl d_Mo_find_189 ?_
          refine lv_iload_n hx hb d_Mo_find_192 rfl (lv_at hl 1 rfl) ?_
          refine mv_iald hx hb hK hI 0 (X.1 4) (mw_4 hQ) rfl n (rfl) (by omega) (by decide) d_Mo_find_193 ?_
          refine mv_i (y := 1) ((hM.ki hn hnt).trans hkd) ?_
          refine lv_if_ne (tgt := 332) hx hb d_Mo_find_194 (by decide) (fun c9 => ?_) (fun c9 => absurd c9 (by decide))
          exact T ((xsI (xsI X 12 f_6) 2 f_7)) _ _ _ (fin v9 _ _ (hcov.trans hP.symm) ef_6 ef_7) (lv_sub hl [0, 1] rfl) hI hS
        · refine ec_i (va_runS (As := [.double a0, .double FP.dconst0, .double (sNd d n 0)]) (rest := [.int (nI n), .ref (Q 2)]) ⟨hx, hb, hml, hown, hts⟩ (m_Mo_in l G S0 (mW G Q (xsI X 12 f_6) w0) a0 FP.dconst0 (sNd d n 0)) (cwS 3 hts (gw_S k_889 k_890 k_67 k_891) rfl rfl rfl (by decide +kernel) ⟨Nat.le_of_ble_eq_true rfl, Nat.le_of_ble_eq_true rfl⟩) (eB.preS hE hI hS hz) rfl rfl hl.1 rfl (lv_room (Nat.le_of_ble_eq_true rfl)) d_Mo_find_45 ⟨Nat.le_of_ble_eq_true rfl, Nat.le_of_ble_eq_true rfl⟩) hS (fun q1 w_1 H locs ew_1 hI hsz hS => ?_)
          obtain ⟨eq1, ew_1⟩ := ew_1
          have ew_1 := ew_1.symm
          subst ew_1
          subst eq1
          refine mv_zeq (tgt := 70) hx hb (dIn a0 FP.dconst0 (sNd d n 0)) rfl d_Mo_find_48 (by decide) (fun c1 => ?_) (fun c1 => ?_)
          · refine lv_iconst (v := 0) hx hb d_Mo_find_70 (by decide) ?_
            exact V (false) _ _ _ (by rw [c1]; rfl) (lv_sub hl [2, 3] rfl) hI hS
          refine lv_dload hx hb d_Mo_find_51 (lv_at hl 0 rfl) ?_
          refine lv_dconst0 hx hb d_Mo_find_53 ?_
          refine lv_aload_n hx hb d_Mo_find_54 rfl (lv_at hl 2 rfl) ?_
          refine hp_get (ci := 5) (v := .ref (Q 16)) (C := R_Mo) (T := F_Mo) (N := 28) hx hb hg i_Mo hown hK hI (mw_o hQ) rfl 16 (by decide) (hg _ k_789) (fun _ h9 => h9) rfl d_Mo_find_55 ?_
          refine lv_iload_n hx hb d_Mo_find_58 rfl (lv_at hl 3 rfl) ?_
          refine mv_dald hx hb hK hI 1 (X.2.1 16) (mw_16 hQ) rfl n (rfl) (by omega) (by decide) d_Mo_find_59 ?_
          refine mv_d (y := sNd d n 1) (b2) ?_
          refine ec_i (va_runS (As := [.double b0, .double FP.dconst0, .double (sNd d n 1)]) (rest := [.int (nI n), .ref (Q 2)]) ⟨hx, hb, hml, hown, hts⟩ (m_Mo_in l G S0 (mW G Q (xsI X 12 f_6) w0) b0 FP.dconst0 (sNd d n 1)) (cwS 3 hts (gw_S k_889 k_890 k_67 k_891) rfl rfl rfl (by decide +kernel) ⟨Nat.le_of_ble_eq_true rfl, Nat.le_of_ble_eq_true rfl⟩) (eB.preS hE hI hS hz) rfl rfl hl.1 rfl (lv_room (Nat.le_of_ble_eq_true rfl)) d_Mo_find_60 ⟨Nat.le_of_ble_eq_true rfl, Nat.le_of_ble_eq_true rfl⟩) hS (fun q2 w_2 H locs ew_2 hI hsz hS => ?_)
          obtain ⟨eq2, ew_2⟩ := ew_2
          have ew_2 := ew_2.symm
          subst ew_2
          subst eq2
          refine mv_zeq (tgt := 70) hx hb (dIn b0 FP.dconst0 (sNd d n 1)) rfl d_Mo_find_63 (by decide) (fun c2 => ?_) (fun c2 => ?_)
          · refine lv_iconst (v := 0) hx hb d_Mo_find_70 (by decide) ?_
            exact V (false) _ _ _ (by rw [c2, Bool.and_false]) (lv_sub hl [2, 3] rfl) hI hS
          refine lv_iconst (v := 1) hx hb d_Mo_find_66 (by decide) ?_
          refine lv_goto (tgt := 71) hx hb d_Mo_find_67 (by decide) ?_
          exact V (true) _ _ _ (by rw [c1, c2]; rfl) (lv_sub hl [2, 3] rfl) hI hS
      · have hcov : covB (sNi d n 0) (sNd d n 0) (sNd d n 1) a0 b0 = decide (dle (FP.dadd (FP.dmul a0 a0) (FP.dmul b0 b0)) (FP.dmul (sNd d n 0) (sNd d n 0))) := by unfold covB; rw [if_neg (by rw [hkd]; decide), if_pos hkd]
        refine lv_aload_n hx hb d_Mo_find_0 rfl (lv_at hl 0 rfl) ?_
        refine hp_get (ci := 5) (v := .ref (Q 20)) (C := R_Mo) (T := F_Mo) (N := 28) hx hb hg i_Mo hown hK hI (mw_o hQ) rfl 20 (by decide) (hg _ k_793) (fun _ h9 => h9) rfl d_Mo_find_1 ?_
        refine lv_iload_n hx hb d_Mo_find_4 rfl (lv_at hl 1 rfl) ?_
        refine mv_dald hx hb hK hI 1 (X.2.1 20) (mw_20 hQ) rfl n (rfl) (by omega) (by decide) d_Mo_find_5 ?_
        refine mv_d (y := a0) (hA) ?_
        refine lv_dstore_n (lv' := [(2, .double a0), (0, .ref (Q 25)), (1, .int (nI n))]) hx hb d_Mo_find_6 rfl hl (by decide) rfl (fun ls hl => ?_)
        refine lv_aload_n hx hb d_Mo_find_7 rfl (lv_at hl 1 rfl) ?_
        refine hp_get (ci := 5) (v := .ref (Q 21)) (C := R_Mo) (T := F_Mo) (N := 28) hx hb hg i_Mo hown hK hI (mw_o hQ) rfl 21 (by decide) (hg _ k_794) (fun _ h9 => h9) rfl d_Mo_find_8 ?_
        refine lv_iload_n hx hb d_Mo_find_11 rfl (lv_at hl 2 rfl) ?_
        refine mv_dald hx hb hK hI 1 (X.2.1 21) (mw_21 hQ) rfl n (rfl) (by omega) (by decide) d_Mo_find_12 ?_
        refine mv_d (y := b0) (hB) ?_
        refine lv_dstore (lv' := [(4, .double b0), (2, .double a0), (0, .ref (Q 25)), (1, .int (nI n))]) hx hb d_Mo_find_13 hl (by decide) rfl (fun ls hl => ?_)
        refine lv_aload_n hx hb d_Mo_find_15 rfl (lv_at hl 2 rfl) ?_
        refine hp_get (ci := 5) (v := .ref (Q 12)) (C := R_Mo) (T := F_Mo) (N := 28) hx hb hg i_Mo hown hK hI (mw_o hQ) rfl 12 (by decide) (hg _ k_785) (fun _ h9 => h9) rfl d_Mo_find_16 ?_
        refine lv_iload_n hx hb d_Mo_find_19 rfl (lv_at hl 3 rfl) ?_
        refine lv_iload_n hx hb d_Mo_find_20 rfl (lv_at hl 3 rfl) ?_
        refine mv_iast hx hb hK hI hS 0 (X.1 12) (mw_12 hQ) rfl n (fun f9 => mW G Q (xsI X 12 f9) w0) (fun _ => mws_12 hQ) (rfl) (by omega) (by decide) d_Mo_find_21 (fun H locs f_8 ef_8 hI hS hsz => ?_)
        try dsimp only at hI
        refine lv_aload_n hx hb d_Mo_find_22 rfl (lv_at hl 2 rfl) ?_
        refine hp_get (ci := 5) (v := .ref (Q 4)) (C := R_Mo) (T := F_Mo) (N := 28) hx hb hg i_Mo hown hK hI (mw_o hQ) rfl 4 (by decide) (hg _ k_777) (fun _ h9 => h9) rfl d_Mo_find_23 ?_
        refine lv_iload_n hx hb d_Mo_find_26 rfl (lv_at hl 3 rfl) ?_
        refine mv_iald hx hb hK hI 0 (X.1 4) (mw_4 hQ) rfl n (rfl) (by omega) (by decide) d_Mo_find_27 ?_
        refine mv_i (y := 2) ((hM.ki hn hnt).trans hkd) ?_
        refine lv_iconst (v := 1) hx hb d_Mo_find_28 (by decide) ?_
        refine lv_icmp_ne (tgt := 72) hx hb d_Mo_find_29 (by decide) (fun c9 => ?_) (fun c9 => absurd c9 (by decide))
        refine lv_aload_n hx hb d_Mo_find_72 rfl (lv_at hl 2 rfl) ?_
        refine hp_get (ci := 5) (v := .ref (Q 4)) (C := R_Mo) (T := F_Mo) (N := 28) hx hb hg i_Mo hown hK hI (mw_o hQ) rfl 4 (by decide) (hg _ k_777) (fun _ h9 => h9) rfl d_Mo_find_73 ?_
        refine lv_iload_n hx hb d_Mo_find_76 rfl (lv_at hl 3 rfl) ?_
        refine mv_iald hx hb hK hI 0 (X.1 4) (mw_4 hQ) rfl n (rfl) (by omega) (by decide) d_Mo_find_77 ?_
        refine mv_i (y := 2) ((hM.ki hn hnt).trans hkd) ?_
        refine lv_iconst (v := 2) hx hb d_Mo_find_78 (by decide) ?_
        refine lv_icmp_ne (tgt := 119) hx hb d_Mo_find_79 (by decide) (fun c9 => absurd c9 (fun h => h rfl)) (fun c9 => ?_)
        refine lv_aload_n hx hb d_Mo_find_82 rfl (lv_at hl 2 rfl) ?_
        refine hp_get (ci := 5) (v := .ref (Q 2)) (C := R_Mo) (T := F_Mo) (N := 28) hx hb hg i_Mo hown hK hI (mw_o hQ) rfl 2 (by decide) (hg _ k_775) (fun _ h9 => h9) rfl d_Mo_find_83 ?_
        refine lv_iload_n hx hb d_Mo_find_86 rfl (lv_at hl 3 rfl) ?_
        refine lv_dload_n hx hb d_Mo_find_87 rfl (lv_at hl 1 rfl) ?_
        refine lv_dload_n hx hb d_Mo_find_88 rfl (lv_at hl 1 rfl) ?_
        refine lv_dmul hx hb d_Mo_find_89 (fx_nmul fa.1 fa.1) ?_
        refine lv_dload hx hb d_Mo_find_90 (lv_at hl 0 rfl) ?_
        refine lv_dload hx hb d_Mo_find_92 (lv_at hl 0 rfl) ?_
        refine lv_dmul hx hb d_Mo_find_94 (fx_nmul fb.1 fb.1) ?_
        refine lv_dadd hx hb d_Mo_find_95 (fx_nadd (fin_mul fa fa (by decide)) (fin_mul fb fb (by decide))) ?_
        refine lv_aload_n hx hb d_Mo_find_96 rfl (lv_at hl 2 rfl) ?_
        refine hp_get (ci := 5) (v := .ref (Q 15)) (C := R_Mo) (T := F_Mo) (N := 28) hx hb hg i_Mo hown hK hI (mw_o hQ) rfl 15 (by decide) (hg _ k_788) (fun _ h9 => h9) rfl d_Mo_find_97 ?_
        refine lv_iload_n hx hb d_Mo_find_100 rfl (lv_at hl 3 rfl) ?_
        refine mv_dald hx hb hK hI 1 (X.2.1 15) (mw_15 hQ) rfl n (rfl) (by omega) (by decide) d_Mo_find_101 ?_
        refine mv_d (y := sNd d n 0) (b1) ?_
        refine lv_aload_n hx hb d_Mo_find_102 rfl (lv_at hl 2 rfl) ?_
        refine hp_get (ci := 5) (v := .ref (Q 15)) (C := R_Mo) (T := F_Mo) (N := 28) hx hb hg i_Mo hown hK hI (mw_o hQ) rfl 15 (by decide) (hg _ k_788) (fun _ h9 => h9) rfl d_Mo_find_103 ?_
        refine lv_iload_n hx hb d_Mo_find_106 rfl (lv_at hl 3 rfl) ?_
        refine mv_dald hx hb hK hI 1 (X.2.1 15) (mw_15 hQ) rfl n (rfl) (by omega) (by decide) d_Mo_find_107 ?_
        refine mv_d (y := sNd d n 0) (b1) ?_
        refine lv_dmul hx hb d_Mo_find_108 (fx_nmul fp.1 fp.1) ?_
        refine lv_dcmp hx hb d_Mo_find_109 ?_
        refine lv_if_gt (tgt := 117) hx hb d_Mo_find_110 (by decide) (fun q0 => ?_) (fun q0 => ?_)
        · refine lv_iconst (v := 0) hx hb d_Mo_find_117 (by decide) ?_
          refine mv_zast hx hb hK hI hS 2 (X.1 2) (mw_2 hQ) rfl n (Or.inl rfl) (fun f9 => mW G Q (xsI (xsI X 12 f_8) 2 f9) w0) (fun _ => mws_2 hQ) (rfl) (by omega) (by decide) d_Mo_find_118 (fun H locs f_9 ef_9 hI hS hsz => ?_)
          try dsimp only at hI
          refine lv_aload_n hx hb d_Mo_find_119 rfl (lv_at hl 2 rfl) ?_
          refine hp_get (ci := 5) (v := .ref (Q 4)) (C := R_Mo) (T := F_Mo) (N := 28) hx hb hg i_Mo hown hK hI (mw_o hQ) rfl 4 (by decide) (hg _ k_777) (fun _ h9 => h9) rfl d_Mo_find_120 ?_
          refine lv_iload_n hx hb d_Mo_find_123 rfl (lv_at hl 3 rfl) ?_
          refine mv_iald hx hb hK hI 0 (X.1 4) (mw_4 hQ) rfl n (rfl) (by omega) (by decide) d_Mo_find_124 ?_
          refine mv_i (y := 2) ((hM.ki hn hnt).trans hkd) ?_
          refine lv_iconst (v := 3) hx hb d_Mo_find_125 (by decide) ?_
          refine lv_icmp_ne (tgt := 188) hx hb d_Mo_find_126 (by decide) (fun c9 => ?_) (fun c9 => absurd c9 (by decide))
          refine lv_aload_n hx hb d_Mo_find_188 rfl (lv_at hl 2 rfl) ?_
          refine hp_get (ci := 5) (v := .ref (Q 4)) (C := R_Mo) (T := F_Mo) (N := 28) hx hb hg i_Mo hown hK hI (mw_o hQ) rfl 4 (by decide) (hg _ k_777) (fun _ h9 => h9) rfl d_Mo_find_189 ?_
          refine lv_iload_n hx hb d_Mo_find_192 rfl (lv_at hl 3 rfl) ?_
          refine mv_iald hx hb hK hI 0 (X.1 4) (mw_4 hQ) rfl n (rfl) (by omega) (by decide) d_Mo_find_193 ?_
          refine mv_i (y := 2) ((hM.ki hn hnt).trans hkd) ?_
          refine lv_if_ne (tgt := 332) hx hb d_Mo_find_194 (by decide) (fun c9 => ?_) (fun c9 => absurd c9 (by decide))
          exact T ((xsI (xsI X 12 f_8) 2 f_9)) _ _ _ (fin false _ _ (by rw [hcov]; exact decide_eq_false (fun h => dgt_no q0 h)) ef_8 ef_9) (lv_sub hl [2, 3] rfl) hI hS
        · refine lv_iconst (v := 1) hx hb d_Mo_find_113 (by decide) ?_
          refine lv_goto (tgt := 118) hx hb d_Mo_find_114 (by decide) ?_
          refine mv_zast hx hb hK hI hS 2 (X.1 2) (mw_2 hQ) rfl n (Or.inr rfl) (fun f9 => mW G Q (xsI (xsI X 12 f_8) 2 f9) w0) (fun _ => mws_2 hQ) (rfl) (by omega) (by decide) d_Mo_find_118 (fun H locs f_10 ef_10 hI hS hsz => ?_)
          try dsimp only at hI
          refine lv_aload_n hx hb d_Mo_find_119 rfl (lv_at hl 2 rfl) ?_
          refine hp_get (ci := 5) (v := .ref (Q 4)) (C := R_Mo) (T := F_Mo) (N := 28) hx hb hg i_Mo hown hK hI (mw_o hQ) rfl 4 (by decide) (hg _ k_777) (fun _ h9 => h9) rfl d_Mo_find_120 ?_
          refine lv_iload_n hx hb d_Mo_find_123 rfl (lv_at hl 3 rfl) ?_
          refine mv_iald hx hb hK hI 0 (X.1 4) (mw_4 hQ) rfl n (rfl) (by omega) (by decide) d_Mo_find_124 ?_
          refine mv_i (y := 2) ((hM.ki hn hnt).trans hkd) ?_
          refine lv_iconst (v := 3) hx hb d_Mo_find_125 (by decide) ?_
          refine lv_icmp_ne (tgt := 188) hx hb d_Mo_find_126 (by decide) (fun c9 => ?_) (fun c9 => absurd c9 (by decide))
          refine lv_aload_n hx hb d_Mo_find_188 rfl (lv_at hl 2 rfl) ?_
          refine hp_get (ci := 5) (v := .ref (Q 4)) (C := R_Mo) (T := F_Mo) (N := 28) hx hb hg i_Mo hown hK hI (mw_o hQ) rfl 4 (by decide) (hg _ k_777) (fun _ h9 => h9) rfl d_Mo_find_189 ?_
          refine lv_iload_n hx hb d_Mo_find_192 rfl (lv_at hl 3 rfl) ?_
          refine mv_iald hx hb hK hI 0 (X.1 4) (mw_4 hQ) rfl n (rfl) (by omega) (by decide) d_Mo_find_193 ?_
          refine mv_i (y := 2) ((hM.ki hn hnt).trans hkd) ?_
          refine lv_if_ne (tgt := 332) hx hb d_Mo_find_194 (by decide) (fun c9 => ?_) (fun c9 => absurd c9 (by decide))
          exact T ((xsI (xsI X 12 f_8) 2 f_10)) _ _ _ (fin true _ _ (by rw [hcov]; exact decide_eq_true (dgt_le q0)) ef_8 ef_10) (lv_sub hl [2, 3] rfl) hI hS
      · have hcov : covB (sNi d n 0) (sNd d n 0) (sNd d n 1) a0 b0 = decide (dle FP.dconst0 a0 ∧ dle FP.dconst0 b0 ∧ dle (FP.dadd (FP.dmul a0 (sNd d n 1)) (FP.dmul b0 (sNd d n 0))) (FP.dmul (sNd d n 0) (sNd d n 1))) := by unfold covB; rw [if_neg (by rw [hkd]; decide), if_neg (by rw [hkd]; decide)]
        refine lv_aload_n hx hb d_Mo_find_0 rfl (lv_at hl 0 rfl) ?_
        refine hp_get (ci := 5) (v := .ref (Q 20)) (C := R_Mo) (T := F_Mo) (N := 28) hx hb hg i_Mo hown hK hI (mw_o hQ) rfl 20 (by decide) (hg _ k_793) (fun _ h9 => h9) rfl d_Mo_find_1 ?_
        refine lv_iload_n hx hb d_Mo_find_4 rfl (lv_at hl 1 rfl) ?_
        refine mv_dald hx hb hK hI 1 (X.2.1 20) (mw_20 hQ) rfl n (rfl) (by omega) (by decide) d_Mo_find_5 ?_
        refine mv_d (y := a0) (hA) ?_
        refine lv_dstore_n (lv' := [(2, .double a0), (0, .ref (Q 25)), (1, .int (nI n))]) hx hb d_Mo_find_6 rfl hl (by decide) rfl (fun ls hl => ?_)
        refine lv_aload_n hx hb d_Mo_find_7 rfl (lv_at hl 1 rfl) ?_
        refine hp_get (ci := 5) (v := .ref (Q 21)) (C := R_Mo) (T := F_Mo) (N := 28) hx hb hg i_Mo hown hK hI (mw_o hQ) rfl 21 (by decide) (hg _ k_794) (fun _ h9 => h9) rfl d_Mo_find_8 ?_
        refine lv_iload_n hx hb d_Mo_find_11 rfl (lv_at hl 2 rfl) ?_
        refine mv_dald hx hb hK hI 1 (X.2.1 21) (mw_21 hQ) rfl n (rfl) (by omega) (by decide) d_Mo_find_12 ?_
        refine mv_d (y := b0) (hB) ?_
        refine lv_dstore (lv' := [(4, .double b0), (2, .double a0), (0, .ref (Q 25)), (1, .int (nI n))]) hx hb d_Mo_find_13 hl (by decide) rfl (fun ls hl => ?_)
        refine lv_aload_n hx hb d_Mo_find_15 rfl (lv_at hl 2 rfl) ?_
        refine hp_get (ci := 5) (v := .ref (Q 12)) (C := R_Mo) (T := F_Mo) (N := 28) hx hb hg i_Mo hown hK hI (mw_o hQ) rfl 12 (by decide) (hg _ k_785) (fun _ h9 => h9) rfl d_Mo_find_16 ?_
        refine lv_iload_n hx hb d_Mo_find_19 rfl (lv_at hl 3 rfl) ?_
        refine lv_iload_n hx hb d_Mo_find_20 rfl (lv_at hl 3 rfl) ?_
        refine mv_iast hx hb hK hI hS 0 (X.1 12) (mw_12 hQ) rfl n (fun f9 => mW G Q (xsI X 12 f9) w0) (fun _ => mws_12 hQ) (rfl) (by omega) (by decide) d_Mo_find_21 (fun H locs f_11 ef_11 hI hS hsz => ?_)
        try dsimp only at hI
        refine lv_aload_n hx hb d_Mo_find_22 rfl (lv_at hl 2 rfl) ?_
        refine hp_get (ci := 5) (v := .ref (Q 4)) (C := R_Mo) (T := F_Mo) (N := 28) hx hb hg i_Mo hown hK hI (mw_o hQ) rfl 4 (by decide) (hg _ k_777) (fun _ h9 => h9) rfl d_Mo_find_23 ?_
        refine lv_iload_n hx hb d_Mo_find_26 rfl (lv_at hl 3 rfl) ?_
        refine mv_iald hx hb hK hI 0 (X.1 4) (mw_4 hQ) rfl n (rfl) (by omega) (by decide) d_Mo_find_27 ?_
        refine mv_i (y := 3) ((hM.ki hn hnt).trans hkd) ?_
        refine lv_iconst (v := 1) hx hb d_Mo_find_28 (by decide) ?_
        refine lv_icmp_ne (tgt := 72) hx hb d_Mo_find_29 (by decide) (fun c9 => ?_) (fun c9 => absurd c9 (by decide))
        refine lv_aload_n hx hb d_Mo_find_72 rfl (lv_at hl 2 rfl) ?_
        refine hp_get (ci := 5) (v := .ref (Q 4)) (C := R_Mo) (T := F_Mo) (N := 28) hx hb hg i_Mo hown hK hI (mw_o hQ) rfl 4 (by decide) (hg _ k_777) (fun _ h9 => h9) rfl d_Mo_find_73 ?_
        refine lv_iload_n hx hb d_Mo_find_76 rfl (lv_at hl 3 rfl) ?_
        refine mv_iald hx hb hK hI 0 (X.1 4) (mw_4 hQ) rfl n (rfl) (by omega) (by decide) d_Mo_find_77 ?_
        refine mv_i (y := 3) ((hM.ki hn hnt).trans hkd) ?_
        refine lv_iconst (v := 2) hx hb d_Mo_find_78 (by decide) ?_
        refine lv_icmp_ne (tgt := 119) hx hb d_Mo_find_79 (by decide) (fun c9 => ?_) (fun c9 => absurd c9 (by decide))
        refine lv_aload_n hx hb d_Mo_find_119 rfl (lv_at hl 2 rfl) ?_
        refine hp_get (ci := 5) (v := .ref (Q 4)) (C := R_Mo) (T := F_Mo) (N := 28) hx hb hg i_Mo hown hK hI (mw_o hQ) rfl 4 (by decide) (hg _ k_777) (fun _ h9 => h9) rfl d_Mo_find_120 ?_
        refine lv_iload_n hx hb d_Mo_find_123 rfl (lv_at hl 3 rfl) ?_
        refine mv_iald hx hb hK hI 0 (X.1 4) (mw_4 hQ) rfl n (rfl) (by omega) (by decide) d_Mo_find_124 ?_
        refine mv_i (y := 3) ((hM.ki hn hnt).trans hkd) ?_
        refine lv_iconst (v := 3) hx hb d_Mo_find_125 (by decide) ?_
        refine lv_icmp_ne (tgt := 188) hx hb d_Mo_find_126 (by decide) (fun c9 => absurd c9 (fun h => h rfl)) (fun c9 => ?_)
        refine lv_aload_n hx hb d_Mo_find_129 rfl (lv_at hl 2 rfl) ?_
        refine hp_get (ci := 5) (v := .ref (Q 2)) (C := R_Mo) (T := F_Mo) (N := 28) hx hb hg i_Mo hown hK hI (mw_o hQ) rfl 2 (by decide) (hg _ k_775) (fun _ h9 => h9) rfl d_Mo_find_130 ?_
        refine lv_iload_n hx hb d_Mo_find_133 rfl (lv_at hl 3 rfl) ?_
        refine lv_dload_n hx hb d_Mo_find_134 rfl (lv_at hl 1 rfl) ?_
        refine lv_dconst0 hx hb d_Mo_find_135 ?_
        refine lv_dcmp hx hb d_Mo_find_136 ?_
        refine lv_if_lt (tgt := 186) hx hb d_Mo_find_137 (by decide) (fun q0 => ?_) (fun q0 => ?_)
        · refine lv_iconst (v := 0) hx hb d_Mo_find_186 (by decide) ?_
          refine mv_zast hx hb hK hI hS 2 (X.1 2) (mw_2 hQ) rfl n (Or.inl rfl) (fun f9 => mW G Q (xsI (xsI X 12 f_11) 2 f9) w0) (fun _ => mws_2 hQ) (rfl) (by omega) (by decide) d_Mo_find_187 (fun H locs f_12 ef_12 hI hS hsz => ?_)
          try dsimp only at hI
          refine lv_aload_n hx hb d_Mo_find_188 rfl (lv_at hl 2 rfl) ?_
          refine hp_get (ci := 5) (v := .ref (Q 4)) (C := R_Mo) (T := F_Mo) (N := 28) hx hb hg i_Mo hown hK hI (mw_o hQ) rfl 4 (by decide) (hg _ k_777) (fun _ h9 => h9) rfl d_Mo_find_189 ?_
          refine lv_iload_n hx hb d_Mo_find_192 rfl (lv_at hl 3 rfl) ?_
          refine mv_iald hx hb hK hI 0 (X.1 4) (mw_4 hQ) rfl n (rfl) (by omega) (by decide) d_Mo_find_193 ?_
          refine mv_i (y := 3) ((hM.ki hn hnt).trans hkd) ?_
          refine lv_if_ne (tgt := 332) hx hb d_Mo_find_194 (by decide) (fun c9 => ?_) (fun c9 => absurd c9 (by decide))
          exact T ((xsI (xsI X 12 f_11) 2 f_12)) _ _ _ (fin false _ _ (by rw [hcov]; exact decide_eq_false (fun h => absurd (cv_l_ge.mpr ((dge0 ra).mpr h.1)) (Int32.not_le.mpr q0))) ef_11 ef_12) (lv_sub hl [2, 3] rfl) hI hS
        refine lv_dload hx hb d_Mo_find_140 (lv_at hl 0 rfl) ?_
        refine lv_dconst0 hx hb d_Mo_find_142 ?_
        refine lv_dcmp hx hb d_Mo_find_143 ?_
        refine lv_if_lt (tgt := 186) hx hb d_Mo_find_144 (by decide) (fun q1 => ?_) (fun q1 => ?_)
        · refine lv_iconst (v := 0) hx hb d_Mo_find_186 (by decide) ?_
          refine mv_zast hx hb hK hI hS 2 (X.1 2) (mw_2 hQ) rfl n (Or.inl rfl) (fun f9 => mW G Q (xsI (xsI X 12 f_11) 2 f9) w0) (fun _ => mws_2 hQ) (rfl) (by omega) (by decide) d_Mo_find_187 (fun H locs f_13 ef_13 hI hS hsz => ?_)
          try dsimp only at hI
          refine lv_aload_n hx hb d_Mo_find_188 rfl (lv_at hl 2 rfl) ?_
          refine hp_get (ci := 5) (v := .ref (Q 4)) (C := R_Mo) (T := F_Mo) (N := 28) hx hb hg i_Mo hown hK hI (mw_o hQ) rfl 4 (by decide) (hg _ k_777) (fun _ h9 => h9) rfl d_Mo_find_189 ?_
          refine lv_iload_n hx hb d_Mo_find_192 rfl (lv_at hl 3 rfl) ?_
          refine mv_iald hx hb hK hI 0 (X.1 4) (mw_4 hQ) rfl n (rfl) (by omega) (by decide) d_Mo_find_193 ?_
          refine mv_i (y := 3) ((hM.ki hn hnt).trans hkd) ?_
          refine lv_if_ne (tgt := 332) hx hb d_Mo_find_194 (by decide) (fun c9 => ?_) (fun c9 => absurd c9 (by decide))
          exact T ((xsI (xsI X 12 f_11) 2 f_13)) _ _ _ (fin false _ _ (by rw [hcov]; exact decide_eq_false (fun h => absurd (cv_l_ge.mpr ((dge0 rb).mpr h.2.1)) (Int32.not_le.mpr q1))) ef_11 ef_13) (lv_sub hl [2, 3] rfl) hI hS
        refine lv_dload_n hx hb d_Mo_find_147 rfl (lv_at hl 1 rfl) ?_
        refine lv_aload_n hx hb d_Mo_find_148 rfl (lv_at hl 2 rfl) ?_
        refine hp_get (ci := 5) (v := .ref (Q 16)) (C := R_Mo) (T := F_Mo) (N := 28) hx hb hg i_Mo hown hK hI (mw_o hQ) rfl 16 (by decide) (hg _ k_789) (fun _ h9 => h9) rfl d_Mo_find_149 ?_
        refine lv_iload_n hx hb d_Mo_find_152 rfl (lv_at hl 3 rfl) ?_
        refine mv_dald hx hb hK hI 1 (X.2.1 16) (mw_16 hQ) rfl n (rfl) (by omega) (by decide) d_Mo_find_153 ?_
        refine mv_d (y := sNd d n 1) (b2) ?_
        refine lv_dmul hx hb d_Mo_find_154 (fx_nmul fa.1 fq.1) ?_
        refine lv_dload hx hb d_Mo_find_155 (lv_at hl 0 rfl) ?_
        refine lv_aload_n hx hb d_Mo_find_157 rfl (lv_at hl 2 rfl) ?_
        refine hp_get (ci := 5) (v := .ref (Q 15)) (C := R_Mo) (T := F_Mo) (N := 28) hx hb hg i_Mo hown hK hI (mw_o hQ) rfl 15 (by decide) (hg _ k_788) (fun _ h9 => h9) rfl d_Mo_find_158 ?_
        refine lv_iload_n hx hb d_Mo_find_161 rfl (lv_at hl 3 rfl) ?_
        refine mv_dald hx hb hK hI 1 (X.2.1 15) (mw_15 hQ) rfl n (rfl) (by omega) (by decide) d_Mo_find_162 ?_
        refine mv_d (y := sNd d n 0) (b1) ?_
        refine lv_dmul hx hb d_Mo_find_163 (fx_nmul fb.1 fp.1) ?_
        refine lv_dadd hx hb d_Mo_find_164 (fx_nadd (fin_mul fa fq (by decide)) (fin_mul fb fp (by decide))) ?_
        refine lv_aload_n hx hb d_Mo_find_165 rfl (lv_at hl 2 rfl) ?_
        refine hp_get (ci := 5) (v := .ref (Q 15)) (C := R_Mo) (T := F_Mo) (N := 28) hx hb hg i_Mo hown hK hI (mw_o hQ) rfl 15 (by decide) (hg _ k_788) (fun _ h9 => h9) rfl d_Mo_find_166 ?_
        refine lv_iload_n hx hb d_Mo_find_169 rfl (lv_at hl 3 rfl) ?_
        refine mv_dald hx hb hK hI 1 (X.2.1 15) (mw_15 hQ) rfl n (rfl) (by omega) (by decide) d_Mo_find_170 ?_
        refine mv_d (y := sNd d n 0) (b1) ?_
        refine lv_aload_n hx hb d_Mo_find_171 rfl (lv_at hl 2 rfl) ?_
        refine hp_get (ci := 5) (v := .ref (Q 16)) (C := R_Mo) (T := F_Mo) (N := 28) hx hb hg i_Mo hown hK hI (mw_o hQ) rfl 16 (by decide) (hg _ k_789) (fun _ h9 => h9) rfl d_Mo_find_172 ?_
        refine lv_iload_n hx hb d_Mo_find_175 rfl (lv_at hl 3 rfl) ?_
        refine mv_dald hx hb hK hI 1 (X.2.1 16) (mw_16 hQ) rfl n (rfl) (by omega) (by decide) d_Mo_find_176 ?_
        refine mv_d (y := sNd d n 1) (b2) ?_
        refine lv_dmul hx hb d_Mo_find_177 (fx_nmul fp.1 fq.1) ?_
        refine lv_dcmp hx hb d_Mo_find_178 ?_
        refine lv_if_gt (tgt := 186) hx hb d_Mo_find_179 (by decide) (fun q2 => ?_) (fun q2 => ?_)
        · refine lv_iconst (v := 0) hx hb d_Mo_find_186 (by decide) ?_
          refine mv_zast hx hb hK hI hS 2 (X.1 2) (mw_2 hQ) rfl n (Or.inl rfl) (fun f9 => mW G Q (xsI (xsI X 12 f_11) 2 f9) w0) (fun _ => mws_2 hQ) (rfl) (by omega) (by decide) d_Mo_find_187 (fun H locs f_14 ef_14 hI hS hsz => ?_)
          try dsimp only at hI
          refine lv_aload_n hx hb d_Mo_find_188 rfl (lv_at hl 2 rfl) ?_
          refine hp_get (ci := 5) (v := .ref (Q 4)) (C := R_Mo) (T := F_Mo) (N := 28) hx hb hg i_Mo hown hK hI (mw_o hQ) rfl 4 (by decide) (hg _ k_777) (fun _ h9 => h9) rfl d_Mo_find_189 ?_
          refine lv_iload_n hx hb d_Mo_find_192 rfl (lv_at hl 3 rfl) ?_
          refine mv_iald hx hb hK hI 0 (X.1 4) (mw_4 hQ) rfl n (rfl) (by omega) (by decide) d_Mo_find_193 ?_
          refine mv_i (y := 3) ((hM.ki hn hnt).trans hkd) ?_
          refine lv_if_ne (tgt := 332) hx hb d_Mo_find_194 (by decide) (fun c9 => ?_) (fun c9 => absurd c9 (by decide))
          exact T ((xsI (xsI X 12 f_11) 2 f_14)) _ _ _ (fin false _ _ (by rw [hcov]; exact decide_eq_false (fun h => dgt_no q2 h.2.2)) ef_11 ef_14) (lv_sub hl [2, 3] rfl) hI hS
        · refine lv_iconst (v := 1) hx hb d_Mo_find_182 (by decide) ?_
          refine lv_goto (tgt := 187) hx hb d_Mo_find_183 (by decide) ?_
          refine mv_zast hx hb hK hI hS 2 (X.1 2) (mw_2 hQ) rfl n (Or.inr rfl) (fun f9 => mW G Q (xsI (xsI X 12 f_11) 2 f9) w0) (fun _ => mws_2 hQ) (rfl) (by omega) (by decide) d_Mo_find_187 (fun H locs f_15 ef_15 hI hS hsz => ?_)
          try dsimp only at hI
          refine lv_aload_n hx hb d_Mo_find_188 rfl (lv_at hl 2 rfl) ?_
          refine hp_get (ci := 5) (v := .ref (Q 4)) (C := R_Mo) (T := F_Mo) (N := 28) hx hb hg i_Mo hown hK hI (mw_o hQ) rfl 4 (by decide) (hg _ k_777) (fun _ h9 => h9) rfl d_Mo_find_189 ?_
          refine lv_iload_n hx hb d_Mo_find_192 rfl (lv_at hl 3 rfl) ?_
          refine mv_iald hx hb hK hI 0 (X.1 4) (mw_4 hQ) rfl n (rfl) (by omega) (by decide) d_Mo_find_193 ?_
          refine mv_i (y := 3) ((hM.ki hn hnt).trans hkd) ?_
          refine lv_if_ne (tgt := 332) hx hb d_Mo_find_194 (by decide) (fun c9 => ?_) (fun c9 => absurd c9 (by decide))
          exact T ((xsI (xsI X 12 f_11) 2 f_15)) _ _ _ (fin true _ _ (by rw [hcov]; exact decide_eq_true ⟨(dge0 ra).mp (cv_l_ge.mp (Int32.not_lt.mp q0)), (dge0 rb).mp (cv_l_ge.mp (Int32.not_lt.mp q1)), dgt_le q2⟩) ef_11 ef_15) (lv_sub hl [2, 3] rfl) hI hS

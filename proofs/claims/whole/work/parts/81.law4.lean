/-! the law: its cases -/
set_option maxHeartbeats 4000000 in
set_option maxRecDepth 100000 in
theorem law_c0 {p : Program} {e : Env} {s : State} {m : MethodId} {below : List Frame} {meth : Method} {c : Code} {l : Launch} {b L : Nat} {xs : Nat → Int32} {G : EG} {S0 : Nat} {Q : Nat → Nat} {xo oa od : Nat} (C : lwC p s m meth c l b L xs G S0) (i : Nat) (hi : i + 4 < L) {H : Heap} {locs : List Loc} {ls : Array Slot} {w : hp_M} {ms : MS} {d : DS} {dp : Nat → Nat} {X : XS} {fo : Nat → Int64} {fd : Nat → UInt64} (h : LI G Q xo oa od w ms d dp X fo fd) (hl : lv_has ls 9 [(5, .int (nI i)), (0, .ref b), (1, .ref xo), (2, .ref (Q 25)), (3, .ref oa), (4, .ref od)]) (hI : eI G S0 w H) (hS : va_S (hp_A S0) s.heap H locs) {cN sN : Nat} (hcN : cN + 40 ≤ room_1.cells) (hsN : sN + 200 ≤ room_1.slots) (K : lwK p l e s m below meth c b G S0 Q xo oa od i cN sN) : W p l e room_1 s m #[Value.ref b] below meth c H locs cN sN (lw_Z below #[Value.ref b] s) (F0 m 124 ls []) := by
  obtain ⟨⟨hx, hb, hr, hml, hown, hts0, hX, hbl, hlocks, hgv⟩, hlt, hE, hN, eS0, hL⟩ := C
  have hg : ∀ w ∈ gw, w.before #[Value.ref b] s = true := fun w h => hts0 w (gw_lw h)
  have hts : ∀ w ∈ c_La_node :: gw, w.before #[Value.ref b] s = true := fun w h => (List.mem_cons.mp h).elim (fun e9 => by rw [e9]; exact hg _ kw_La_node) (hg w)
  have hK := hE.K
  have hz : S0 ≤ s.heap.size := Nat.le_of_eq eS0
  have hbA : ¬ hp_A S0 b := by rw [eS0]; exact Nat.not_le.mpr hbl
  obtain ⟨⟨⟨hxo, hpic, hno⟩, ⟨hQ, hqc, hqo⟩, hoa, hod, -⟩, htr, hv0, hr0, hmP⟩ := id h
  obtain ⟨L0, hO⟩ := hmP.2.1
  have hob := hpic.1
  have h00 := htr.1
  rw [hxo] at hob
  refine lv_aload_n hx hb d_law_124 rfl (lv_at hl 2 rfl) ?_
  refine lv_aload_n hx hb d_law_125 rfl (lv_at hl 1 rfl) ?_
  refine lv_iload hx hb d_law_126 (lv_at hl 0 rfl) ?_
  refine lv_iconst (v := 1) hx hb d_law_128 (by decide) ?_
  refine mv_iadd hx hb i 1 rfl rfl d_law_129 ?_
  refine mv_sld hx hb hX hbl hbA hS (i + 1) rfl (by omega) (by omega) d_law_130 ?_
  refine lv_aload_n hx hb d_law_131 rfl (lv_at hl 1 rfl) ?_
  refine lv_iload hx hb d_law_132 (lv_at hl 0 rfl) ?_
  refine lv_iconst (v := 2) hx hb d_law_134 (by decide) ?_
  refine mv_iadd hx hb i 2 rfl rfl d_law_135 ?_
  refine mv_sld hx hb hX hbl hbA hS (i + 2) rfl (by omega) (by omega) d_law_136 ?_
  refine lv_aload_n hx hb d_law_137 rfl (lv_at hl 1 rfl) ?_
  refine lv_iload hx hb d_law_138 (lv_at hl 0 rfl) ?_
  refine lv_iconst (v := 3) hx hb d_law_140 (by decide) ?_
  refine mv_iadd hx hb i 3 rfl rfl d_law_141 ?_
  refine mv_sld hx hb hX hbl hbA hS (i + 3) rfl (by omega) (by omega) d_law_142 ?_
  refine lv_aload_n hx hb d_law_143 rfl (lv_at hl 4 rfl) ?_
  have hcon := m_Ea_node l hlt G S0 w ms d hpic hno dp htr (xs (i + 1)) (xs (i + 2)) (xs (i + 3))
  rw [hxo] at hcon
  refine ec_i (vx_runSW (As := [.ref xo, .int (xs (i + 1)), .int (xs (i + 2)), .int (xs (i + 3)), .ref oa]) (rest := []) ⟨hx, hb, hml, hown, hts⟩ (m_La_node l G S0 w xo (xs (i + 1)) (xs (i + 2)) (xs (i + 3)) _ hob _ _ oa fo (fun v u ⟨g, n, _, _, _, _, _, _, _, _, _, _, hp⟩ => (h.1.pub hp).elim (fun _ h9 => h9.2.2.1)) hcon (fun E z hp => hp.2.elim (fun q => Or.inl q.1) (fun q => Or.inr q.1))) (vx_cwSW 5 hts (gw_S k_287 k_288 k_59 kw_La_node) rfl rfl rfl (by decide +kernel) ⟨Nat.le_of_ble_eq_true rfl, Nat.le_of_ble_eq_true rfl⟩) (eB2.preS hE hI hS hz hN) rfl rfl hl.1 rfl (lv_room (Nat.le_of_ble_eq_true rfl)) d_law_144 ⟨hcN, hsN⟩) hS (fun r6 zz H locs ezz hI hsz hS => ?_)
  have er := ezz
  have hself : mW G Q X zz = zz := by
    rcases er with ⟨-, v, u, ⟨g, n, -, -, -, -, -, -, -, -, -, -, hp⟩, ez⟩ | ⟨-, ez, -⟩ | ⟨-, ez, -⟩
    · obtain ⟨ms9, h9⟩ := h.1.pub hp
      rw [ez]
      exact (h9.out _).self
    · rw [ez]
      exact h.1.self
    · rw [ez]
      exact h.1.self
  have hI : eI G S0 (mW G Q X zz) H := by rw [hself]; exact hI
  refine lv_istore (lv' := [(6, .int r6), (5, .int (nI i)), (0, .ref b), (1, .ref xo), (2, .ref (Q 25)), (3, .ref oa), (4, .ref od)]) hx hb d_law_147 hl (by decide) rfl (fun ls hl => ?_)
  refine lv_aload_n hx hb d_law_149 rfl (lv_at hl 4 rfl) ?_
  refine lv_aload_n hx hb d_law_150 rfl (lv_at hl 2 rfl) ?_
  refine lv_iload hx hb d_law_151 (lv_at hl 1 rfl) ?_
  refine lv_iconst (v := 1) hx hb d_law_153 (by decide) ?_
  refine mv_iadd hx hb i 1 rfl rfl d_law_154 ?_
  refine mv_sld hx hb hX hbl hbA hS (i + 1) rfl (by omega) (by omega) d_law_155 ?_
  refine lv_aload_n hx hb d_law_156 rfl (lv_at hl 2 rfl) ?_
  refine lv_iload hx hb d_law_157 (lv_at hl 1 rfl) ?_
  refine lv_iconst (v := 2) hx hb d_law_159 (by decide) ?_
  refine mv_iadd hx hb i 2 rfl rfl d_law_160 ?_
  refine mv_sld hx hb hX hbl hbA hS (i + 2) rfl (by omega) (by omega) d_law_161 ?_
  refine lv_aload_n hx hb d_law_162 rfl (lv_at hl 2 rfl) ?_
  refine lv_iload hx hb d_law_163 (lv_at hl 1 rfl) ?_
  refine lv_iconst (v := 3) hx hb d_law_165 (by decide) ?_
  refine mv_iadd hx hb i 3 rfl rfl d_law_166 ?_
  refine mv_sld hx hb hX hbl hbA hS (i + 3) rfl (by omega) (by omega) d_law_167 ?_
  refine ec_i (va_runV (As := [.int (xs (i + 1)), .int (xs (i + 2)), .int (xs (i + 3))]) (rest := []) ⟨hx, hb, hml, hown, hts⟩ (m_Mo_node l G S0 Q hQ X zz d dp htr hmP.1 L0 hO hmP.2.2 (xs (i + 1)) (xs (i + 2)) (xs (i + 3))) (cwV 3 hts (gw_V k_863 k_864 k_865 k_67 k_866) rfl rfl rfl (by decide +kernel) ⟨Nat.le_of_ble_eq_true rfl, Nat.le_of_ble_eq_true rfl⟩) (eB.preV hE hI hS hz rfl (mw_o hQ)) rfl rfl hl.1 rfl (lv_room (Nat.le_of_ble_eq_true rfl)) d_law_168 ⟨hcN, hsN⟩) hS (fun b7 z2 H locs ez2 hI hsz hS => ?_)
  have em := ez2
  obtain ⟨ms2, d2, dp2, Y, fo2, fd2, ey, hLI, hthr, hA⟩ := ag_node h er em
  rw [ey] at hI
  refine lv_istore (lv' := [(7, .int b7), (6, .int r6), (5, .int (nI i)), (0, .ref b), (1, .ref xo), (2, .ref (Q 25)), (3, .ref oa), (4, .ref od)]) hx hb d_law_171 hl (by decide) rfl (fun ls hl => ?_)
  refine lv_aload_n hx hb d_law_173 rfl (lv_at hl 5 rfl) ?_
  refine ec_i (va_runV (As := []) (rest := []) ⟨hx, hb, hml, hown, hts⟩ (m_Mo_thrown l G S0 Q hQ Y zz) (cwV 0 hts (gw_V k_859 k_860 k_861 k_67 k_862) rfl rfl rfl (by decide +kernel) ⟨Nat.le_of_ble_eq_true rfl, Nat.le_of_ble_eq_true rfl⟩) (eB.preV hE hI hS hz rfl (mw_o hQ)) rfl rfl hl.1 rfl (lv_room (Nat.le_of_ble_eq_true rfl)) d_law_174 ⟨hcN, hsN⟩) hS (fun t9 w_1 H locs ew_1 hI hsz hS => ?_)
  obtain ⟨et9, ew_1⟩ := ew_1
  have ew_1 := ew_1.symm
  subst ew_1
  rw [hthr] at et9
  subst et9
  refine lv_iload hx hb d_law_177 (lv_at hl 1 rfl) ?_
  refine lv_icmp_eq (tgt := 184) hx hb d_law_179 (by decide) (fun c9 => ?_) (fun c9 => absurd (rfl) c9)
  rw [← ey] at hI
  refine lv_iload hx hb d_law_184 (lv_at hl 1 rfl) ?_
  refine lv_if_ne (tgt := 201) hx hb d_law_186 (by decide) (fun c7 => ?_) (fun c7 => ?_)
  · refine lv_goto (tgt := 1270) hx hb d_law_201 (by decide) ?_
    exact K _ _ _ _ _ _ _ _ _ _ hLI (lv_sub hl [2, 3, 4, 5, 6, 7] rfl) hI hS
  · have hout := hLI.1.2.2.1
    refine lv_aload_n hx hb d_law_189 rfl (lv_at hl 6 rfl) ?_
    refine lv_iconst (v := 0) hx hb d_law_190 (by decide) ?_
    refine hp_lald hx hb hK hI 3 hout rfl (vp_in_nI (n := 0) (by decide) (by decide)) d_law_191 ?_
    refine lv_iload hx hb d_law_192 (lv_at hl 0 rfl) ?_
    refine lv_i2l hx hb d_law_194 rfl ?_
    refine W.lcmp hx hb d_law_195 ?_
    refine lv_if_eq (tgt := 201) hx hb d_law_196 (by decide) (fun c9 => ?_) (fun c9 => absurd ((show lg_cmp (fo2 0) b7.toInt64 = 0 by rw [show fo2 0 = b7.toInt64 from hA c7]; exact lg_same _)) c9)
    refine lv_goto (tgt := 1270) hx hb d_law_201 (by decide) ?_
    exact K _ _ _ _ _ _ _ _ _ _ hLI (lv_sub hl [2, 3, 4, 5, 6, 7] rfl) hI hS
set_option maxHeartbeats 4000000 in
set_option maxRecDepth 100000 in
theorem law_c1 {p : Program} {e : Env} {s : State} {m : MethodId} {below : List Frame} {meth : Method} {c : Code} {l : Launch} {b L : Nat} {xs : Nat → Int32} {G : EG} {S0 : Nat} {Q : Nat → Nat} {xo oa od : Nat} (C : lwC p s m meth c l b L xs G S0) (i : Nat) (hi : i + 4 < L) {H : Heap} {locs : List Loc} {ls : Array Slot} {w : hp_M} {ms : MS} {d : DS} {dp : Nat → Nat} {X : XS} {fo : Nat → Int64} {fd : Nat → UInt64} (h : LI G Q xo oa od w ms d dp X fo fd) (hl : lv_has ls 9 [(5, .int (nI i)), (0, .ref b), (1, .ref xo), (2, .ref (Q 25)), (3, .ref oa), (4, .ref od)]) (hI : eI G S0 w H) (hS : va_S (hp_A S0) s.heap H locs) {cN sN : Nat} (hcN : cN + 40 ≤ room_1.cells) (hsN : sN + 200 ≤ room_1.slots) (K : lwK p l e s m below meth c b G S0 Q xo oa od i cN sN) : W p l e room_1 s m #[Value.ref b] below meth c H locs cN sN (lw_Z below #[Value.ref b] s) (F0 m 204 ls []) := by
  obtain ⟨⟨hx, hb, hr, hml, hown, hts0, hX, hbl, hlocks, hgv⟩, hlt, hE, hN, eS0, hL⟩ := C
  have hg : ∀ w ∈ gw, w.before #[Value.ref b] s = true := fun w h => hts0 w (gw_lw h)
  have hts : ∀ w ∈ c_La_node :: gw, w.before #[Value.ref b] s = true := fun w h => (List.mem_cons.mp h).elim (fun e9 => by rw [e9]; exact hg _ kw_La_node) (hg w)
  have hK := hE.K
  have hz : S0 ≤ s.heap.size := Nat.le_of_eq eS0
  have hbA : ¬ hp_A S0 b := by rw [eS0]; exact Nat.not_le.mpr hbl
  obtain ⟨⟨⟨hxo, hpic, hno⟩, ⟨hQ, hqc, hqo⟩, hoa, hod, -⟩, htr, hv0, hr0, hmP⟩ := id h
  obtain ⟨L0, hO⟩ := hmP.2.1
  have hob := hpic.1
  have h00 := htr.1
  rw [hxo] at hob
  refine lv_aload_n hx hb d_law_204 rfl (lv_at hl 2 rfl) ?_
  refine lv_aload_n hx hb d_law_205 rfl (lv_at hl 1 rfl) ?_
  refine lv_iload hx hb d_law_206 (lv_at hl 0 rfl) ?_
  refine lv_iconst (v := 1) hx hb d_law_208 (by decide) ?_
  refine mv_iadd hx hb i 1 rfl rfl d_law_209 ?_
  refine mv_sld hx hb hX hbl hbA hS (i + 1) rfl (by omega) (by omega) d_law_210 ?_
  refine lv_aload_n hx hb d_law_211 rfl (lv_at hl 1 rfl) ?_
  refine lv_iload hx hb d_law_212 (lv_at hl 0 rfl) ?_
  refine lv_iconst (v := 2) hx hb d_law_214 (by decide) ?_
  refine mv_iadd hx hb i 2 rfl rfl d_law_215 ?_
  refine mv_sld hx hb hX hbl hbA hS (i + 2) rfl (by omega) (by omega) d_law_216 ?_
  refine lv_i2d hx hb d_law_217 ?_
  refine lv_ldc2d (v := 4593671619917905920) hx hb hown (hg _ k_1019) d_law_218 ?_
  refine lv_dmul hx hb d_law_221 (sD_fx _).nn ?_
  refine lv_aload_n hx hb d_law_222 rfl (lv_at hl 1 rfl) ?_
  refine lv_iload hx hb d_law_223 (lv_at hl 0 rfl) ?_
  refine lv_iconst (v := 3) hx hb d_law_225 (by decide) ?_
  refine mv_iadd hx hb i 3 rfl rfl d_law_226 ?_
  refine mv_sld hx hb hX hbl hbA hS (i + 3) rfl (by omega) (by omega) d_law_227 ?_
  refine lv_i2d hx hb d_law_228 ?_
  refine lv_ldc2d (v := 4593671619917905920) hx hb hown (hg _ k_1019) d_law_229 ?_
  refine lv_dmul hx hb d_law_232 (sD_fx _).nn ?_
  have hcon := m_Ea_lengths l hlt G S0 w ms d hpic hno h00 (xs (i + 1)) (sD (xs (i + 2))) (sD (xs (i + 3))) (sD_fx _).1 (sD_fx _).1
  rw [hxo] at hcon
  refine ec_i (vx_runSW (As := [.ref xo, .int (xs (i + 1)), .double (FP.dmul (FP.i2d (xs (i + 2))) 4593671619917905920), .double (FP.dmul (FP.i2d (xs (i + 3))) 4593671619917905920)]) (rest := []) ⟨hx, hb, hml, hown, hts⟩ (m_La_lengths l G S0 w xo (xs (i + 1)) (sD (xs (i + 2))) (sD (xs (i + 3))) _ hob _ _ hcon (fun E z hp => hp.1)) (vx_cwSW 4 hts (gw_S k_456 k_457 k_59 kw_La_lengths) rfl rfl rfl (by decide +kernel) ⟨Nat.le_of_ble_eq_true rfl, Nat.le_of_ble_eq_true rfl⟩) (eB2.preS hE hI hS hz hN) rfl rfl hl.1 rfl (lv_room (Nat.le_of_ble_eq_true rfl)) d_law_233 ⟨hcN, hsN⟩) hS (fun r6 zz H locs ezz hI hsz hS => ?_)
  have er := ezz
  have hself : mW G Q X zz = zz := by
    rcases er with ⟨-, k, -, -, -, -, hp⟩ | ⟨-, -, ez, -⟩
    · obtain ⟨ms9, h9⟩ := h.1.pub hp
      exact h9.self
    · rw [ez]
      exact h.1.self
  have hI : eI G S0 (mW G Q X zz) H := by rw [hself]; exact hI
  refine lv_istore (lv' := [(6, .int r6), (5, .int (nI i)), (0, .ref b), (1, .ref xo), (2, .ref (Q 25)), (3, .ref oa), (4, .ref od)]) hx hb d_law_236 hl (by decide) rfl (fun ls hl => ?_)
  refine lv_aload_n hx hb d_law_238 rfl (lv_at hl 4 rfl) ?_
  refine lv_aload_n hx hb d_law_239 rfl (lv_at hl 2 rfl) ?_
  refine lv_iload hx hb d_law_240 (lv_at hl 1 rfl) ?_
  refine lv_iconst (v := 1) hx hb d_law_242 (by decide) ?_
  refine mv_iadd hx hb i 1 rfl rfl d_law_243 ?_
  refine mv_sld hx hb hX hbl hbA hS (i + 1) rfl (by omega) (by omega) d_law_244 ?_
  refine lv_aload_n hx hb d_law_245 rfl (lv_at hl 2 rfl) ?_
  refine lv_iload hx hb d_law_246 (lv_at hl 1 rfl) ?_
  refine lv_iconst (v := 2) hx hb d_law_248 (by decide) ?_
  refine mv_iadd hx hb i 2 rfl rfl d_law_249 ?_
  refine mv_sld hx hb hX hbl hbA hS (i + 2) rfl (by omega) (by omega) d_law_250 ?_
  refine lv_i2d hx hb d_law_251 ?_
  refine lv_ldc2d (v := 4593671619917905920) hx hb hown (hg _ k_1019) d_law_252 ?_
  refine lv_dmul hx hb d_law_255 (sD_fx _).nn ?_
  refine lv_aload_n hx hb d_law_256 rfl (lv_at hl 2 rfl) ?_
  refine lv_iload hx hb d_law_257 (lv_at hl 1 rfl) ?_
  refine lv_iconst (v := 3) hx hb d_law_259 (by decide) ?_
  refine mv_iadd hx hb i 3 rfl rfl d_law_260 ?_
  refine mv_sld hx hb hX hbl hbA hS (i + 3) rfl (by omega) (by omega) d_law_261 ?_
  refine lv_i2d hx hb d_law_262 ?_
  refine lv_ldc2d (v := 4593671619917905920) hx hb hown (hg _ k_1019) d_law_263 ?_
  refine lv_dmul hx hb d_law_266 (sD_fx _).nn ?_
  refine ec_v (va_runV (As := [.int (xs (i + 1)), .double (FP.dmul (FP.i2d (xs (i + 2))) 4593671619917905920), .double (FP.dmul (FP.i2d (xs (i + 3))) 4593671619917905920)]) (rest := []) ⟨hx, hb, hml, hown, hts⟩ (m_Mo_lengths l G S0 Q hQ X zz d hmP.1 hv0 (xs (i + 1)) (sD (xs (i + 2))) (sD (xs (i + 3)))) (cwV 3 hts (gw_V k_883 k_884 k_885 k_67 k_886) rfl rfl rfl (by decide +kernel) ⟨Nat.le_of_ble_eq_true rfl, Nat.le_of_ble_eq_true rfl⟩) (eB.preV hE hI hS hz rfl (mw_o hQ)) rfl rfl hl.1 rfl (lv_room (Nat.le_of_ble_eq_true rfl)) d_law_267 ⟨hcN, hsN⟩) hS (fun z2 H locs ez2 hI hsz hS => ?_)
  have em := ez2
  obtain ⟨ms2, d2, dp2, Y, fo2, fd2, ey, hLI, hthr, hA⟩ := ag_lengths h er em
  rw [ey] at hI
  refine lv_aload_n hx hb d_law_270 rfl (lv_at hl 4 rfl) ?_
  refine ec_i (va_runV (As := []) (rest := []) ⟨hx, hb, hml, hown, hts⟩ (m_Mo_thrown l G S0 Q hQ Y zz) (cwV 0 hts (gw_V k_859 k_860 k_861 k_67 k_862) rfl rfl rfl (by decide +kernel) ⟨Nat.le_of_ble_eq_true rfl, Nat.le_of_ble_eq_true rfl⟩) (eB.preV hE hI hS hz rfl (mw_o hQ)) rfl rfl hl.1 rfl (lv_room (Nat.le_of_ble_eq_true rfl)) d_law_271 ⟨hcN, hsN⟩) hS (fun t9 w_2 H locs ew_2 hI hsz hS => ?_)
  obtain ⟨et9, ew_2⟩ := ew_2
  have ew_2 := ew_2.symm
  subst ew_2
  rw [hthr] at et9
  subst et9
  refine lv_iload hx hb d_law_274 (lv_at hl 0 rfl) ?_
  refine lv_icmp_eq (tgt := 281) hx hb d_law_276 (by decide) (fun c9 => ?_) (fun c9 => absurd (rfl) c9)
  rw [← ey] at hI
  refine lv_goto (tgt := 1270) hx hb d_law_281 (by decide) ?_
  exact K _ _ _ _ _ _ _ _ _ _ hLI (lv_sub hl [1, 2, 3, 4, 5, 6] rfl) hI hS
set_option maxHeartbeats 4000000 in
set_option maxRecDepth 100000 in
theorem law_c2 {p : Program} {e : Env} {s : State} {m : MethodId} {below : List Frame} {meth : Method} {c : Code} {l : Launch} {b L : Nat} {xs : Nat → Int32} {G : EG} {S0 : Nat} {Q : Nat → Nat} {xo oa od : Nat} (C : lwC p s m meth c l b L xs G S0) (i : Nat) (hi : i + 4 < L) {H : Heap} {locs : List Loc} {ls : Array Slot} {w : hp_M} {ms : MS} {d : DS} {dp : Nat → Nat} {X : XS} {fo : Nat → Int64} {fd : Nat → UInt64} (h : LI G Q xo oa od w ms d dp X fo fd) (hl : lv_has ls 9 [(5, .int (nI i)), (0, .ref b), (1, .ref xo), (2, .ref (Q 25)), (3, .ref oa), (4, .ref od)]) (hI : eI G S0 w H) (hS : va_S (hp_A S0) s.heap H locs) {cN sN : Nat} (hcN : cN + 40 ≤ room_1.cells) (hsN : sN + 200 ≤ room_1.slots) (K : lwK p l e s m below meth c b G S0 Q xo oa od i cN sN) : W p l e room_1 s m #[Value.ref b] below meth c H locs cN sN (lw_Z below #[Value.ref b] s) (F0 m 284 ls []) := by
  obtain ⟨⟨hx, hb, hr, hml, hown, hts0, hX, hbl, hlocks, hgv⟩, hlt, hE, hN, eS0, hL⟩ := C
  have hg : ∀ w ∈ gw, w.before #[Value.ref b] s = true := fun w h => hts0 w (gw_lw h)
  have hts : ∀ w ∈ c_La_node :: gw, w.before #[Value.ref b] s = true := fun w h => (List.mem_cons.mp h).elim (fun e9 => by rw [e9]; exact hg _ kw_La_node) (hg w)
  have hK := hE.K
  have hz : S0 ≤ s.heap.size := Nat.le_of_eq eS0
  have hbA : ¬ hp_A S0 b := by rw [eS0]; exact Nat.not_le.mpr hbl
  obtain ⟨⟨⟨hxo, hpic, hno⟩, ⟨hQ, hqc, hqo⟩, hoa, hod, -⟩, htr, hv0, hr0, hmP⟩ := id h
  obtain ⟨L0, hO⟩ := hmP.2.1
  have hob := hpic.1
  have h00 := htr.1
  rw [hxo] at hob
  refine lv_aload_n hx hb d_law_284 rfl (lv_at hl 2 rfl) ?_
  refine lv_aload_n hx hb d_law_285 rfl (lv_at hl 1 rfl) ?_
  refine lv_iload hx hb d_law_286 (lv_at hl 0 rfl) ?_
  refine lv_iconst (v := 1) hx hb d_law_288 (by decide) ?_
  refine mv_iadd hx hb i 1 rfl rfl d_law_289 ?_
  refine mv_sld hx hb hX hbl hbA hS (i + 1) rfl (by omega) (by omega) d_law_290 ?_
  refine lv_aload_n hx hb d_law_291 rfl (lv_at hl 1 rfl) ?_
  refine lv_iload hx hb d_law_292 (lv_at hl 0 rfl) ?_
  refine lv_iconst (v := 2) hx hb d_law_294 (by decide) ?_
  refine mv_iadd hx hb i 2 rfl rfl d_law_295 ?_
  refine mv_sld hx hb hX hbl hbA hS (i + 2) rfl (by omega) (by omega) d_law_296 ?_
  refine lv_i2d hx hb d_law_297 ?_
  refine lv_ldc2d (v := 4593671619917905920) hx hb hown (hg _ k_1019) d_law_298 ?_
  refine lv_dmul hx hb d_law_301 (sD_fx _).nn ?_
  refine lv_aload_n hx hb d_law_302 rfl (lv_at hl 1 rfl) ?_
  refine lv_iload hx hb d_law_303 (lv_at hl 0 rfl) ?_
  refine lv_iconst (v := 3) hx hb d_law_305 (by decide) ?_
  refine mv_iadd hx hb i 3 rfl rfl d_law_306 ?_
  refine mv_sld hx hb hX hbl hbA hS (i + 3) rfl (by omega) (by omega) d_law_307 ?_
  refine lv_i2d hx hb d_law_308 ?_
  refine lv_ldc2d (v := 4593671619917905920) hx hb hown (hg _ k_1019) d_law_309 ?_
  refine lv_dmul hx hb d_law_312 (sD_fx _).nn ?_
  have hcon := m_Ea_place l hlt G S0 w ms d hpic hno h00 (xs (i + 1)) (sD (xs (i + 2))) (sD (xs (i + 3))) (sD_fx _).1 (sD_fx _).1
  rw [hxo] at hcon
  refine ec_i (vx_runSW (As := [.ref xo, .int (xs (i + 1)), .double (FP.dmul (FP.i2d (xs (i + 2))) 4593671619917905920), .double (FP.dmul (FP.i2d (xs (i + 3))) 4593671619917905920)]) (rest := []) ⟨hx, hb, hml, hown, hts⟩ (m_La_place l G S0 w xo (xs (i + 1)) (sD (xs (i + 2))) (sD (xs (i + 3))) _ hob _ _ hcon (fun E z hp => hp.1)) (vx_cwSW 4 hts (gw_S k_480 k_481 k_59 kw_La_place) rfl rfl rfl (by decide +kernel) ⟨Nat.le_of_ble_eq_true rfl, Nat.le_of_ble_eq_true rfl⟩) (eB2.preS hE hI hS hz hN) rfl rfl hl.1 rfl (lv_room (Nat.le_of_ble_eq_true rfl)) d_law_313 ⟨hcN, hsN⟩) hS (fun r6 zz H locs ezz hI hsz hS => ?_)
  have er := ezz
  have hself : mW G Q X zz = zz := by
    rcases er with ⟨-, k, -, -, -, -, hp⟩ | ⟨-, -, ez, -⟩
    · obtain ⟨ms9, h9⟩ := h.1.pub hp
      exact h9.self
    · rw [ez]
      exact h.1.self
  have hI : eI G S0 (mW G Q X zz) H := by rw [hself]; exact hI
  refine lv_istore (lv' := [(6, .int r6), (5, .int (nI i)), (0, .ref b), (1, .ref xo), (2, .ref (Q 25)), (3, .ref oa), (4, .ref od)]) hx hb d_law_316 hl (by decide) rfl (fun ls hl => ?_)
  refine lv_aload_n hx hb d_law_318 rfl (lv_at hl 4 rfl) ?_
  refine lv_aload_n hx hb d_law_319 rfl (lv_at hl 2 rfl) ?_
  refine lv_iload hx hb d_law_320 (lv_at hl 1 rfl) ?_
  refine lv_iconst (v := 1) hx hb d_law_322 (by decide) ?_
  refine mv_iadd hx hb i 1 rfl rfl d_law_323 ?_
  refine mv_sld hx hb hX hbl hbA hS (i + 1) rfl (by omega) (by omega) d_law_324 ?_
  refine lv_aload_n hx hb d_law_325 rfl (lv_at hl 2 rfl) ?_
  refine lv_iload hx hb d_law_326 (lv_at hl 1 rfl) ?_
  refine lv_iconst (v := 2) hx hb d_law_328 (by decide) ?_
  refine mv_iadd hx hb i 2 rfl rfl d_law_329 ?_
  refine mv_sld hx hb hX hbl hbA hS (i + 2) rfl (by omega) (by omega) d_law_330 ?_
  refine lv_i2d hx hb d_law_331 ?_
  refine lv_ldc2d (v := 4593671619917905920) hx hb hown (hg _ k_1019) d_law_332 ?_
  refine lv_dmul hx hb d_law_335 (sD_fx _).nn ?_
  refine lv_aload_n hx hb d_law_336 rfl (lv_at hl 2 rfl) ?_
  refine lv_iload hx hb d_law_337 (lv_at hl 1 rfl) ?_
  refine lv_iconst (v := 3) hx hb d_law_339 (by decide) ?_
  refine mv_iadd hx hb i 3 rfl rfl d_law_340 ?_
  refine mv_sld hx hb hX hbl hbA hS (i + 3) rfl (by omega) (by omega) d_law_341 ?_
  refine lv_i2d hx hb d_law_342 ?_
  refine lv_ldc2d (v := 4593671619917905920) hx hb hown (hg _ k_1019) d_law_343 ?_
  refine lv_dmul hx hb d_law_346 (sD_fx _).nn ?_
  refine ec_v (va_runV (As := [.int (xs (i + 1)), .double (FP.dmul (FP.i2d (xs (i + 2))) 4593671619917905920), .double (FP.dmul (FP.i2d (xs (i + 3))) 4593671619917905920)]) (rest := []) ⟨hx, hb, hml, hown, hts⟩ (m_Mo_place l G S0 Q hQ X zz d hmP.1 (xs (i + 1)) (sD (xs (i + 2))) (sD (xs (i + 3)))) (cwV 3 hts (gw_V k_892 k_893 k_894 k_67 k_895) rfl rfl rfl (by decide +kernel) ⟨Nat.le_of_ble_eq_true rfl, Nat.le_of_ble_eq_true rfl⟩) (eB.preV hE hI hS hz rfl (mw_o hQ)) rfl rfl hl.1 rfl (lv_room (Nat.le_of_ble_eq_true rfl)) d_law_347 ⟨hcN, hsN⟩) hS (fun z2 H locs ez2 hI hsz hS => ?_)
  have em := ez2
  obtain ⟨ms2, d2, dp2, Y, fo2, fd2, ey, hLI, hthr, hA⟩ := ag_place h er em
  rw [ey] at hI
  refine lv_aload_n hx hb d_law_350 rfl (lv_at hl 4 rfl) ?_
  refine ec_i (va_runV (As := []) (rest := []) ⟨hx, hb, hml, hown, hts⟩ (m_Mo_thrown l G S0 Q hQ Y zz) (cwV 0 hts (gw_V k_859 k_860 k_861 k_67 k_862) rfl rfl rfl (by decide +kernel) ⟨Nat.le_of_ble_eq_true rfl, Nat.le_of_ble_eq_true rfl⟩) (eB.preV hE hI hS hz rfl (mw_o hQ)) rfl rfl hl.1 rfl (lv_room (Nat.le_of_ble_eq_true rfl)) d_law_351 ⟨hcN, hsN⟩) hS (fun t9 w_3 H locs ew_3 hI hsz hS => ?_)
  obtain ⟨et9, ew_3⟩ := ew_3
  have ew_3 := ew_3.symm
  subst ew_3
  rw [hthr] at et9
  subst et9
  refine lv_iload hx hb d_law_354 (lv_at hl 0 rfl) ?_
  refine lv_icmp_eq (tgt := 361) hx hb d_law_356 (by decide) (fun c9 => ?_) (fun c9 => absurd (rfl) c9)
  rw [← ey] at hI
  refine lv_goto (tgt := 1270) hx hb d_law_361 (by decide) ?_
  exact K _ _ _ _ _ _ _ _ _ _ hLI (lv_sub hl [1, 2, 3, 4, 5, 6] rfl) hI hS
set_option maxHeartbeats 4000000 in
set_option maxRecDepth 100000 in
theorem law_c3 {p : Program} {e : Env} {s : State} {m : MethodId} {below : List Frame} {meth : Method} {c : Code} {l : Launch} {b L : Nat} {xs : Nat → Int32} {G : EG} {S0 : Nat} {Q : Nat → Nat} {xo oa od : Nat} (C : lwC p s m meth c l b L xs G S0) (i : Nat) (hi : i + 4 < L) {H : Heap} {locs : List Loc} {ls : Array Slot} {w : hp_M} {ms : MS} {d : DS} {dp : Nat → Nat} {X : XS} {fo : Nat → Int64} {fd : Nat → UInt64} (h : LI G Q xo oa od w ms d dp X fo fd) (hl : lv_has ls 9 [(5, .int (nI i)), (0, .ref b), (1, .ref xo), (2, .ref (Q 25)), (3, .ref oa), (4, .ref od)]) (hI : eI G S0 w H) (hS : va_S (hp_A S0) s.heap H locs) {cN sN : Nat} (hcN : cN + 40 ≤ room_1.cells) (hsN : sN + 200 ≤ room_1.slots) (K : lwK p l e s m below meth c b G S0 Q xo oa od i cN sN) : W p l e room_1 s m #[Value.ref b] below meth c H locs cN sN (lw_Z below #[Value.ref b] s) (F0 m 364 ls []) := by
  obtain ⟨⟨hx, hb, hr, hml, hown, hts0, hX, hbl, hlocks, hgv⟩, hlt, hE, hN, eS0, hL⟩ := C
  have hg : ∀ w ∈ gw, w.before #[Value.ref b] s = true := fun w h => hts0 w (gw_lw h)
  have hts : ∀ w ∈ c_La_node :: gw, w.before #[Value.ref b] s = true := fun w h => (List.mem_cons.mp h).elim (fun e9 => by rw [e9]; exact hg _ kw_La_node) (hg w)
  have hK := hE.K
  have hz : S0 ≤ s.heap.size := Nat.le_of_eq eS0
  have hbA : ¬ hp_A S0 b := by rw [eS0]; exact Nat.not_le.mpr hbl
  obtain ⟨⟨⟨hxo, hpic, hno⟩, ⟨hQ, hqc, hqo⟩, hoa, hod, -⟩, htr, hv0, hr0, hmP⟩ := id h
  obtain ⟨L0, hO⟩ := hmP.2.1
  have hob := hpic.1
  have h00 := htr.1
  rw [hxo] at hob
  refine lv_aload_n hx hb d_law_364 rfl (lv_at hl 2 rfl) ?_
  refine lv_aload_n hx hb d_law_365 rfl (lv_at hl 1 rfl) ?_
  refine lv_iload hx hb d_law_366 (lv_at hl 0 rfl) ?_
  refine lv_iconst (v := 1) hx hb d_law_368 (by decide) ?_
  refine mv_iadd hx hb i 1 rfl rfl d_law_369 ?_
  refine mv_sld hx hb hX hbl hbA hS (i + 1) rfl (by omega) (by omega) d_law_370 ?_
  refine lv_aload_n hx hb d_law_371 rfl (lv_at hl 1 rfl) ?_
  refine lv_iload hx hb d_law_372 (lv_at hl 0 rfl) ?_
  refine lv_iconst (v := 2) hx hb d_law_374 (by decide) ?_
  refine mv_iadd hx hb i 2 rfl rfl d_law_375 ?_
  refine mv_sld hx hb hX hbl hbA hS (i + 2) rfl (by omega) (by omega) d_law_376 ?_
  refine lv_aload_n hx hb d_law_377 rfl (lv_at hl 1 rfl) ?_
  refine lv_iload hx hb d_law_378 (lv_at hl 0 rfl) ?_
  refine lv_iconst (v := 3) hx hb d_law_380 (by decide) ?_
  refine mv_iadd hx hb i 3 rfl rfl d_law_381 ?_
  refine mv_sld hx hb hX hbl hbA hS (i + 3) rfl (by omega) (by omega) d_law_382 ?_
  have hcon := m_Ea_lay l hlt G S0 w ms d hpic hno h00 (xs (i + 1)) (xs (i + 2)) (xs (i + 3))
  rw [hxo] at hcon
  refine ec_i (vx_runSW (As := [.ref xo, .int (xs (i + 1)), .int (xs (i + 2)), .int (xs (i + 3))]) (rest := []) ⟨hx, hb, hml, hown, hts⟩ (m_La_lay l G S0 w xo (xs (i + 1)) (xs (i + 2)) (xs (i + 3)) _ hob _ _ hcon (fun E z hp => hp.1)) (vx_cwSW 4 hts (gw_S k_496 k_497 k_59 kw_La_lay) rfl rfl rfl (by decide +kernel) ⟨Nat.le_of_ble_eq_true rfl, Nat.le_of_ble_eq_true rfl⟩) (eB2.preS hE hI hS hz hN) rfl rfl hl.1 rfl (lv_room (Nat.le_of_ble_eq_true rfl)) d_law_383 ⟨hcN, hsN⟩) hS (fun r6 zz H locs ezz hI hsz hS => ?_)
  have er := ezz
  have hself : mW G Q X zz = zz := by
    rcases er with ⟨-, k, -, -, -, -, hp⟩ | ⟨-, -, ez, -⟩
    · obtain ⟨ms9, h9⟩ := h.1.pub hp
      exact h9.self
    · rw [ez]
      exact h.1.self
  have hI : eI G S0 (mW G Q X zz) H := by rw [hself]; exact hI
  refine lv_istore (lv' := [(6, .int r6), (5, .int (nI i)), (0, .ref b), (1, .ref xo), (2, .ref (Q 25)), (3, .ref oa), (4, .ref od)]) hx hb d_law_386 hl (by decide) rfl (fun ls hl => ?_)
  refine lv_aload_n hx hb d_law_388 rfl (lv_at hl 4 rfl) ?_
  refine lv_aload_n hx hb d_law_389 rfl (lv_at hl 2 rfl) ?_
  refine lv_iload hx hb d_law_390 (lv_at hl 1 rfl) ?_
  refine lv_iconst (v := 1) hx hb d_law_392 (by decide) ?_
  refine mv_iadd hx hb i 1 rfl rfl d_law_393 ?_
  refine mv_sld hx hb hX hbl hbA hS (i + 1) rfl (by omega) (by omega) d_law_394 ?_
  refine lv_aload_n hx hb d_law_395 rfl (lv_at hl 2 rfl) ?_
  refine lv_iload hx hb d_law_396 (lv_at hl 1 rfl) ?_
  refine lv_iconst (v := 2) hx hb d_law_398 (by decide) ?_
  refine mv_iadd hx hb i 2 rfl rfl d_law_399 ?_
  refine mv_sld hx hb hX hbl hbA hS (i + 2) rfl (by omega) (by omega) d_law_400 ?_
  refine lv_aload_n hx hb d_law_401 rfl (lv_at hl 2 rfl) ?_
  refine lv_iload hx hb d_law_402 (lv_at hl 1 rfl) ?_
  refine lv_iconst (v := 3) hx hb d_law_404 (by decide) ?_
  refine mv_iadd hx hb i 3 rfl rfl d_law_405 ?_
  refine mv_sld hx hb hX hbl hbA hS (i + 3) rfl (by omega) (by omega) d_law_406 ?_
  refine ec_v (va_runV (As := [.int (xs (i + 1)), .int (xs (i + 2)), .int (xs (i + 3))]) (rest := []) ⟨hx, hb, hml, hown, hts⟩ (m_Mo_lay l G S0 Q hQ X zz d hmP.1 (xs (i + 1)) (xs (i + 2)) (xs (i + 3))) (cwV 3 hts (gw_V k_901 k_902 k_903 k_67 k_904) rfl rfl rfl (by decide +kernel) ⟨Nat.le_of_ble_eq_true rfl, Nat.le_of_ble_eq_true rfl⟩) (eB.preV hE hI hS hz rfl (mw_o hQ)) rfl rfl hl.1 rfl (lv_room (Nat.le_of_ble_eq_true rfl)) d_law_407 ⟨hcN, hsN⟩) hS (fun z2 H locs ez2 hI hsz hS => ?_)
  have em := ez2
  obtain ⟨ms2, d2, dp2, Y, fo2, fd2, ey, hLI, hthr, hA⟩ := ag_lay h er em
  rw [ey] at hI
  refine lv_aload_n hx hb d_law_410 rfl (lv_at hl 4 rfl) ?_
  refine ec_i (va_runV (As := []) (rest := []) ⟨hx, hb, hml, hown, hts⟩ (m_Mo_thrown l G S0 Q hQ Y zz) (cwV 0 hts (gw_V k_859 k_860 k_861 k_67 k_862) rfl rfl rfl (by decide +kernel) ⟨Nat.le_of_ble_eq_true rfl, Nat.le_of_ble_eq_true rfl⟩) (eB.preV hE hI hS hz rfl (mw_o hQ)) rfl rfl hl.1 rfl (lv_room (Nat.le_of_ble_eq_true rfl)) d_law_411 ⟨hcN, hsN⟩) hS (fun t9 w_4 H locs ew_4 hI hsz hS => ?_)
  obtain ⟨et9, ew_4⟩ := ew_4
  have ew_4 := ew_4.symm
  subst ew_4
  rw [hthr] at et9
  subst et9
  refine lv_iload hx hb d_law_414 (lv_at hl 0 rfl) ?_
  refine lv_icmp_eq (tgt := 421) hx hb d_law_416 (by decide) (fun c9 => ?_) (fun c9 => absurd (rfl) c9)
  rw [← ey] at hI
  refine lv_goto (tgt := 1270) hx hb d_law_421 (by decide) ?_
  exact K _ _ _ _ _ _ _ _ _ _ hLI (lv_sub hl [1, 2, 3, 4, 5, 6] rfl) hI hS
set_option maxHeartbeats 4000000 in
set_option maxRecDepth 100000 in
theorem law_c4 {p : Program} {e : Env} {s : State} {m : MethodId} {below : List Frame} {meth : Method} {c : Code} {l : Launch} {b L : Nat} {xs : Nat → Int32} {G : EG} {S0 : Nat} {Q : Nat → Nat} {xo oa od : Nat} (C : lwC p s m meth c l b L xs G S0) (i : Nat) (hi : i + 4 < L) {H : Heap} {locs : List Loc} {ls : Array Slot} {w : hp_M} {ms : MS} {d : DS} {dp : Nat → Nat} {X : XS} {fo : Nat → Int64} {fd : Nat → UInt64} (h : LI G Q xo oa od w ms d dp X fo fd) (hl : lv_has ls 9 [(5, .int (nI i)), (0, .ref b), (1, .ref xo), (2, .ref (Q 25)), (3, .ref oa), (4, .ref od)]) (hI : eI G S0 w H) (hS : va_S (hp_A S0) s.heap H locs) {cN sN : Nat} (hcN : cN + 40 ≤ room_1.cells) (hsN : sN + 200 ≤ room_1.slots) (K : lwK p l e s m below meth c b G S0 Q xo oa od i cN sN) : W p l e room_1 s m #[Value.ref b] below meth c H locs cN sN (lw_Z below #[Value.ref b] s) (F0 m 424 ls []) := by
  obtain ⟨⟨hx, hb, hr, hml, hown, hts0, hX, hbl, hlocks, hgv⟩, hlt, hE, hN, eS0, hL⟩ := C
  have hg : ∀ w ∈ gw, w.before #[Value.ref b] s = true := fun w h => hts0 w (gw_lw h)
  have hts : ∀ w ∈ c_La_node :: gw, w.before #[Value.ref b] s = true := fun w h => (List.mem_cons.mp h).elim (fun e9 => by rw [e9]; exact hg _ kw_La_node) (hg w)
  have hK := hE.K
  have hz : S0 ≤ s.heap.size := Nat.le_of_eq eS0
  have hbA : ¬ hp_A S0 b := by rw [eS0]; exact Nat.not_le.mpr hbl
  obtain ⟨⟨⟨hxo, hpic, hno⟩, ⟨hQ, hqc, hqo⟩, hoa, hod, -⟩, htr, hv0, hr0, hmP⟩ := id h
  obtain ⟨L0, hO⟩ := hmP.2.1
  have hob := hpic.1
  have h00 := htr.1
  rw [hxo] at hob
  refine lv_aload_n hx hb d_law_424 rfl (lv_at hl 2 rfl) ?_
  refine lv_aload_n hx hb d_law_425 rfl (lv_at hl 1 rfl) ?_
  refine lv_iload hx hb d_law_426 (lv_at hl 0 rfl) ?_
  refine lv_iconst (v := 1) hx hb d_law_428 (by decide) ?_
  refine mv_iadd hx hb i 1 rfl rfl d_law_429 ?_
  refine mv_sld hx hb hX hbl hbA hS (i + 1) rfl (by omega) (by omega) d_law_430 ?_
  refine lv_aload_n hx hb d_law_431 rfl (lv_at hl 1 rfl) ?_
  refine lv_iload hx hb d_law_432 (lv_at hl 0 rfl) ?_
  refine lv_iconst (v := 2) hx hb d_law_434 (by decide) ?_
  refine mv_iadd hx hb i 2 rfl rfl d_law_435 ?_
  refine mv_sld hx hb hX hbl hbA hS (i + 2) rfl (by omega) (by omega) d_law_436 ?_
  refine lv_aload_n hx hb d_law_437 rfl (lv_at hl 1 rfl) ?_
  refine lv_iload hx hb d_law_438 (lv_at hl 0 rfl) ?_
  refine lv_iconst (v := 3) hx hb d_law_440 (by decide) ?_
  refine mv_iadd hx hb i 3 rfl rfl d_law_441 ?_
  refine mv_sld hx hb hX hbl hbA hS (i + 3) rfl (by omega) (by omega) d_law_442 ?_
  refine lv_i2d hx hb d_law_443 ?_
  refine lv_ldc2d (v := 4593671619917905920) hx hb hown (hg _ k_1019) d_law_444 ?_
  refine lv_dmul hx hb d_law_447 (sD_fx _).nn ?_
  have hcon := m_Ea_mode l hlt G S0 w ms d hpic hno h00 (xs (i + 1)) (xs (i + 2)) (sD (xs (i + 3)))
  rw [hxo] at hcon
  refine ec_i (vx_runSW (As := [.ref xo, .int (xs (i + 1)), .int (xs (i + 2)), .double (FP.dmul (FP.i2d (xs (i + 3))) 4593671619917905920)]) (rest := []) ⟨hx, hb, hml, hown, hts⟩ (m_La_mode l G S0 w xo (xs (i + 1)) (xs (i + 2)) (sD (xs (i + 3))) _ hob _ _ hcon (fun E z hp => hp.1)) (vx_cwSW 4 hts (gw_S k_503 k_504 k_59 kw_La_mode) rfl rfl rfl (by decide +kernel) ⟨Nat.le_of_ble_eq_true rfl, Nat.le_of_ble_eq_true rfl⟩) (eB2.preS hE hI hS hz hN) rfl rfl hl.1 rfl (lv_room (Nat.le_of_ble_eq_true rfl)) d_law_448 ⟨hcN, hsN⟩) hS (fun r6 zz H locs ezz hI hsz hS => ?_)
  have er := ezz
  have hself : mW G Q X zz = zz := by
    rcases er with ⟨-, k, -, -, -, -, hp⟩ | ⟨-, -, ez, -⟩
    · obtain ⟨ms9, h9⟩ := h.1.pub hp
      exact h9.self
    · rw [ez]
      exact h.1.self
  have hI : eI G S0 (mW G Q X zz) H := by rw [hself]; exact hI
  refine lv_istore (lv' := [(6, .int r6), (5, .int (nI i)), (0, .ref b), (1, .ref xo), (2, .ref (Q 25)), (3, .ref oa), (4, .ref od)]) hx hb d_law_451 hl (by decide) rfl (fun ls hl => ?_)
  refine lv_aload_n hx hb d_law_453 rfl (lv_at hl 4 rfl) ?_
  refine lv_aload_n hx hb d_law_454 rfl (lv_at hl 2 rfl) ?_
  refine lv_iload hx hb d_law_455 (lv_at hl 1 rfl) ?_
  refine lv_iconst (v := 1) hx hb d_law_457 (by decide) ?_
  refine mv_iadd hx hb i 1 rfl rfl d_law_458 ?_
  refine mv_sld hx hb hX hbl hbA hS (i + 1) rfl (by omega) (by omega) d_law_459 ?_
  refine lv_aload_n hx hb d_law_460 rfl (lv_at hl 2 rfl) ?_
  refine lv_iload hx hb d_law_461 (lv_at hl 1 rfl) ?_
  refine lv_iconst (v := 2) hx hb d_law_463 (by decide) ?_
  refine mv_iadd hx hb i 2 rfl rfl d_law_464 ?_
  refine mv_sld hx hb hX hbl hbA hS (i + 2) rfl (by omega) (by omega) d_law_465 ?_
  refine lv_aload_n hx hb d_law_466 rfl (lv_at hl 2 rfl) ?_
  refine lv_iload hx hb d_law_467 (lv_at hl 1 rfl) ?_
  refine lv_iconst (v := 3) hx hb d_law_469 (by decide) ?_
  refine mv_iadd hx hb i 3 rfl rfl d_law_470 ?_
  refine mv_sld hx hb hX hbl hbA hS (i + 3) rfl (by omega) (by omega) d_law_471 ?_
  refine lv_i2d hx hb d_law_472 ?_
  refine lv_ldc2d (v := 4593671619917905920) hx hb hown (hg _ k_1019) d_law_473 ?_
  refine lv_dmul hx hb d_law_476 (sD_fx _).nn ?_
  refine ec_v (va_runV (As := [.int (xs (i + 1)), .int (xs (i + 2)), .double (FP.dmul (FP.i2d (xs (i + 3))) 4593671619917905920)]) (rest := []) ⟨hx, hb, hml, hown, hts⟩ (m_Mo_mode l G S0 Q hQ X zz d hmP.1 (xs (i + 1)) (xs (i + 2)) (sD (xs (i + 3)))) (cwV 3 hts (gw_V k_905 k_906 k_907 k_67 k_908) rfl rfl rfl (by decide +kernel) ⟨Nat.le_of_ble_eq_true rfl, Nat.le_of_ble_eq_true rfl⟩) (eB.preV hE hI hS hz rfl (mw_o hQ)) rfl rfl hl.1 rfl (lv_room (Nat.le_of_ble_eq_true rfl)) d_law_477 ⟨hcN, hsN⟩) hS (fun z2 H locs ez2 hI hsz hS => ?_)
  have em := ez2
  obtain ⟨ms2, d2, dp2, Y, fo2, fd2, ey, hLI, hthr, hA⟩ := ag_mode h er em
  rw [ey] at hI
  refine lv_aload_n hx hb d_law_480 rfl (lv_at hl 4 rfl) ?_
  refine ec_i (va_runV (As := []) (rest := []) ⟨hx, hb, hml, hown, hts⟩ (m_Mo_thrown l G S0 Q hQ Y zz) (cwV 0 hts (gw_V k_859 k_860 k_861 k_67 k_862) rfl rfl rfl (by decide +kernel) ⟨Nat.le_of_ble_eq_true rfl, Nat.le_of_ble_eq_true rfl⟩) (eB.preV hE hI hS hz rfl (mw_o hQ)) rfl rfl hl.1 rfl (lv_room (Nat.le_of_ble_eq_true rfl)) d_law_481 ⟨hcN, hsN⟩) hS (fun t9 w_5 H locs ew_5 hI hsz hS => ?_)
  obtain ⟨et9, ew_5⟩ := ew_5
  have ew_5 := ew_5.symm
  subst ew_5
  rw [hthr] at et9
  subst et9
  refine lv_iload hx hb d_law_484 (lv_at hl 0 rfl) ?_
  refine lv_icmp_eq (tgt := 491) hx hb d_law_486 (by decide) (fun c9 => ?_) (fun c9 => absurd (rfl) c9)
  rw [← ey] at hI
  refine lv_goto (tgt := 1270) hx hb d_law_491 (by decide) ?_
  exact K _ _ _ _ _ _ _ _ _ _ hLI (lv_sub hl [1, 2, 3, 4, 5, 6] rfl) hI hS
set_option maxHeartbeats 4000000 in
set_option maxRecDepth 100000 in
theorem law_c5 {p : Program} {e : Env} {s : State} {m : MethodId} {below : List Frame} {meth : Method} {c : Code} {l : Launch} {b L : Nat} {xs : Nat → Int32} {G : EG} {S0 : Nat} {Q : Nat → Nat} {xo oa od : Nat} (C : lwC p s m meth c l b L xs G S0) (i : Nat) (hi : i + 4 < L) {H : Heap} {locs : List Loc} {ls : Array Slot} {w : hp_M} {ms : MS} {d : DS} {dp : Nat → Nat} {X : XS} {fo : Nat → Int64} {fd : Nat → UInt64} (h : LI G Q xo oa od w ms d dp X fo fd) (hl : lv_has ls 9 [(5, .int (nI i)), (0, .ref b), (1, .ref xo), (2, .ref (Q 25)), (3, .ref oa), (4, .ref od)]) (hI : eI G S0 w H) (hS : va_S (hp_A S0) s.heap H locs) {cN sN : Nat} (hcN : cN + 40 ≤ room_1.cells) (hsN : sN + 200 ≤ room_1.slots) (K : lwK p l e s m below meth c b G S0 Q xo oa od i cN sN) : W p l e room_1 s m #[Value.ref b] below meth c H locs cN sN (lw_Z below #[Value.ref b] s) (F0 m 494 ls []) := by
  obtain ⟨⟨hx, hb, hr, hml, hown, hts0, hX, hbl, hlocks, hgv⟩, hlt, hE, hN, eS0, hL⟩ := C
  have hg : ∀ w ∈ gw, w.before #[Value.ref b] s = true := fun w h => hts0 w (gw_lw h)
  have hts : ∀ w ∈ c_La_node :: gw, w.before #[Value.ref b] s = true := fun w h => (List.mem_cons.mp h).elim (fun e9 => by rw [e9]; exact hg _ kw_La_node) (hg w)
  have hK := hE.K
  have hz : S0 ≤ s.heap.size := Nat.le_of_eq eS0
  have hbA : ¬ hp_A S0 b := by rw [eS0]; exact Nat.not_le.mpr hbl
  obtain ⟨⟨⟨hxo, hpic, hno⟩, ⟨hQ, hqc, hqo⟩, hoa, hod, -⟩, htr, hv0, hr0, hmP⟩ := id h
  obtain ⟨L0, hO⟩ := hmP.2.1
  have hob := hpic.1
  have h00 := htr.1
  rw [hxo] at hob
  by_cases c5 : xs (i + 2) = 0
  · refine lv_aload_n hx hb d_law_494 rfl (lv_at hl 2 rfl) ?_
    refine lv_aload_n hx hb d_law_495 rfl (lv_at hl 1 rfl) ?_
    refine lv_iload hx hb d_law_496 (lv_at hl 0 rfl) ?_
    refine lv_iconst (v := 1) hx hb d_law_498 (by decide) ?_
    refine mv_iadd hx hb i 1 rfl rfl d_law_499 ?_
    refine mv_sld hx hb hX hbl hbA hS (i + 1) rfl (by omega) (by omega) d_law_500 ?_
    refine lv_aload_n hx hb d_law_501 rfl (lv_at hl 1 rfl) ?_
    refine lv_iload hx hb d_law_502 (lv_at hl 0 rfl) ?_
    refine lv_iconst (v := 2) hx hb d_law_504 (by decide) ?_
    refine mv_iadd hx hb i 2 rfl rfl d_law_505 ?_
    refine mv_sld hx hb hX hbl hbA hS (i + 2) rfl (by omega) (by omega) d_law_506 ?_
    refine lv_if_eq (tgt := 514) hx hb d_law_507 (by decide) (fun c9 => ?_) (fun c9 => absurd (c5) c9)
    refine lv_iconst (v := 0) hx hb d_law_514 (by decide) ?_
    refine mv_i (y := bI false) (rfl) ?_
    have hcon := m_Ea_hide l hlt G S0 w ms d hpic hno h00 (xs (i + 1)) (bI false) (bI_01 false)
    rw [hxo] at hcon
    refine ec_i (vx_runSW (As := [.ref xo, .int (xs (i + 1)), .int (bI false)]) (rest := []) ⟨hx, hb, hml, hown, hts⟩ (m_La_hide l G S0 w xo (xs (i + 1)) (bI false) _ hob _ _ hcon (fun E z hp => hp.1)) (vx_cwSW 3 hts (gw_S k_511 k_512 k_59 kw_La_hide) rfl rfl rfl (by decide +kernel) ⟨Nat.le_of_ble_eq_true rfl, Nat.le_of_ble_eq_true rfl⟩) (eB2.preS hE hI hS hz hN) rfl rfl hl.1 rfl (lv_room (Nat.le_of_ble_eq_true rfl)) d_law_515 ⟨hcN, hsN⟩) hS (fun r6 zz H locs ezz hI hsz hS => ?_)
    have er := ezz
    have hself : mW G Q X zz = zz := by
      rcases er with ⟨-, k, -, -, -, -, hp⟩ | ⟨-, -, ez, -⟩
      · obtain ⟨ms9, h9⟩ := h.1.pub hp
        exact h9.self
      · rw [ez]
        exact h.1.self
    have hI : eI G S0 (mW G Q X zz) H := by rw [hself]; exact hI
    refine lv_istore (lv' := [(6, .int r6), (5, .int (nI i)), (0, .ref b), (1, .ref xo), (2, .ref (Q 25)), (3, .ref oa), (4, .ref od)]) hx hb d_law_518 hl (by decide) rfl (fun ls hl => ?_)
    refine lv_aload_n hx hb d_law_520 rfl (lv_at hl 4 rfl) ?_
    refine lv_aload_n hx hb d_law_521 rfl (lv_at hl 2 rfl) ?_
    refine lv_iload hx hb d_law_522 (lv_at hl 1 rfl) ?_
    refine lv_iconst (v := 1) hx hb d_law_524 (by decide) ?_
    refine mv_iadd hx hb i 1 rfl rfl d_law_525 ?_
    refine mv_sld hx hb hX hbl hbA hS (i + 1) rfl (by omega) (by omega) d_law_526 ?_
    refine lv_aload_n hx hb d_law_527 rfl (lv_at hl 2 rfl) ?_
    refine lv_iload hx hb d_law_528 (lv_at hl 1 rfl) ?_
    refine lv_iconst (v := 2) hx hb d_law_530 (by decide) ?_
    refine mv_iadd hx hb i 2 rfl rfl d_law_531 ?_
    refine mv_sld hx hb hX hbl hbA hS (i + 2) rfl (by omega) (by omega) d_law_532 ?_
    refine lv_if_eq (tgt := 540) hx hb d_law_533 (by decide) (fun c9 => ?_) (fun c9 => absurd (c5) c9)
    refine lv_iconst (v := 0) hx hb d_law_540 (by decide) ?_
    refine mv_i (y := bI false) (rfl) ?_
    refine ec_v (va_runV (As := [.int (xs (i + 1)), .int (bI false)]) (rest := []) ⟨hx, hb, hml, hown, hts⟩ (m_Mo_hide l G S0 Q hQ X zz d hmP.1 (xs (i + 1)) false) (cwV 2 hts (gw_V k_910 k_911 k_912 k_67 k_913) rfl rfl rfl (by decide +kernel) ⟨Nat.le_of_ble_eq_true rfl, Nat.le_of_ble_eq_true rfl⟩) (eB.preV hE hI hS hz rfl (mw_o hQ)) rfl rfl hl.1 rfl (lv_room (Nat.le_of_ble_eq_true rfl)) d_law_541 ⟨hcN, hsN⟩) hS (fun z2 H locs ez2 hI hsz hS => ?_)
    have em := ez2
    obtain ⟨ms2, d2, dp2, Y, fo2, fd2, ey, hLI, hthr, hA⟩ := ag_hide (on := false) h er em
    rw [ey] at hI
    refine lv_aload_n hx hb d_law_544 rfl (lv_at hl 4 rfl) ?_
    refine ec_i (va_runV (As := []) (rest := []) ⟨hx, hb, hml, hown, hts⟩ (m_Mo_thrown l G S0 Q hQ Y zz) (cwV 0 hts (gw_V k_859 k_860 k_861 k_67 k_862) rfl rfl rfl (by decide +kernel) ⟨Nat.le_of_ble_eq_true rfl, Nat.le_of_ble_eq_true rfl⟩) (eB.preV hE hI hS hz rfl (mw_o hQ)) rfl rfl hl.1 rfl (lv_room (Nat.le_of_ble_eq_true rfl)) d_law_545 ⟨hcN, hsN⟩) hS (fun t9 w_6 H locs ew_6 hI hsz hS => ?_)
    obtain ⟨et9, ew_6⟩ := ew_6
    have ew_6 := ew_6.symm
    subst ew_6
    rw [hthr] at et9
    subst et9
    refine lv_iload hx hb d_law_548 (lv_at hl 0 rfl) ?_
    refine lv_icmp_eq (tgt := 555) hx hb d_law_550 (by decide) (fun c9 => ?_) (fun c9 => absurd (rfl) c9)
    rw [← ey] at hI
    refine lv_goto (tgt := 1270) hx hb d_law_555 (by decide) ?_
    exact K _ _ _ _ _ _ _ _ _ _ hLI (lv_sub hl [1, 2, 3, 4, 5, 6] rfl) hI hS
  · refine lv_aload_n hx hb d_law_494 rfl (lv_at hl 2 rfl) ?_
    refine lv_aload_n hx hb d_law_495 rfl (lv_at hl 1 rfl) ?_
    refine lv_iload hx hb d_law_496 (lv_at hl 0 rfl) ?_
    refine lv_iconst (v := 1) hx hb d_law_498 (by decide) ?_
    refine mv_iadd hx hb i 1 rfl rfl d_law_499 ?_
    refine mv_sld hx hb hX hbl hbA hS (i + 1) rfl (by omega) (by omega) d_law_500 ?_
    refine lv_aload_n hx hb d_law_501 rfl (lv_at hl 1 rfl) ?_
    refine lv_iload hx hb d_law_502 (lv_at hl 0 rfl) ?_
    refine lv_iconst (v := 2) hx hb d_law_504 (by decide) ?_
    refine mv_iadd hx hb i 2 rfl rfl d_law_505 ?_
    refine mv_sld hx hb hX hbl hbA hS (i + 2) rfl (by omega) (by omega) d_law_506 ?_
    refine lv_if_eq (tgt := 514) hx hb d_law_507 (by decide) (fun c9 => absurd c9 (c5)) (fun c9 => ?_)
    refine lv_iconst (v := 1) hx hb d_law_510 (by decide) ?_
    refine lv_goto (tgt := 515) hx hb d_law_511 (by decide) ?_
    refine mv_i (y := bI true) (rfl) ?_
    have hcon := m_Ea_hide l hlt G S0 w ms d hpic hno h00 (xs (i + 1)) (bI true) (bI_01 true)
    rw [hxo] at hcon
    refine ec_i (vx_runSW (As := [.ref xo, .int (xs (i + 1)), .int (bI true)]) (rest := []) ⟨hx, hb, hml, hown, hts⟩ (m_La_hide l G S0 w xo (xs (i + 1)) (bI true) _ hob _ _ hcon (fun E z hp => hp.1)) (vx_cwSW 3 hts (gw_S k_511 k_512 k_59 kw_La_hide) rfl rfl rfl (by decide +kernel) ⟨Nat.le_of_ble_eq_true rfl, Nat.le_of_ble_eq_true rfl⟩) (eB2.preS hE hI hS hz hN) rfl rfl hl.1 rfl (lv_room (Nat.le_of_ble_eq_true rfl)) d_law_515 ⟨hcN, hsN⟩) hS (fun r6 zz H locs ezz hI hsz hS => ?_)
    have er := ezz
    have hself : mW G Q X zz = zz := by
      rcases er with ⟨-, k, -, -, -, -, hp⟩ | ⟨-, -, ez, -⟩
      · obtain ⟨ms9, h9⟩ := h.1.pub hp
        exact h9.self
      · rw [ez]
        exact h.1.self
    have hI : eI G S0 (mW G Q X zz) H := by rw [hself]; exact hI
    refine lv_istore (lv' := [(6, .int r6), (5, .int (nI i)), (0, .ref b), (1, .ref xo), (2, .ref (Q 25)), (3, .ref oa), (4, .ref od)]) hx hb d_law_518 hl (by decide) rfl (fun ls hl => ?_)
    refine lv_aload_n hx hb d_law_520 rfl (lv_at hl 4 rfl) ?_
    refine lv_aload_n hx hb d_law_521 rfl (lv_at hl 2 rfl) ?_
    refine lv_iload hx hb d_law_522 (lv_at hl 1 rfl) ?_
    refine lv_iconst (v := 1) hx hb d_law_524 (by decide) ?_
    refine mv_iadd hx hb i 1 rfl rfl d_law_525 ?_
    refine mv_sld hx hb hX hbl hbA hS (i + 1) rfl (by omega) (by omega) d_law_526 ?_
    refine lv_aload_n hx hb d_law_527 rfl (lv_at hl 2 rfl) ?_
    refine lv_iload hx hb d_law_528 (lv_at hl 1 rfl) ?_
    refine lv_iconst (v := 2) hx hb d_law_530 (by decide) ?_
    refine mv_iadd hx hb i 2 rfl rfl d_law_531 ?_
    refine mv_sld hx hb hX hbl hbA hS (i + 2) rfl (by omega) (by omega) d_law_532 ?_
    refine lv_if_eq (tgt := 540) hx hb d_law_533 (by decide) (fun c9 => absurd c9 (c5)) (fun c9 => ?_)
    refine lv_iconst (v := 1) hx hb d_law_536 (by decide) ?_
    refine lv_goto (tgt := 541) hx hb d_law_537 (by decide) ?_
    refine mv_i (y := bI true) (rfl) ?_
    refine ec_v (va_runV (As := [.int (xs (i + 1)), .int (bI true)]) (rest := []) ⟨hx, hb, hml, hown, hts⟩ (m_Mo_hide l G S0 Q hQ X zz d hmP.1 (xs (i + 1)) true) (cwV 2 hts (gw_V k_910 k_911 k_912 k_67 k_913) rfl rfl rfl (by decide +kernel) ⟨Nat.le_of_ble_eq_true rfl, Nat.le_of_ble_eq_true rfl⟩) (eB.preV hE hI hS hz rfl (mw_o hQ)) rfl rfl hl.1 rfl (lv_room (Nat.le_of_ble_eq_true rfl)) d_law_541 ⟨hcN, hsN⟩) hS (fun z2 H locs ez2 hI hsz hS => ?_)
    have em := ez2
    obtain ⟨ms2, d2, dp2, Y, fo2, fd2, ey, hLI, hthr, hA⟩ := ag_hide (on := true) h er em
    rw [ey] at hI
    refine lv_aload_n hx hb d_law_544 rfl (lv_at hl 4 rfl) ?_
    refine ec_i (va_runV (As := []) (rest := []) ⟨hx, hb, hml, hown, hts⟩ (m_Mo_thrown l G S0 Q hQ Y zz) (cwV 0 hts (gw_V k_859 k_860 k_861 k_67 k_862) rfl rfl rfl (by decide +kernel) ⟨Nat.le_of_ble_eq_true rfl, Nat.le_of_ble_eq_true rfl⟩) (eB.preV hE hI hS hz rfl (mw_o hQ)) rfl rfl hl.1 rfl (lv_room (Nat.le_of_ble_eq_true rfl)) d_law_545 ⟨hcN, hsN⟩) hS (fun t9 w_7 H locs ew_7 hI hsz hS => ?_)
    obtain ⟨et9, ew_7⟩ := ew_7
    have ew_7 := ew_7.symm
    subst ew_7
    rw [hthr] at et9
    subst et9
    refine lv_iload hx hb d_law_548 (lv_at hl 0 rfl) ?_
    refine lv_icmp_eq (tgt := 555) hx hb d_law_550 (by decide) (fun c9 => ?_) (fun c9 => absurd (rfl) c9)
    rw [← ey] at hI
    refine lv_goto (tgt := 1270) hx hb d_law_555 (by decide) ?_
    exact K _ _ _ _ _ _ _ _ _ _ hLI (lv_sub hl [1, 2, 3, 4, 5, 6] rfl) hI hS
set_option maxHeartbeats 4000000 in
set_option maxRecDepth 100000 in
theorem law_c6 {p : Program} {e : Env} {s : State} {m : MethodId} {below : List Frame} {meth : Method} {c : Code} {l : Launch} {b L : Nat} {xs : Nat → Int32} {G : EG} {S0 : Nat} {Q : Nat → Nat} {xo oa od : Nat} (C : lwC p s m meth c l b L xs G S0) (i : Nat) (hi : i + 4 < L) {H : Heap} {locs : List Loc} {ls : Array Slot} {w : hp_M} {ms : MS} {d : DS} {dp : Nat → Nat} {X : XS} {fo : Nat → Int64} {fd : Nat → UInt64} (h : LI G Q xo oa od w ms d dp X fo fd) (hl : lv_has ls 9 [(5, .int (nI i)), (0, .ref b), (1, .ref xo), (2, .ref (Q 25)), (3, .ref oa), (4, .ref od)]) (hI : eI G S0 w H) (hS : va_S (hp_A S0) s.heap H locs) {cN sN : Nat} (hcN : cN + 40 ≤ room_1.cells) (hsN : sN + 200 ≤ room_1.slots) (K : lwK p l e s m below meth c b G S0 Q xo oa od i cN sN) : W p l e room_1 s m #[Value.ref b] below meth c H locs cN sN (lw_Z below #[Value.ref b] s) (F0 m 558 ls []) := by
  obtain ⟨⟨hx, hb, hr, hml, hown, hts0, hX, hbl, hlocks, hgv⟩, hlt, hE, hN, eS0, hL⟩ := C
  have hg : ∀ w ∈ gw, w.before #[Value.ref b] s = true := fun w h => hts0 w (gw_lw h)
  have hts : ∀ w ∈ c_La_node :: gw, w.before #[Value.ref b] s = true := fun w h => (List.mem_cons.mp h).elim (fun e9 => by rw [e9]; exact hg _ kw_La_node) (hg w)
  have hK := hE.K
  have hz : S0 ≤ s.heap.size := Nat.le_of_eq eS0
  have hbA : ¬ hp_A S0 b := by rw [eS0]; exact Nat.not_le.mpr hbl
  obtain ⟨⟨⟨hxo, hpic, hno⟩, ⟨hQ, hqc, hqo⟩, hoa, hod, -⟩, htr, hv0, hr0, hmP⟩ := id h
  obtain ⟨L0, hO⟩ := hmP.2.1
  have hob := hpic.1
  have h00 := htr.1
  rw [hxo] at hob
  refine lv_aload_n hx hb d_law_558 rfl (lv_at hl 2 rfl) ?_
  refine lv_aload_n hx hb d_law_559 rfl (lv_at hl 1 rfl) ?_
  refine lv_iload hx hb d_law_560 (lv_at hl 0 rfl) ?_
  refine lv_iconst (v := 1) hx hb d_law_562 (by decide) ?_
  refine mv_iadd hx hb i 1 rfl rfl d_law_563 ?_
  refine mv_sld hx hb hX hbl hbA hS (i + 1) rfl (by omega) (by omega) d_law_564 ?_
  refine lv_aload_n hx hb d_law_565 rfl (lv_at hl 1 rfl) ?_
  refine lv_iload hx hb d_law_566 (lv_at hl 0 rfl) ?_
  refine lv_iconst (v := 2) hx hb d_law_568 (by decide) ?_
  refine mv_iadd hx hb i 2 rfl rfl d_law_569 ?_
  refine mv_sld hx hb hX hbl hbA hS (i + 2) rfl (by omega) (by omega) d_law_570 ?_
  refine lv_aload_n hx hb d_law_571 rfl (lv_at hl 1 rfl) ?_
  refine lv_iload hx hb d_law_572 (lv_at hl 0 rfl) ?_
  refine lv_iconst (v := 3) hx hb d_law_574 (by decide) ?_
  refine mv_iadd hx hb i 3 rfl rfl d_law_575 ?_
  refine mv_sld hx hb hX hbl hbA hS (i + 3) rfl (by omega) (by omega) d_law_576 ?_
  refine lv_i2d hx hb d_law_577 ?_
  refine lv_ldc2d (v := 4593671619917905920) hx hb hown (hg _ k_1019) d_law_578 ?_
  refine lv_dmul hx hb d_law_581 (sD_fx _).nn ?_
  refine lv_aload_n hx hb d_law_582 rfl (lv_at hl 1 rfl) ?_
  refine lv_iload hx hb d_law_583 (lv_at hl 0 rfl) ?_
  refine lv_iconst (v := 4) hx hb d_law_585 (by decide) ?_
  refine mv_iadd hx hb i 4 rfl rfl d_law_586 ?_
  refine mv_sld hx hb hX hbl hbA hS (i + 4) rfl (by omega) (by omega) d_law_587 ?_
  refine lv_i2d hx hb d_law_588 ?_
  refine lv_ldc2d (v := 4593671619917905920) hx hb hown (hg _ k_1019) d_law_589 ?_
  refine lv_dmul hx hb d_law_592 (sD_fx _).nn ?_
  refine lv_aload_n hx hb d_law_593 rfl (lv_at hl 4 rfl) ?_
  have hcon := m_Ea_key l hlt G S0 w ms d hpic hno h00 (xs (i + 1)) (xs (i + 2)) (sD (xs (i + 3))) (sD (xs (i + 4))) (sD_fx _).1
  rw [hxo] at hcon
  refine ec_i (vx_runSW (As := [.ref xo, .int (xs (i + 1)), .int (xs (i + 2)), .double (FP.dmul (FP.i2d (xs (i + 3))) 4593671619917905920), .double (FP.dmul (FP.i2d (xs (i + 4))) 4593671619917905920), .ref oa]) (rest := []) ⟨hx, hb, hml, hown, hts⟩ (m_La_key l G S0 w xo (xs (i + 1)) (xs (i + 2)) (sD (xs (i + 3))) (sD (xs (i + 4))) _ hob _ _ oa fo (fun v u ⟨k, i9, _, _, _, hp⟩ => (h.1.pub hp).elim (fun _ h9 => h9.2.2.1)) hcon (fun E z hp => hp.2.elim (fun q => Or.inl q.1) (fun q => Or.inr q.1))) (vx_cwSW 6 hts (gw_S k_518 k_519 k_59 kw_La_key) rfl rfl rfl (by decide +kernel) ⟨Nat.le_of_ble_eq_true rfl, Nat.le_of_ble_eq_true rfl⟩) (eB2.preS hE hI hS hz hN) rfl rfl hl.1 rfl (lv_room (Nat.le_of_ble_eq_true rfl)) d_law_594 ⟨hcN, hsN⟩) hS (fun r6 zz H locs ezz hI hsz hS => ?_)
  have er := ezz
  have hself : mW G Q X zz = zz := by
    rcases er with ⟨-, v, u, ⟨k, i9, -, -, -, hp⟩, ez⟩ | ⟨-, ez, -⟩ | ⟨-, ez, -⟩
    · obtain ⟨ms9, h9⟩ := h.1.pub hp
      rw [ez]
      exact (h9.out _).self
    · rw [ez]
      exact h.1.self
    · rw [ez]
      exact h.1.self
  have hI : eI G S0 (mW G Q X zz) H := by rw [hself]; exact hI
  refine lv_istore (lv' := [(6, .int r6), (5, .int (nI i)), (0, .ref b), (1, .ref xo), (2, .ref (Q 25)), (3, .ref oa), (4, .ref od)]) hx hb d_law_597 hl (by decide) rfl (fun ls hl => ?_)
  refine lv_aload_n hx hb d_law_599 rfl (lv_at hl 4 rfl) ?_
  refine lv_aload_n hx hb d_law_600 rfl (lv_at hl 2 rfl) ?_
  refine lv_iload hx hb d_law_601 (lv_at hl 1 rfl) ?_
  refine lv_iconst (v := 1) hx hb d_law_603 (by decide) ?_
  refine mv_iadd hx hb i 1 rfl rfl d_law_604 ?_
  refine mv_sld hx hb hX hbl hbA hS (i + 1) rfl (by omega) (by omega) d_law_605 ?_
  refine lv_aload_n hx hb d_law_606 rfl (lv_at hl 2 rfl) ?_
  refine lv_iload hx hb d_law_607 (lv_at hl 1 rfl) ?_
  refine lv_iconst (v := 2) hx hb d_law_609 (by decide) ?_
  refine mv_iadd hx hb i 2 rfl rfl d_law_610 ?_
  refine mv_sld hx hb hX hbl hbA hS (i + 2) rfl (by omega) (by omega) d_law_611 ?_
  refine lv_aload_n hx hb d_law_612 rfl (lv_at hl 2 rfl) ?_
  refine lv_iload hx hb d_law_613 (lv_at hl 1 rfl) ?_
  refine lv_iconst (v := 3) hx hb d_law_615 (by decide) ?_
  refine mv_iadd hx hb i 3 rfl rfl d_law_616 ?_
  refine mv_sld hx hb hX hbl hbA hS (i + 3) rfl (by omega) (by omega) d_law_617 ?_
  refine lv_i2d hx hb d_law_618 ?_
  refine lv_ldc2d (v := 4593671619917905920) hx hb hown (hg _ k_1019) d_law_619 ?_
  refine lv_dmul hx hb d_law_622 (sD_fx _).nn ?_
  refine lv_aload_n hx hb d_law_623 rfl (lv_at hl 2 rfl) ?_
  refine lv_iload hx hb d_law_624 (lv_at hl 1 rfl) ?_
  refine lv_iconst (v := 4) hx hb d_law_626 (by decide) ?_
  refine mv_iadd hx hb i 4 rfl rfl d_law_627 ?_
  refine mv_sld hx hb hX hbl hbA hS (i + 4) rfl (by omega) (by omega) d_law_628 ?_
  refine lv_i2d hx hb d_law_629 ?_
  refine lv_ldc2d (v := 4593671619917905920) hx hb hown (hg _ k_1019) d_law_630 ?_
  refine lv_dmul hx hb d_law_633 (sD_fx _).nn ?_
  refine ec_i (va_runV (As := [.int (xs (i + 1)), .int (xs (i + 2)), .double (FP.dmul (FP.i2d (xs (i + 3))) 4593671619917905920), .double (FP.dmul (FP.i2d (xs (i + 4))) 4593671619917905920)]) (rest := []) ⟨hx, hb, hml, hown, hts⟩ (m_Mo_key l G S0 Q hQ X zz d dp hmP.1 L0 hO hmP.2.2 (xs (i + 1)) (xs (i + 2)) (sD (xs (i + 3))) (sD (xs (i + 4)))) (cwV 4 hts (gw_V k_914 k_915 k_916 k_67 k_917) rfl rfl rfl (by decide +kernel) ⟨Nat.le_of_ble_eq_true rfl, Nat.le_of_ble_eq_true rfl⟩) (eB.preV hE hI hS hz rfl (mw_o hQ)) rfl rfl hl.1 rfl (lv_room (Nat.le_of_ble_eq_true rfl)) d_law_634 ⟨hcN, hsN⟩) hS (fun b7 z2 H locs ez2 hI hsz hS => ?_)
  have em := ez2
  obtain ⟨ms2, d2, dp2, Y, fo2, fd2, ey, hLI, hthr, hA⟩ := ag_key h er em
  rw [ey] at hI
  refine lv_istore (lv' := [(7, .int b7), (6, .int r6), (5, .int (nI i)), (0, .ref b), (1, .ref xo), (2, .ref (Q 25)), (3, .ref oa), (4, .ref od)]) hx hb d_law_637 hl (by decide) rfl (fun ls hl => ?_)
  refine lv_aload_n hx hb d_law_639 rfl (lv_at hl 5 rfl) ?_
  refine ec_i (va_runV (As := []) (rest := []) ⟨hx, hb, hml, hown, hts⟩ (m_Mo_thrown l G S0 Q hQ Y zz) (cwV 0 hts (gw_V k_859 k_860 k_861 k_67 k_862) rfl rfl rfl (by decide +kernel) ⟨Nat.le_of_ble_eq_true rfl, Nat.le_of_ble_eq_true rfl⟩) (eB.preV hE hI hS hz rfl (mw_o hQ)) rfl rfl hl.1 rfl (lv_room (Nat.le_of_ble_eq_true rfl)) d_law_640 ⟨hcN, hsN⟩) hS (fun t9 w_8 H locs ew_8 hI hsz hS => ?_)
  obtain ⟨et9, ew_8⟩ := ew_8
  have ew_8 := ew_8.symm
  subst ew_8
  rw [hthr] at et9
  subst et9
  refine lv_iload hx hb d_law_643 (lv_at hl 1 rfl) ?_
  refine lv_icmp_eq (tgt := 650) hx hb d_law_645 (by decide) (fun c9 => ?_) (fun c9 => absurd (rfl) c9)
  rw [← ey] at hI
  refine lv_iload hx hb d_law_650 (lv_at hl 1 rfl) ?_
  refine lv_if_ne (tgt := 667) hx hb d_law_652 (by decide) (fun c7 => ?_) (fun c7 => ?_)
  · refine lv_goto (tgt := 1270) hx hb d_law_667 (by decide) ?_
    exact K _ _ _ _ _ _ _ _ _ _ hLI (lv_sub hl [2, 3, 4, 5, 6, 7] rfl) hI hS
  · have hout := hLI.1.2.2.1
    refine lv_aload_n hx hb d_law_655 rfl (lv_at hl 6 rfl) ?_
    refine lv_iconst (v := 0) hx hb d_law_656 (by decide) ?_
    refine hp_lald hx hb hK hI 3 hout rfl (vp_in_nI (n := 0) (by decide) (by decide)) d_law_657 ?_
    refine lv_iload hx hb d_law_658 (lv_at hl 0 rfl) ?_
    refine lv_i2l hx hb d_law_660 rfl ?_
    refine W.lcmp hx hb d_law_661 ?_
    refine lv_if_eq (tgt := 667) hx hb d_law_662 (by decide) (fun c9 => ?_) (fun c9 => absurd ((show lg_cmp (fo2 0) b7.toInt64 = 0 by rw [show fo2 0 = b7.toInt64 from hA c7]; exact lg_same _)) c9)
    refine lv_goto (tgt := 1270) hx hb d_law_667 (by decide) ?_
    exact K _ _ _ _ _ _ _ _ _ _ hLI (lv_sub hl [2, 3, 4, 5, 6, 7] rfl) hI hS
set_option maxHeartbeats 4000000 in
set_option maxRecDepth 100000 in
theorem law_c7 {p : Program} {e : Env} {s : State} {m : MethodId} {below : List Frame} {meth : Method} {c : Code} {l : Launch} {b L : Nat} {xs : Nat → Int32} {G : EG} {S0 : Nat} {Q : Nat → Nat} {xo oa od : Nat} (C : lwC p s m meth c l b L xs G S0) (i : Nat) (hi : i + 4 < L) {H : Heap} {locs : List Loc} {ls : Array Slot} {w : hp_M} {ms : MS} {d : DS} {dp : Nat → Nat} {X : XS} {fo : Nat → Int64} {fd : Nat → UInt64} (h : LI G Q xo oa od w ms d dp X fo fd) (hl : lv_has ls 9 [(5, .int (nI i)), (0, .ref b), (1, .ref xo), (2, .ref (Q 25)), (3, .ref oa), (4, .ref od)]) (hI : eI G S0 w H) (hS : va_S (hp_A S0) s.heap H locs) {cN sN : Nat} (hcN : cN + 40 ≤ room_1.cells) (hsN : sN + 200 ≤ room_1.slots) (K : lwK p l e s m below meth c b G S0 Q xo oa od i cN sN) : W p l e room_1 s m #[Value.ref b] below meth c H locs cN sN (lw_Z below #[Value.ref b] s) (F0 m 670 ls []) := by
  obtain ⟨⟨hx, hb, hr, hml, hown, hts0, hX, hbl, hlocks, hgv⟩, hlt, hE, hN, eS0, hL⟩ := C
  have hg : ∀ w ∈ gw, w.before #[Value.ref b] s = true := fun w h => hts0 w (gw_lw h)
  have hts : ∀ w ∈ c_La_node :: gw, w.before #[Value.ref b] s = true := fun w h => (List.mem_cons.mp h).elim (fun e9 => by rw [e9]; exact hg _ kw_La_node) (hg w)
  have hK := hE.K
  have hz : S0 ≤ s.heap.size := Nat.le_of_eq eS0
  have hbA : ¬ hp_A S0 b := by rw [eS0]; exact Nat.not_le.mpr hbl
  obtain ⟨⟨⟨hxo, hpic, hno⟩, ⟨hQ, hqc, hqo⟩, hoa, hod, -⟩, htr, hv0, hr0, hmP⟩ := id h
  obtain ⟨L0, hO⟩ := hmP.2.1
  have hob := hpic.1
  have h00 := htr.1
  rw [hxo] at hob
  refine lv_aload_n hx hb d_law_670 rfl (lv_at hl 2 rfl) ?_
  refine lv_aload_n hx hb d_law_671 rfl (lv_at hl 1 rfl) ?_
  refine lv_iload hx hb d_law_672 (lv_at hl 0 rfl) ?_
  refine lv_iconst (v := 1) hx hb d_law_674 (by decide) ?_
  refine mv_iadd hx hb i 1 rfl rfl d_law_675 ?_
  refine mv_sld hx hb hX hbl hbA hS (i + 1) rfl (by omega) (by omega) d_law_676 ?_
  refine lv_aload_n hx hb d_law_677 rfl (lv_at hl 1 rfl) ?_
  refine lv_iload hx hb d_law_678 (lv_at hl 0 rfl) ?_
  refine lv_iconst (v := 2) hx hb d_law_680 (by decide) ?_
  refine mv_iadd hx hb i 2 rfl rfl d_law_681 ?_
  refine mv_sld hx hb hX hbl hbA hS (i + 2) rfl (by omega) (by omega) d_law_682 ?_
  have hcon := m_Ea_unkey l hlt G S0 w ms d hpic hno h00 (xs (i + 1)) (xs (i + 2))
  rw [hxo] at hcon
  refine ec_i (vx_runSW (As := [.ref xo, .int (xs (i + 1)), .int (xs (i + 2))]) (rest := []) ⟨hx, hb, hml, hown, hts⟩ (m_La_unkey l G S0 w xo (xs (i + 1)) (xs (i + 2)) _ hob _ _ hcon (fun E z hp => hp.2.elim (fun q => Or.inl q.1) (fun q => Or.inr q.1))) (vx_cwSW 3 hts (gw_S k_544 k_545 k_59 kw_La_unkey) rfl rfl rfl (by decide +kernel) ⟨Nat.le_of_ble_eq_true rfl, Nat.le_of_ble_eq_true rfl⟩) (eB2.preS hE hI hS hz hN) rfl rfl hl.1 rfl (lv_room (Nat.le_of_ble_eq_true rfl)) d_law_683 ⟨hcN, hsN⟩) hS (fun r6 zz H locs ezz hI hsz hS => ?_)
  have er := ezz
  have hself : mW G Q X zz = zz := by
    rcases er with ⟨-, k, i9, -, -, hp⟩ | ⟨-, ez, -⟩ | ⟨-, ez, -⟩
    · obtain ⟨ms9, h9⟩ := h.1.pub hp
      exact h9.self
    · rw [ez]
      exact h.1.self
    · rw [ez]
      exact h.1.self
  have hI : eI G S0 (mW G Q X zz) H := by rw [hself]; exact hI
  refine lv_istore (lv' := [(6, .int r6), (5, .int (nI i)), (0, .ref b), (1, .ref xo), (2, .ref (Q 25)), (3, .ref oa), (4, .ref od)]) hx hb d_law_686 hl (by decide) rfl (fun ls hl => ?_)
  refine lv_aload_n hx hb d_law_688 rfl (lv_at hl 4 rfl) ?_
  refine lv_aload_n hx hb d_law_689 rfl (lv_at hl 2 rfl) ?_
  refine lv_iload hx hb d_law_690 (lv_at hl 1 rfl) ?_
  refine lv_iconst (v := 1) hx hb d_law_692 (by decide) ?_
  refine mv_iadd hx hb i 1 rfl rfl d_law_693 ?_
  refine mv_sld hx hb hX hbl hbA hS (i + 1) rfl (by omega) (by omega) d_law_694 ?_
  refine lv_aload_n hx hb d_law_695 rfl (lv_at hl 2 rfl) ?_
  refine lv_iload hx hb d_law_696 (lv_at hl 1 rfl) ?_
  refine lv_iconst (v := 2) hx hb d_law_698 (by decide) ?_
  refine mv_iadd hx hb i 2 rfl rfl d_law_699 ?_
  refine mv_sld hx hb hX hbl hbA hS (i + 2) rfl (by omega) (by omega) d_law_700 ?_
  refine ec_v (va_runV (As := [.int (xs (i + 1)), .int (xs (i + 2))]) (rest := []) ⟨hx, hb, hml, hown, hts⟩ (m_Mo_unkey l G S0 Q hQ X zz d hmP.1 (xs (i + 1)) (xs (i + 2))) (cwV 2 hts (gw_V k_928 k_929 k_930 k_67 k_931) rfl rfl rfl (by decide +kernel) ⟨Nat.le_of_ble_eq_true rfl, Nat.le_of_ble_eq_true rfl⟩) (eB.preV hE hI hS hz rfl (mw_o hQ)) rfl rfl hl.1 rfl (lv_room (Nat.le_of_ble_eq_true rfl)) d_law_701 ⟨hcN, hsN⟩) hS (fun z2 H locs ez2 hI hsz hS => ?_)
  have em := ez2
  obtain ⟨ms2, d2, dp2, Y, fo2, fd2, ey, hLI, hthr, hA⟩ := ag_unkey h er em
  rw [ey] at hI
  refine lv_aload_n hx hb d_law_704 rfl (lv_at hl 4 rfl) ?_
  refine ec_i (va_runV (As := []) (rest := []) ⟨hx, hb, hml, hown, hts⟩ (m_Mo_thrown l G S0 Q hQ Y zz) (cwV 0 hts (gw_V k_859 k_860 k_861 k_67 k_862) rfl rfl rfl (by decide +kernel) ⟨Nat.le_of_ble_eq_true rfl, Nat.le_of_ble_eq_true rfl⟩) (eB.preV hE hI hS hz rfl (mw_o hQ)) rfl rfl hl.1 rfl (lv_room (Nat.le_of_ble_eq_true rfl)) d_law_705 ⟨hcN, hsN⟩) hS (fun t9 w_9 H locs ew_9 hI hsz hS => ?_)
  obtain ⟨et9, ew_9⟩ := ew_9
  have ew_9 := ew_9.symm
  subst ew_9
  rw [hthr] at et9
  subst et9
  refine lv_iload hx hb d_law_708 (lv_at hl 0 rfl) ?_
  refine lv_icmp_eq (tgt := 715) hx hb d_law_710 (by decide) (fun c9 => ?_) (fun c9 => absurd (rfl) c9)
  rw [← ey] at hI
  refine lv_goto (tgt := 1270) hx hb d_law_715 (by decide) ?_
  exact K _ _ _ _ _ _ _ _ _ _ hLI (lv_sub hl [1, 2, 3, 4, 5, 6] rfl) hI hS
set_option maxHeartbeats 4000000 in
set_option maxRecDepth 100000 in
theorem law_c8 {p : Program} {e : Env} {s : State} {m : MethodId} {below : List Frame} {meth : Method} {c : Code} {l : Launch} {b L : Nat} {xs : Nat → Int32} {G : EG} {S0 : Nat} {Q : Nat → Nat} {xo oa od : Nat} (C : lwC p s m meth c l b L xs G S0) (i : Nat) (hi : i + 4 < L) {H : Heap} {locs : List Loc} {ls : Array Slot} {w : hp_M} {ms : MS} {d : DS} {dp : Nat → Nat} {X : XS} {fo : Nat → Int64} {fd : Nat → UInt64} (h : LI G Q xo oa od w ms d dp X fo fd) (hl : lv_has ls 9 [(5, .int (nI i)), (0, .ref b), (1, .ref xo), (2, .ref (Q 25)), (3, .ref oa), (4, .ref od)]) (hI : eI G S0 w H) (hS : va_S (hp_A S0) s.heap H locs) {cN sN : Nat} (hcN : cN + 40 ≤ room_1.cells) (hsN : sN + 200 ≤ room_1.slots) (K : lwK p l e s m below meth c b G S0 Q xo oa od i cN sN) : W p l e room_1 s m #[Value.ref b] below meth c H locs cN sN (lw_Z below #[Value.ref b] s) (F0 m 718 ls []) := by
  obtain ⟨⟨hx, hb, hr, hml, hown, hts0, hX, hbl, hlocks, hgv⟩, hlt, hE, hN, eS0, hL⟩ := C
  have hg : ∀ w ∈ gw, w.before #[Value.ref b] s = true := fun w h => hts0 w (gw_lw h)
  have hts : ∀ w ∈ c_La_node :: gw, w.before #[Value.ref b] s = true := fun w h => (List.mem_cons.mp h).elim (fun e9 => by rw [e9]; exact hg _ kw_La_node) (hg w)
  have hK := hE.K
  have hz : S0 ≤ s.heap.size := Nat.le_of_eq eS0
  have hbA : ¬ hp_A S0 b := by rw [eS0]; exact Nat.not_le.mpr hbl
  obtain ⟨⟨⟨hxo, hpic, hno⟩, ⟨hQ, hqc, hqo⟩, hoa, hod, -⟩, htr, hv0, hr0, hmP⟩ := id h
  obtain ⟨L0, hO⟩ := hmP.2.1
  have hob := hpic.1
  have h00 := htr.1
  rw [hxo] at hob
  refine lv_aload_n hx hb d_law_718 rfl (lv_at hl 2 rfl) ?_
  refine lv_aload_n hx hb d_law_719 rfl (lv_at hl 1 rfl) ?_
  refine lv_iload hx hb d_law_720 (lv_at hl 0 rfl) ?_
  refine lv_iconst (v := 1) hx hb d_law_722 (by decide) ?_
  refine mv_iadd hx hb i 1 rfl rfl d_law_723 ?_
  refine mv_sld hx hb hX hbl hbA hS (i + 1) rfl (by omega) (by omega) d_law_724 ?_
  refine lv_aload_n hx hb d_law_725 rfl (lv_at hl 1 rfl) ?_
  refine lv_iload hx hb d_law_726 (lv_at hl 0 rfl) ?_
  refine lv_iconst (v := 2) hx hb d_law_728 (by decide) ?_
  refine mv_iadd hx hb i 2 rfl rfl d_law_729 ?_
  refine mv_sld hx hb hX hbl hbA hS (i + 2) rfl (by omega) (by omega) d_law_730 ?_
  have hcon := m_Ea_into l hlt G S0 w ms d hpic hno dp htr (xs (i + 1)) (xs (i + 2))
  rw [hxo] at hcon
  refine ec_i (vx_runSW (As := [.ref xo, .int (xs (i + 1)), .int (xs (i + 2))]) (rest := []) ⟨hx, hb, hml, hown, hts⟩ (m_La_into l G S0 w xo (xs (i + 1)) (xs (i + 2)) _ hob _ _ hcon (fun E z hp => hp.2.elim (fun q => Or.inl q.1) (fun q => Or.inr q.1))) (vx_cwSW 3 hts (gw_S k_568 k_569 k_59 kw_La_into) rfl rfl rfl (by decide +kernel) ⟨Nat.le_of_ble_eq_true rfl, Nat.le_of_ble_eq_true rfl⟩) (eB2.preS hE hI hS hz hN) rfl rfl hl.1 rfl (lv_room (Nat.le_of_ble_eq_true rfl)) d_law_731 ⟨hcN, hsN⟩) hS (fun r6 zz H locs ezz hI hsz hS => ?_)
  have er := ezz
  have hself : mW G Q X zz = zz := by
    rcases er with ⟨-, k, g, gp, -, -, -, hp⟩ | ⟨-, ez, -⟩ | ⟨-, ez, -⟩
    · obtain ⟨ms9, h9⟩ := h.1.pub hp
      exact h9.self
    · rw [ez]
      exact h.1.self
    · rw [ez]
      exact h.1.self
  have hI : eI G S0 (mW G Q X zz) H := by rw [hself]; exact hI
  refine lv_istore (lv' := [(6, .int r6), (5, .int (nI i)), (0, .ref b), (1, .ref xo), (2, .ref (Q 25)), (3, .ref oa), (4, .ref od)]) hx hb d_law_734 hl (by decide) rfl (fun ls hl => ?_)
  refine lv_aload_n hx hb d_law_736 rfl (lv_at hl 4 rfl) ?_
  refine lv_aload_n hx hb d_law_737 rfl (lv_at hl 2 rfl) ?_
  refine lv_iload hx hb d_law_738 (lv_at hl 1 rfl) ?_
  refine lv_iconst (v := 1) hx hb d_law_740 (by decide) ?_
  refine mv_iadd hx hb i 1 rfl rfl d_law_741 ?_
  refine mv_sld hx hb hX hbl hbA hS (i + 1) rfl (by omega) (by omega) d_law_742 ?_
  refine lv_aload_n hx hb d_law_743 rfl (lv_at hl 2 rfl) ?_
  refine lv_iload hx hb d_law_744 (lv_at hl 1 rfl) ?_
  refine lv_iconst (v := 2) hx hb d_law_746 (by decide) ?_
  refine mv_iadd hx hb i 2 rfl rfl d_law_747 ?_
  refine mv_sld hx hb hX hbl hbA hS (i + 2) rfl (by omega) (by omega) d_law_748 ?_
  refine ec_v (va_runV (As := [.int (xs (i + 1)), .int (xs (i + 2))]) (rest := []) ⟨hx, hb, hml, hown, hts⟩ (m_Mo_into l G S0 Q hQ X zz d dp htr hmP.1 L0 hO hmP.2.2 (xs (i + 1)) (xs (i + 2))) (cwV 2 hts (gw_V k_932 k_933 k_934 k_67 k_935) rfl rfl rfl (by decide +kernel) ⟨Nat.le_of_ble_eq_true rfl, Nat.le_of_ble_eq_true rfl⟩) (eB.preV hE hI hS hz rfl (mw_o hQ)) rfl rfl hl.1 rfl (lv_room (Nat.le_of_ble_eq_true rfl)) d_law_749 ⟨hcN, hsN⟩) hS (fun z2 H locs ez2 hI hsz hS => ?_)
  have em := ez2
  obtain ⟨ms2, d2, dp2, Y, fo2, fd2, ey, hLI, hthr, hA⟩ := ag_into h er em
  rw [ey] at hI
  refine lv_aload_n hx hb d_law_752 rfl (lv_at hl 4 rfl) ?_
  refine ec_i (va_runV (As := []) (rest := []) ⟨hx, hb, hml, hown, hts⟩ (m_Mo_thrown l G S0 Q hQ Y zz) (cwV 0 hts (gw_V k_859 k_860 k_861 k_67 k_862) rfl rfl rfl (by decide +kernel) ⟨Nat.le_of_ble_eq_true rfl, Nat.le_of_ble_eq_true rfl⟩) (eB.preV hE hI hS hz rfl (mw_o hQ)) rfl rfl hl.1 rfl (lv_room (Nat.le_of_ble_eq_true rfl)) d_law_753 ⟨hcN, hsN⟩) hS (fun t9 w_10 H locs ew_10 hI hsz hS => ?_)
  obtain ⟨et9, ew_10⟩ := ew_10
  have ew_10 := ew_10.symm
  subst ew_10
  rw [hthr] at et9
  subst et9
  refine lv_iload hx hb d_law_756 (lv_at hl 0 rfl) ?_
  refine lv_icmp_eq (tgt := 763) hx hb d_law_758 (by decide) (fun c9 => ?_) (fun c9 => absurd (rfl) c9)
  rw [← ey] at hI
  refine lv_goto (tgt := 1270) hx hb d_law_763 (by decide) ?_
  exact K _ _ _ _ _ _ _ _ _ _ hLI (lv_sub hl [1, 2, 3, 4, 5, 6] rfl) hI hS
set_option maxHeartbeats 4000000 in
set_option maxRecDepth 100000 in
theorem law_c9 {p : Program} {e : Env} {s : State} {m : MethodId} {below : List Frame} {meth : Method} {c : Code} {l : Launch} {b L : Nat} {xs : Nat → Int32} {G : EG} {S0 : Nat} {Q : Nat → Nat} {xo oa od : Nat} (C : lwC p s m meth c l b L xs G S0) (i : Nat) (hi : i + 4 < L) {H : Heap} {locs : List Loc} {ls : Array Slot} {w : hp_M} {ms : MS} {d : DS} {dp : Nat → Nat} {X : XS} {fo : Nat → Int64} {fd : Nat → UInt64} (h : LI G Q xo oa od w ms d dp X fo fd) (hl : lv_has ls 9 [(5, .int (nI i)), (0, .ref b), (1, .ref xo), (2, .ref (Q 25)), (3, .ref oa), (4, .ref od)]) (hI : eI G S0 w H) (hS : va_S (hp_A S0) s.heap H locs) {cN sN : Nat} (hcN : cN + 40 ≤ room_1.cells) (hsN : sN + 200 ≤ room_1.slots) (K : lwK p l e s m below meth c b G S0 Q xo oa od i cN sN) : W p l e room_1 s m #[Value.ref b] below meth c H locs cN sN (lw_Z below #[Value.ref b] s) (F0 m 766 ls []) := by
  obtain ⟨⟨hx, hb, hr, hml, hown, hts0, hX, hbl, hlocks, hgv⟩, hlt, hE, hN, eS0, hL⟩ := C
  have hg : ∀ w ∈ gw, w.before #[Value.ref b] s = true := fun w h => hts0 w (gw_lw h)
  have hts : ∀ w ∈ c_La_node :: gw, w.before #[Value.ref b] s = true := fun w h => (List.mem_cons.mp h).elim (fun e9 => by rw [e9]; exact hg _ kw_La_node) (hg w)
  have hK := hE.K
  have hz : S0 ≤ s.heap.size := Nat.le_of_eq eS0
  have hbA : ¬ hp_A S0 b := by rw [eS0]; exact Nat.not_le.mpr hbl
  obtain ⟨⟨⟨hxo, hpic, hno⟩, ⟨hQ, hqc, hqo⟩, hoa, hod, -⟩, htr, hv0, hr0, hmP⟩ := id h
  obtain ⟨L0, hO⟩ := hmP.2.1
  have hob := hpic.1
  have h00 := htr.1
  rw [hxo] at hob
  refine lv_aload_n hx hb d_law_766 rfl (lv_at hl 2 rfl) ?_
  refine lv_aload_n hx hb d_law_767 rfl (lv_at hl 1 rfl) ?_
  refine lv_iload hx hb d_law_768 (lv_at hl 0 rfl) ?_
  refine lv_iconst (v := 1) hx hb d_law_770 (by decide) ?_
  refine mv_iadd hx hb i 1 rfl rfl d_law_771 ?_
  refine mv_sld hx hb hX hbl hbA hS (i + 1) rfl (by omega) (by omega) d_law_772 ?_
  refine lv_aload_n hx hb d_law_773 rfl (lv_at hl 4 rfl) ?_
  have hcon := m_Ea_remove l hlt G S0 w ms d hpic hno dp htr (xs (i + 1))
  rw [hxo] at hcon
  refine ec_i (vx_runSW (As := [.ref xo, .int (xs (i + 1)), .ref oa]) (rest := []) ⟨hx, hb, hml, hown, hts⟩ (m_La_remove l G S0 w xo (xs (i + 1)) _ hob _ _ oa fo (fun v u ⟨k, gp, _, _, _, _, _, _, _, _, _, hp⟩ => (h.1.pub hp).elim (fun _ h9 => h9.2.2.1)) hcon (fun E z hp => hp.1)) (vx_cwSW 3 hts (gw_S k_615 k_616 k_59 kw_La_remove) rfl rfl rfl (by decide +kernel) ⟨Nat.le_of_ble_eq_true rfl, Nat.le_of_ble_eq_true rfl⟩) (eB2.preS hE hI hS hz hN) rfl rfl hl.1 rfl (lv_room (Nat.le_of_ble_eq_true rfl)) d_law_774 ⟨hcN, hsN⟩) hS (fun r6 zz H locs ezz hI hsz hS => ?_)
  have er := ezz
  have hself : mW G Q X zz = zz := by
    rcases er with ⟨-, v, u, ⟨k, gp, -, -, -, -, -, -, -, -, -, hp⟩, ez⟩ | ⟨-, -, ez, -⟩
    · obtain ⟨ms9, h9⟩ := h.1.pub hp
      rw [ez]
      exact (h9.out _).self
    · rw [ez]
      exact h.1.self
  have hI : eI G S0 (mW G Q X zz) H := by rw [hself]; exact hI
  refine lv_istore (lv' := [(6, .int r6), (5, .int (nI i)), (0, .ref b), (1, .ref xo), (2, .ref (Q 25)), (3, .ref oa), (4, .ref od)]) hx hb d_law_777 hl (by decide) rfl (fun ls hl => ?_)
  refine lv_aload_n hx hb d_law_779 rfl (lv_at hl 4 rfl) ?_
  refine lv_aload_n hx hb d_law_780 rfl (lv_at hl 2 rfl) ?_
  refine lv_iload hx hb d_law_781 (lv_at hl 1 rfl) ?_
  refine lv_iconst (v := 1) hx hb d_law_783 (by decide) ?_
  refine mv_iadd hx hb i 1 rfl rfl d_law_784 ?_
  refine mv_sld hx hb hX hbl hbA hS (i + 1) rfl (by omega) (by omega) d_law_785 ?_
  refine ec_i (va_runV (As := [.int (xs (i + 1))]) (rest := []) ⟨hx, hb, hml, hown, hts⟩ (m_Mo_remove l G S0 Q hQ X zz d dp htr hmP.1 L0 hO hmP.2.2 (xs (i + 1))) (cwV 1 hts (gw_V k_952 k_953 k_954 k_67 k_955) rfl rfl rfl (by decide +kernel) ⟨Nat.le_of_ble_eq_true rfl, Nat.le_of_ble_eq_true rfl⟩) (eB.preV hE hI hS hz rfl (mw_o hQ)) rfl rfl hl.1 rfl (lv_room (Nat.le_of_ble_eq_true rfl)) d_law_786 ⟨hcN, hsN⟩) hS (fun b7 z2 H locs ez2 hI hsz hS => ?_)
  have em := ez2
  obtain ⟨ms2, d2, dp2, Y, fo2, fd2, ey, hLI, hthr, hA⟩ := ag_remove h er em
  rw [ey] at hI
  refine lv_istore (lv' := [(7, .int b7), (6, .int r6), (5, .int (nI i)), (0, .ref b), (1, .ref xo), (2, .ref (Q 25)), (3, .ref oa), (4, .ref od)]) hx hb d_law_789 hl (by decide) rfl (fun ls hl => ?_)
  refine lv_aload_n hx hb d_law_791 rfl (lv_at hl 5 rfl) ?_
  refine ec_i (va_runV (As := []) (rest := []) ⟨hx, hb, hml, hown, hts⟩ (m_Mo_thrown l G S0 Q hQ Y zz) (cwV 0 hts (gw_V k_859 k_860 k_861 k_67 k_862) rfl rfl rfl (by decide +kernel) ⟨Nat.le_of_ble_eq_true rfl, Nat.le_of_ble_eq_true rfl⟩) (eB.preV hE hI hS hz rfl (mw_o hQ)) rfl rfl hl.1 rfl (lv_room (Nat.le_of_ble_eq_true rfl)) d_law_792 ⟨hcN, hsN⟩) hS (fun t9 w_11 H locs ew_11 hI hsz hS => ?_)
  obtain ⟨et9, ew_11⟩ := ew_11
  have ew_11 := ew_11.symm
  subst ew_11
  rw [hthr] at et9
  subst et9
  refine lv_iload hx hb d_law_795 (lv_at hl 1 rfl) ?_
  refine lv_icmp_eq (tgt := 802) hx hb d_law_797 (by decide) (fun c9 => ?_) (fun c9 => absurd (rfl) c9)
  rw [← ey] at hI
  refine lv_iload hx hb d_law_802 (lv_at hl 1 rfl) ?_
  refine lv_if_ne (tgt := 819) hx hb d_law_804 (by decide) (fun c7 => ?_) (fun c7 => ?_)
  · refine lv_goto (tgt := 1270) hx hb d_law_819 (by decide) ?_
    exact K _ _ _ _ _ _ _ _ _ _ hLI (lv_sub hl [2, 3, 4, 5, 6, 7] rfl) hI hS
  · have hout := hLI.1.2.2.1
    refine lv_aload_n hx hb d_law_807 rfl (lv_at hl 6 rfl) ?_
    refine lv_iconst (v := 0) hx hb d_law_808 (by decide) ?_
    refine hp_lald hx hb hK hI 3 hout rfl (vp_in_nI (n := 0) (by decide) (by decide)) d_law_809 ?_
    refine lv_iload hx hb d_law_810 (lv_at hl 0 rfl) ?_
    refine lv_i2l hx hb d_law_812 rfl ?_
    refine W.lcmp hx hb d_law_813 ?_
    refine lv_if_eq (tgt := 819) hx hb d_law_814 (by decide) (fun c9 => ?_) (fun c9 => absurd ((show lg_cmp (fo2 0) b7.toInt64 = 0 by rw [show fo2 0 = b7.toInt64 from hA c7]; exact lg_same _)) c9)
    refine lv_goto (tgt := 1270) hx hb d_law_819 (by decide) ?_
    exact K _ _ _ _ _ _ _ _ _ _ hLI (lv_sub hl [2, 3, 4, 5, 6, 7] rfl) hI hS
set_option maxHeartbeats 4000000 in
set_option maxRecDepth 100000 in
theorem law_c10 {p : Program} {e : Env} {s : State} {m : MethodId} {below : List Frame} {meth : Method} {c : Code} {l : Launch} {b L : Nat} {xs : Nat → Int32} {G : EG} {S0 : Nat} {Q : Nat → Nat} {xo oa od : Nat} (C : lwC p s m meth c l b L xs G S0) (i : Nat) (hi : i + 4 < L) {H : Heap} {locs : List Loc} {ls : Array Slot} {w : hp_M} {ms : MS} {d : DS} {dp : Nat → Nat} {X : XS} {fo : Nat → Int64} {fd : Nat → UInt64} (h : LI G Q xo oa od w ms d dp X fo fd) (hl : lv_has ls 9 [(5, .int (nI i)), (0, .ref b), (1, .ref xo), (2, .ref (Q 25)), (3, .ref oa), (4, .ref od)]) (hI : eI G S0 w H) (hS : va_S (hp_A S0) s.heap H locs) {cN sN : Nat} (hcN : cN + 40 ≤ room_1.cells) (hsN : sN + 200 ≤ room_1.slots) (K : lwK p l e s m below meth c b G S0 Q xo oa od i cN sN) : W p l e room_1 s m #[Value.ref b] below meth c H locs cN sN (lw_Z below #[Value.ref b] s) (F0 m 822 ls []) := by
  obtain ⟨⟨hx, hb, hr, hml, hown, hts0, hX, hbl, hlocks, hgv⟩, hlt, hE, hN, eS0, hL⟩ := C
  have hg : ∀ w ∈ gw, w.before #[Value.ref b] s = true := fun w h => hts0 w (gw_lw h)
  have hts : ∀ w ∈ c_La_node :: gw, w.before #[Value.ref b] s = true := fun w h => (List.mem_cons.mp h).elim (fun e9 => by rw [e9]; exact hg _ kw_La_node) (hg w)
  have hK := hE.K
  have hz : S0 ≤ s.heap.size := Nat.le_of_eq eS0
  have hbA : ¬ hp_A S0 b := by rw [eS0]; exact Nat.not_le.mpr hbl
  obtain ⟨⟨⟨hxo, hpic, hno⟩, ⟨hQ, hqc, hqo⟩, hoa, hod, -⟩, htr, hv0, hr0, hmP⟩ := id h
  obtain ⟨L0, hO⟩ := hmP.2.1
  have hob := hpic.1
  have h00 := htr.1
  rw [hxo] at hob
  refine lv_aload_n hx hb d_law_822 rfl (lv_at hl 2 rfl) ?_
  refine lv_aload_n hx hb d_law_823 rfl (lv_at hl 1 rfl) ?_
  refine lv_iload hx hb d_law_824 (lv_at hl 0 rfl) ?_
  refine lv_iconst (v := 1) hx hb d_law_826 (by decide) ?_
  refine mv_iadd hx hb i 1 rfl rfl d_law_827 ?_
  refine mv_sld hx hb hX hbl hbA hS (i + 1) rfl (by omega) (by omega) d_law_828 ?_
  refine lv_i2d hx hb d_law_829 ?_
  refine lv_ldc2d (v := 4593671619917905920) hx hb hown (hg _ k_1019) d_law_830 ?_
  refine lv_dmul hx hb d_law_833 (sD_fx _).nn ?_
  refine lv_aload_n hx hb d_law_834 rfl (lv_at hl 4 rfl) ?_
  have hcon := m_Ea_paint l hlt G S0 w ms d hpic hno dp htr hv0 (sD (xs (i + 1))) (sD_3 _)
  rw [hxo] at hcon
  refine ec_i (vx_runSW (As := [.ref xo, .double (FP.dmul (FP.i2d (xs (i + 1))) 4593671619917905920), .ref oa]) (rest := []) ⟨hx, hb, hml, hown, hts⟩ (m_La_paint l G S0 w xo (sD (xs (i + 1))) _ hob _ _ oa fo (fun v u ⟨_, _, hp⟩ => (h.1.pub hp).elim (fun _ h9 => h9.2.2.1)) hcon (fun E z hp => hp.1)) (vx_cwSW 3 hts (gw_S k_622 k_623 k_59 kw_La_paint) rfl rfl rfl (by decide +kernel) ⟨Nat.le_of_ble_eq_true rfl, Nat.le_of_ble_eq_true rfl⟩) (eB2.preS hE hI hS hz hN) rfl rfl hl.1 rfl (lv_room (Nat.le_of_ble_eq_true rfl)) d_law_835 ⟨hcN, hsN⟩) hS (fun r6 zz H locs ezz hI hsz hS => ?_)
  have er := ezz
  have hself : mW G Q X zz = zz := by
    rcases er with ⟨-, v, u, ⟨-, -, hp⟩, ez⟩ | ⟨-, -, ez, -⟩
    · obtain ⟨ms9, h9⟩ := h.1.pub hp
      rw [ez]
      exact (h9.out _).self
    · rw [ez]
      exact h.1.self
  have hI : eI G S0 (mW G Q X zz) H := by rw [hself]; exact hI
  refine lv_istore (lv' := [(6, .int r6), (5, .int (nI i)), (0, .ref b), (1, .ref xo), (2, .ref (Q 25)), (3, .ref oa), (4, .ref od)]) hx hb d_law_838 hl (by decide) rfl (fun ls hl => ?_)
  refine lv_aload_n hx hb d_law_840 rfl (lv_at hl 4 rfl) ?_
  refine lv_aload_n hx hb d_law_841 rfl (lv_at hl 2 rfl) ?_
  refine lv_iload hx hb d_law_842 (lv_at hl 1 rfl) ?_
  refine lv_iconst (v := 1) hx hb d_law_844 (by decide) ?_
  refine mv_iadd hx hb i 1 rfl rfl d_law_845 ?_
  refine mv_sld hx hb hX hbl hbA hS (i + 1) rfl (by omega) (by omega) d_law_846 ?_
  refine lv_i2d hx hb d_law_847 ?_
  refine lv_ldc2d (v := 4593671619917905920) hx hb hown (hg _ k_1019) d_law_848 ?_
  refine lv_dmul hx hb d_law_851 (sD_fx _).nn ?_
  refine ec_i (va_runV (As := [.double (FP.dmul (FP.i2d (xs (i + 1))) 4593671619917905920)]) (rest := []) ⟨hx, hb, hml, hown, hts⟩ (m_Mo_paint l G S0 Q hQ X zz d dp htr hmP hv0 hr0 (sD (xs (i + 1))) (sD_3 _)) (cwV 1 hts (gw_V k_956 k_957 k_958 k_67 k_959) rfl rfl rfl (by decide +kernel) ⟨Nat.le_of_ble_eq_true rfl, Nat.le_of_ble_eq_true rfl⟩) (eB.preV hE hI hS hz rfl (mw_o hQ)) rfl rfl hl.1 rfl (lv_room (Nat.le_of_ble_eq_true rfl)) d_law_852 ⟨hcN, hsN⟩) hS (fun b7 z2 H locs ez2 hI hsz hS => ?_)
  have em := ez2
  obtain ⟨ms2, d2, dp2, Y, fo2, fd2, ey, hLI, hthr, hA⟩ := ag_paint h er em
  rw [ey] at hI
  refine lv_istore (lv' := [(7, .int b7), (6, .int r6), (5, .int (nI i)), (0, .ref b), (1, .ref xo), (2, .ref (Q 25)), (3, .ref oa), (4, .ref od)]) hx hb d_law_855 hl (by decide) rfl (fun ls hl => ?_)
  refine lv_aload_n hx hb d_law_857 rfl (lv_at hl 5 rfl) ?_
  refine ec_i (va_runV (As := []) (rest := []) ⟨hx, hb, hml, hown, hts⟩ (m_Mo_thrown l G S0 Q hQ Y zz) (cwV 0 hts (gw_V k_859 k_860 k_861 k_67 k_862) rfl rfl rfl (by decide +kernel) ⟨Nat.le_of_ble_eq_true rfl, Nat.le_of_ble_eq_true rfl⟩) (eB.preV hE hI hS hz rfl (mw_o hQ)) rfl rfl hl.1 rfl (lv_room (Nat.le_of_ble_eq_true rfl)) d_law_858 ⟨hcN, hsN⟩) hS (fun t9 w_12 H locs ew_12 hI hsz hS => ?_)
  obtain ⟨et9, ew_12⟩ := ew_12
  have ew_12 := ew_12.symm
  subst ew_12
  rw [hthr] at et9
  subst et9
  refine lv_iload hx hb d_law_861 (lv_at hl 1 rfl) ?_
  refine lv_icmp_eq (tgt := 868) hx hb d_law_863 (by decide) (fun c9 => ?_) (fun c9 => absurd (rfl) c9)
  rw [← ey] at hI
  refine lv_iload hx hb d_law_868 (lv_at hl 1 rfl) ?_
  refine lv_if_ne (tgt := 885) hx hb d_law_870 (by decide) (fun c7 => ?_) (fun c7 => ?_)
  · refine lv_goto (tgt := 1270) hx hb d_law_885 (by decide) ?_
    exact K _ _ _ _ _ _ _ _ _ _ hLI (lv_sub hl [2, 3, 4, 5, 6, 7] rfl) hI hS
  · have hout := hLI.1.2.2.1
    refine lv_aload_n hx hb d_law_873 rfl (lv_at hl 6 rfl) ?_
    refine lv_iconst (v := 0) hx hb d_law_874 (by decide) ?_
    refine hp_lald hx hb hK hI 3 hout rfl (vp_in_nI (n := 0) (by decide) (by decide)) d_law_875 ?_
    refine lv_iload hx hb d_law_876 (lv_at hl 0 rfl) ?_
    refine lv_i2l hx hb d_law_878 rfl ?_
    refine W.lcmp hx hb d_law_879 ?_
    refine lv_if_eq (tgt := 885) hx hb d_law_880 (by decide) (fun c9 => ?_) (fun c9 => absurd ((show lg_cmp (fo2 0) b7.toInt64 = 0 by rw [show fo2 0 = b7.toInt64 from hA c7]; exact lg_same _)) c9)
    refine lv_goto (tgt := 1270) hx hb d_law_885 (by decide) ?_
    exact K _ _ _ _ _ _ _ _ _ _ hLI (lv_sub hl [2, 3, 4, 5, 6, 7] rfl) hI hS
set_option maxHeartbeats 4000000 in
set_option maxRecDepth 100000 in
theorem law_c11 {p : Program} {e : Env} {s : State} {m : MethodId} {below : List Frame} {meth : Method} {c : Code} {l : Launch} {b L : Nat} {xs : Nat → Int32} {G : EG} {S0 : Nat} {Q : Nat → Nat} {xo oa od : Nat} (C : lwC p s m meth c l b L xs G S0) (i : Nat) (hi : i + 4 < L) {H : Heap} {locs : List Loc} {ls : Array Slot} {w : hp_M} {ms : MS} {d : DS} {dp : Nat → Nat} {X : XS} {fo : Nat → Int64} {fd : Nat → UInt64} (h : LI G Q xo oa od w ms d dp X fo fd) (hl : lv_has ls 9 [(5, .int (nI i)), (0, .ref b), (1, .ref xo), (2, .ref (Q 25)), (3, .ref oa), (4, .ref od)]) (hI : eI G S0 w H) (hS : va_S (hp_A S0) s.heap H locs) {cN sN : Nat} (hcN : cN + 40 ≤ room_1.cells) (hsN : sN + 200 ≤ room_1.slots) (K : lwK p l e s m below meth c b G S0 Q xo oa od i cN sN) : W p l e room_1 s m #[Value.ref b] below meth c H locs cN sN (lw_Z below #[Value.ref b] s) (F0 m 888 ls []) := by
  obtain ⟨⟨hx, hb, hr, hml, hown, hts0, hX, hbl, hlocks, hgv⟩, hlt, hE, hN, eS0, hL⟩ := C
  have hg : ∀ w ∈ gw, w.before #[Value.ref b] s = true := fun w h => hts0 w (gw_lw h)
  have hts : ∀ w ∈ c_La_node :: gw, w.before #[Value.ref b] s = true := fun w h => (List.mem_cons.mp h).elim (fun e9 => by rw [e9]; exact hg _ kw_La_node) (hg w)
  have hK := hE.K
  have hz : S0 ≤ s.heap.size := Nat.le_of_eq eS0
  have hbA : ¬ hp_A S0 b := by rw [eS0]; exact Nat.not_le.mpr hbl
  obtain ⟨⟨⟨hxo, hpic, hno⟩, ⟨hQ, hqc, hqo⟩, hoa, hod, -⟩, htr, hv0, hr0, hmP⟩ := id h
  obtain ⟨L0, hO⟩ := hmP.2.1
  have hob := hpic.1
  have h00 := htr.1
  rw [hxo] at hob
  refine lv_aload_n hx hb d_law_888 rfl (lv_at hl 2 rfl) ?_
  refine lv_aload_n hx hb d_law_889 rfl (lv_at hl 1 rfl) ?_
  refine lv_iload hx hb d_law_890 (lv_at hl 0 rfl) ?_
  refine lv_iconst (v := 1) hx hb d_law_892 (by decide) ?_
  refine mv_iadd hx hb i 1 rfl rfl d_law_893 ?_
  refine mv_sld hx hb hX hbl hbA hS (i + 1) rfl (by omega) (by omega) d_law_894 ?_
  refine lv_aload_n hx hb d_law_895 rfl (lv_at hl 1 rfl) ?_
  refine lv_iload hx hb d_law_896 (lv_at hl 0 rfl) ?_
  refine lv_iconst (v := 2) hx hb d_law_898 (by decide) ?_
  refine mv_iadd hx hb i 2 rfl rfl d_law_899 ?_
  refine mv_sld hx hb hX hbl hbA hS (i + 2) rfl (by omega) (by omega) d_law_900 ?_
  refine lv_aload_n hx hb d_law_901 rfl (lv_at hl 4 rfl) ?_
  have hcon := m_Ea_cell l hlt G S0 w ms d hpic hno (xs (i + 1)) (xs (i + 2))
  rw [hxo] at hcon
  refine ec_i (vx_runSW (As := [.ref xo, .int (xs (i + 1)), .int (xs (i + 2)), .ref oa]) (rest := []) ⟨hx, hb, hml, hown, hts⟩ (m_La_cell l G S0 w xo (xs (i + 1)) (xs (i + 2)) _ hob _ _ oa fo (fun v u ⟨eu, _⟩ => by rw [eu]; exact hoa) hcon (fun E z hp => hp.1)) (vx_cwSW 4 hts (gw_S k_687 k_688 k_59 kw_La_cell) rfl rfl rfl (by decide +kernel) ⟨Nat.le_of_ble_eq_true rfl, Nat.le_of_ble_eq_true rfl⟩) (eB2.preS hE hI hS hz hN) rfl rfl hl.1 rfl (lv_room (Nat.le_of_ble_eq_true rfl)) d_law_902 ⟨hcN, hsN⟩) hS (fun r6 zz H locs ezz hI hsz hS => ?_)
  have er := ezz
  have hself : mW G Q X zz = zz := by
    rcases er with ⟨-, v, u, ⟨eu, -⟩, ez⟩ | ⟨-, -, ez, -⟩
    · rw [ez, eu]
      exact (h.1.out _).self
    · rw [ez]
      exact h.1.self
  have hI : eI G S0 (mW G Q X zz) H := by rw [hself]; exact hI
  refine lv_istore (lv' := [(6, .int r6), (5, .int (nI i)), (0, .ref b), (1, .ref xo), (2, .ref (Q 25)), (3, .ref oa), (4, .ref od)]) hx hb d_law_905 hl (by decide) rfl (fun ls hl => ?_)
  refine lv_aload_n hx hb d_law_907 rfl (lv_at hl 4 rfl) ?_
  refine lv_aload_n hx hb d_law_908 rfl (lv_at hl 2 rfl) ?_
  refine lv_iload hx hb d_law_909 (lv_at hl 1 rfl) ?_
  refine lv_iconst (v := 1) hx hb d_law_911 (by decide) ?_
  refine mv_iadd hx hb i 1 rfl rfl d_law_912 ?_
  refine mv_sld hx hb hX hbl hbA hS (i + 1) rfl (by omega) (by omega) d_law_913 ?_
  refine lv_aload_n hx hb d_law_914 rfl (lv_at hl 2 rfl) ?_
  refine lv_iload hx hb d_law_915 (lv_at hl 1 rfl) ?_
  refine lv_iconst (v := 2) hx hb d_law_917 (by decide) ?_
  refine mv_iadd hx hb i 2 rfl rfl d_law_918 ?_
  refine mv_sld hx hb hX hbl hbA hS (i + 2) rfl (by omega) (by omega) d_law_919 ?_
  refine ec_i (va_runV (As := [.int (xs (i + 1)), .int (xs (i + 2))]) (rest := []) ⟨hx, hb, hml, hown, hts⟩ (m_Mo_cell l G S0 Q hQ X zz (xs (i + 1)) (xs (i + 2))) (cwV 2 hts (gw_V k_980 k_981 k_982 k_67 k_983) rfl rfl rfl (by decide +kernel) ⟨Nat.le_of_ble_eq_true rfl, Nat.le_of_ble_eq_true rfl⟩) (eB.preV hE hI hS hz rfl (mw_o hQ)) rfl rfl hl.1 rfl (lv_room (Nat.le_of_ble_eq_true rfl)) d_law_920 ⟨hcN, hsN⟩) hS (fun b7 z2 H locs ez2 hI hsz hS => ?_)
  have em := ez2
  obtain ⟨ms2, d2, dp2, Y, fo2, fd2, ey, hLI, hthr, hA⟩ := ag_cell h er em
  rw [ey] at hI
  refine lv_istore (lv' := [(7, .int b7), (6, .int r6), (5, .int (nI i)), (0, .ref b), (1, .ref xo), (2, .ref (Q 25)), (3, .ref oa), (4, .ref od)]) hx hb d_law_923 hl (by decide) rfl (fun ls hl => ?_)
  refine lv_aload_n hx hb d_law_925 rfl (lv_at hl 5 rfl) ?_
  refine ec_i (va_runV (As := []) (rest := []) ⟨hx, hb, hml, hown, hts⟩ (m_Mo_thrown l G S0 Q hQ Y zz) (cwV 0 hts (gw_V k_859 k_860 k_861 k_67 k_862) rfl rfl rfl (by decide +kernel) ⟨Nat.le_of_ble_eq_true rfl, Nat.le_of_ble_eq_true rfl⟩) (eB.preV hE hI hS hz rfl (mw_o hQ)) rfl rfl hl.1 rfl (lv_room (Nat.le_of_ble_eq_true rfl)) d_law_926 ⟨hcN, hsN⟩) hS (fun t9 w_13 H locs ew_13 hI hsz hS => ?_)
  obtain ⟨et9, ew_13⟩ := ew_13
  have ew_13 := ew_13.symm
  subst ew_13
  rw [hthr] at et9
  subst et9
  refine lv_iload hx hb d_law_929 (lv_at hl 1 rfl) ?_
  refine lv_icmp_eq (tgt := 936) hx hb d_law_931 (by decide) (fun c9 => ?_) (fun c9 => absurd (rfl) c9)
  rw [← ey] at hI
  refine lv_iload hx hb d_law_936 (lv_at hl 1 rfl) ?_
  refine lv_if_ne (tgt := 953) hx hb d_law_938 (by decide) (fun c7 => ?_) (fun c7 => ?_)
  · refine lv_goto (tgt := 1270) hx hb d_law_953 (by decide) ?_
    exact K _ _ _ _ _ _ _ _ _ _ hLI (lv_sub hl [2, 3, 4, 5, 6, 7] rfl) hI hS
  · have hout := hLI.1.2.2.1
    refine lv_aload_n hx hb d_law_941 rfl (lv_at hl 6 rfl) ?_
    refine lv_iconst (v := 0) hx hb d_law_942 (by decide) ?_
    refine hp_lald hx hb hK hI 3 hout rfl (vp_in_nI (n := 0) (by decide) (by decide)) d_law_943 ?_
    refine lv_iload hx hb d_law_944 (lv_at hl 0 rfl) ?_
    refine lv_i2l hx hb d_law_946 rfl ?_
    refine W.lcmp hx hb d_law_947 ?_
    refine lv_if_eq (tgt := 953) hx hb d_law_948 (by decide) (fun c9 => ?_) (fun c9 => absurd ((show lg_cmp (fo2 0) b7.toInt64 = 0 by rw [show fo2 0 = b7.toInt64 from hA c7]; exact lg_same _)) c9)
    refine lv_goto (tgt := 1270) hx hb d_law_953 (by decide) ?_
    exact K _ _ _ _ _ _ _ _ _ _ hLI (lv_sub hl [2, 3, 4, 5, 6, 7] rfl) hI hS
set_option maxHeartbeats 4000000 in
set_option maxRecDepth 100000 in
theorem law_c12 {p : Program} {e : Env} {s : State} {m : MethodId} {below : List Frame} {meth : Method} {c : Code} {l : Launch} {b L : Nat} {xs : Nat → Int32} {G : EG} {S0 : Nat} {Q : Nat → Nat} {xo oa od : Nat} (C : lwC p s m meth c l b L xs G S0) (i : Nat) (hi : i + 4 < L) {H : Heap} {locs : List Loc} {ls : Array Slot} {w : hp_M} {ms : MS} {d : DS} {dp : Nat → Nat} {X : XS} {fo : Nat → Int64} {fd : Nat → UInt64} (h : LI G Q xo oa od w ms d dp X fo fd) (hl : lv_has ls 9 [(5, .int (nI i)), (0, .ref b), (1, .ref xo), (2, .ref (Q 25)), (3, .ref oa), (4, .ref od)]) (hI : eI G S0 w H) (hS : va_S (hp_A S0) s.heap H locs) {cN sN : Nat} (hcN : cN + 40 ≤ room_1.cells) (hsN : sN + 200 ≤ room_1.slots) (K : lwK p l e s m below meth c b G S0 Q xo oa od i cN sN) : W p l e room_1 s m #[Value.ref b] below meth c H locs cN sN (lw_Z below #[Value.ref b] s) (F0 m 956 ls []) := by
  obtain ⟨⟨hx, hb, hr, hml, hown, hts0, hX, hbl, hlocks, hgv⟩, hlt, hE, hN, eS0, hL⟩ := C
  have hg : ∀ w ∈ gw, w.before #[Value.ref b] s = true := fun w h => hts0 w (gw_lw h)
  have hts : ∀ w ∈ c_La_node :: gw, w.before #[Value.ref b] s = true := fun w h => (List.mem_cons.mp h).elim (fun e9 => by rw [e9]; exact hg _ kw_La_node) (hg w)
  have hK := hE.K
  have hz : S0 ≤ s.heap.size := Nat.le_of_eq eS0
  have hbA : ¬ hp_A S0 b := by rw [eS0]; exact Nat.not_le.mpr hbl
  obtain ⟨⟨⟨hxo, hpic, hno⟩, ⟨hQ, hqc, hqo⟩, hoa, hod, -⟩, htr, hv0, hr0, hmP⟩ := id h
  obtain ⟨L0, hO⟩ := hmP.2.1
  have hob := hpic.1
  have h00 := htr.1
  rw [hxo] at hob
  refine lv_aload_n hx hb d_law_956 rfl (lv_at hl 2 rfl) ?_
  refine lv_aload_n hx hb d_law_957 rfl (lv_at hl 1 rfl) ?_
  refine lv_iload hx hb d_law_958 (lv_at hl 0 rfl) ?_
  refine lv_iconst (v := 1) hx hb d_law_960 (by decide) ?_
  refine mv_iadd hx hb i 1 rfl rfl d_law_961 ?_
  refine mv_sld hx hb hX hbl hbA hS (i + 1) rfl (by omega) (by omega) d_law_962 ?_
  refine lv_i2d hx hb d_law_963 ?_
  refine lv_ldc2d (v := 4593671619917905920) hx hb hown (hg _ k_1019) d_law_964 ?_
  refine lv_dmul hx hb d_law_967 (sD_fx _).nn ?_
  refine lv_aload_n hx hb d_law_968 rfl (lv_at hl 1 rfl) ?_
  refine lv_iload hx hb d_law_969 (lv_at hl 0 rfl) ?_
  refine lv_iconst (v := 2) hx hb d_law_971 (by decide) ?_
  refine mv_iadd hx hb i 2 rfl rfl d_law_972 ?_
  refine mv_sld hx hb hX hbl hbA hS (i + 2) rfl (by omega) (by omega) d_law_973 ?_
  refine lv_i2d hx hb d_law_974 ?_
  refine lv_ldc2d (v := 4593671619917905920) hx hb hown (hg _ k_1019) d_law_975 ?_
  refine lv_dmul hx hb d_law_978 (sD_fx _).nn ?_
  refine lv_aload_n hx hb d_law_979 rfl (lv_at hl 1 rfl) ?_
  refine lv_iload hx hb d_law_980 (lv_at hl 0 rfl) ?_
  refine lv_iconst (v := 3) hx hb d_law_982 (by decide) ?_
  refine mv_iadd hx hb i 3 rfl rfl d_law_983 ?_
  refine mv_sld hx hb hX hbl hbA hS (i + 3) rfl (by omega) (by omega) d_law_984 ?_
  refine lv_i2d hx hb d_law_985 ?_
  refine lv_ldc2d (v := 4593671619917905920) hx hb hown (hg _ k_1019) d_law_986 ?_
  refine lv_dmul hx hb d_law_989 (sD_fx _).nn ?_
  refine lv_aload_n hx hb d_law_990 rfl (lv_at hl 4 rfl) ?_
  have hcon := m_Ea_top l hlt G S0 w ms d hpic hno dp htr hv0 (sD (xs (i + 1))) (sD (xs (i + 2))) (sD (xs (i + 3))) (sD_3 _) (sD_3 _) (sD_3 _)
  rw [hxo] at hcon
  refine ec_i (vx_runSW (As := [.ref xo, .double (FP.dmul (FP.i2d (xs (i + 1))) 4593671619917905920), .double (FP.dmul (FP.i2d (xs (i + 2))) 4593671619917905920), .double (FP.dmul (FP.i2d (xs (i + 3))) 4593671619917905920), .ref oa]) (rest := []) ⟨hx, hb, hml, hown, hts⟩ (m_La_top l G S0 w xo (sD (xs (i + 1))) (sD (xs (i + 2))) (sD (xs (i + 3))) _ hob _ _ oa fo (fun v u ⟨_, _, _, _, hp⟩ => (h.1.pub hp).elim (fun _ h9 => h9.2.2.1)) hcon (fun E z hp => hp.2.elim (fun q => Or.inl q.1) (fun q => Or.inr q.1))) (vx_cwSW 5 hts (gw_S k_694 k_695 k_59 kw_La_top) rfl rfl rfl (by decide +kernel) ⟨Nat.le_of_ble_eq_true rfl, Nat.le_of_ble_eq_true rfl⟩) (eB2.preS hE hI hS hz hN) rfl rfl hl.1 rfl (lv_room (Nat.le_of_ble_eq_true rfl)) d_law_991 ⟨hcN, hsN⟩) hS (fun r6 zz H locs ezz hI hsz hS => ?_)
  have er := ezz
  have hself : mW G Q X zz = zz := by
    rcases er with ⟨-, v, u, ⟨-, -, -, -, hp⟩, ez⟩ | ⟨-, hp, -⟩ | ⟨-, hp, -⟩
    · obtain ⟨ms9, h9⟩ := h.1.pub hp
      rw [ez]
      exact (h9.out _).self
    · obtain ⟨ms9, h9⟩ := h.1.pub hp
      exact h9.self
    · obtain ⟨ms9, h9⟩ := h.1.pub hp
      exact h9.self
  have hI : eI G S0 (mW G Q X zz) H := by rw [hself]; exact hI
  refine lv_istore (lv' := [(6, .int r6), (5, .int (nI i)), (0, .ref b), (1, .ref xo), (2, .ref (Q 25)), (3, .ref oa), (4, .ref od)]) hx hb d_law_994 hl (by decide) rfl (fun ls hl => ?_)
  refine lv_aload_n hx hb d_law_996 rfl (lv_at hl 4 rfl) ?_
  refine lv_aload_n hx hb d_law_997 rfl (lv_at hl 2 rfl) ?_
  refine lv_iload hx hb d_law_998 (lv_at hl 1 rfl) ?_
  refine lv_iconst (v := 1) hx hb d_law_1000 (by decide) ?_
  refine mv_iadd hx hb i 1 rfl rfl d_law_1001 ?_
  refine mv_sld hx hb hX hbl hbA hS (i + 1) rfl (by omega) (by omega) d_law_1002 ?_
  refine lv_i2d hx hb d_law_1003 ?_
  refine lv_ldc2d (v := 4593671619917905920) hx hb hown (hg _ k_1019) d_law_1004 ?_
  refine lv_dmul hx hb d_law_1007 (sD_fx _).nn ?_
  refine lv_aload_n hx hb d_law_1008 rfl (lv_at hl 2 rfl) ?_
  refine lv_iload hx hb d_law_1009 (lv_at hl 1 rfl) ?_
  refine lv_iconst (v := 2) hx hb d_law_1011 (by decide) ?_
  refine mv_iadd hx hb i 2 rfl rfl d_law_1012 ?_
  refine mv_sld hx hb hX hbl hbA hS (i + 2) rfl (by omega) (by omega) d_law_1013 ?_
  refine lv_i2d hx hb d_law_1014 ?_
  refine lv_ldc2d (v := 4593671619917905920) hx hb hown (hg _ k_1019) d_law_1015 ?_
  refine lv_dmul hx hb d_law_1018 (sD_fx _).nn ?_
  refine lv_aload_n hx hb d_law_1019 rfl (lv_at hl 2 rfl) ?_
  refine lv_iload hx hb d_law_1020 (lv_at hl 1 rfl) ?_
  refine lv_iconst (v := 3) hx hb d_law_1022 (by decide) ?_
  refine mv_iadd hx hb i 3 rfl rfl d_law_1023 ?_
  refine mv_sld hx hb hX hbl hbA hS (i + 3) rfl (by omega) (by omega) d_law_1024 ?_
  refine lv_i2d hx hb d_law_1025 ?_
  refine lv_ldc2d (v := 4593671619917905920) hx hb hown (hg _ k_1019) d_law_1026 ?_
  refine lv_dmul hx hb d_law_1029 (sD_fx _).nn ?_
  refine ec_i (va_runV (As := [.double (FP.dmul (FP.i2d (xs (i + 1))) 4593671619917905920), .double (FP.dmul (FP.i2d (xs (i + 2))) 4593671619917905920), .double (FP.dmul (FP.i2d (xs (i + 3))) 4593671619917905920)]) (rest := []) ⟨hx, hb, hml, hown, hts⟩ (m_Mo_top l G S0 Q hQ X zz d dp htr hmP hv0 hr0 (sD (xs (i + 1))) (sD (xs (i + 2))) (sD (xs (i + 3))) (sD_3 _) (sD_3 _) (sD_3 _)) (cwV 3 hts (gw_V k_984 k_985 k_986 k_67 k_987) rfl rfl rfl (by decide +kernel) ⟨Nat.le_of_ble_eq_true rfl, Nat.le_of_ble_eq_true rfl⟩) (eB.preV hE hI hS hz rfl (mw_o hQ)) rfl rfl hl.1 rfl (lv_room (Nat.le_of_ble_eq_true rfl)) d_law_1030 ⟨hcN, hsN⟩) hS (fun b7 z2 H locs ez2 hI hsz hS => ?_)
  have em := ez2
  obtain ⟨ms2, d2, dp2, Y, fo2, fd2, ey, hLI, hthr, hA⟩ := ag_top h er em
  rw [ey] at hI
  refine lv_istore (lv' := [(7, .int b7), (6, .int r6), (5, .int (nI i)), (0, .ref b), (1, .ref xo), (2, .ref (Q 25)), (3, .ref oa), (4, .ref od)]) hx hb d_law_1033 hl (by decide) rfl (fun ls hl => ?_)
  refine lv_aload_n hx hb d_law_1035 rfl (lv_at hl 5 rfl) ?_
  refine ec_i (va_runV (As := []) (rest := []) ⟨hx, hb, hml, hown, hts⟩ (m_Mo_thrown l G S0 Q hQ Y zz) (cwV 0 hts (gw_V k_859 k_860 k_861 k_67 k_862) rfl rfl rfl (by decide +kernel) ⟨Nat.le_of_ble_eq_true rfl, Nat.le_of_ble_eq_true rfl⟩) (eB.preV hE hI hS hz rfl (mw_o hQ)) rfl rfl hl.1 rfl (lv_room (Nat.le_of_ble_eq_true rfl)) d_law_1036 ⟨hcN, hsN⟩) hS (fun t9 w_14 H locs ew_14 hI hsz hS => ?_)
  obtain ⟨et9, ew_14⟩ := ew_14
  have ew_14 := ew_14.symm
  subst ew_14
  rw [hthr] at et9
  subst et9
  refine lv_iload hx hb d_law_1039 (lv_at hl 1 rfl) ?_
  refine lv_icmp_eq (tgt := 1046) hx hb d_law_1041 (by decide) (fun c9 => ?_) (fun c9 => absurd (rfl) c9)
  rw [← ey] at hI
  refine lv_iload hx hb d_law_1046 (lv_at hl 1 rfl) ?_
  refine lv_if_ne (tgt := 1063) hx hb d_law_1048 (by decide) (fun c7 => ?_) (fun c7 => ?_)
  · refine lv_goto (tgt := 1270) hx hb d_law_1063 (by decide) ?_
    exact K _ _ _ _ _ _ _ _ _ _ hLI (lv_sub hl [2, 3, 4, 5, 6, 7] rfl) hI hS
  · have hout := hLI.1.2.2.1
    refine lv_aload_n hx hb d_law_1051 rfl (lv_at hl 6 rfl) ?_
    refine lv_iconst (v := 0) hx hb d_law_1052 (by decide) ?_
    refine hp_lald hx hb hK hI 3 hout rfl (vp_in_nI (n := 0) (by decide) (by decide)) d_law_1053 ?_
    refine lv_iload hx hb d_law_1054 (lv_at hl 0 rfl) ?_
    refine lv_i2l hx hb d_law_1056 rfl ?_
    refine W.lcmp hx hb d_law_1057 ?_
    refine lv_if_eq (tgt := 1063) hx hb d_law_1058 (by decide) (fun c9 => ?_) (fun c9 => absurd ((show lg_cmp (fo2 0) b7.toInt64 = 0 by rw [show fo2 0 = b7.toInt64 from hA c7]; exact lg_same _)) c9)
    refine lv_goto (tgt := 1270) hx hb d_law_1063 (by decide) ?_
    exact K _ _ _ _ _ _ _ _ _ _ hLI (lv_sub hl [2, 3, 4, 5, 6, 7] rfl) hI hS
set_option maxHeartbeats 4000000 in
set_option maxRecDepth 100000 in
theorem law_c13 {p : Program} {e : Env} {s : State} {m : MethodId} {below : List Frame} {meth : Method} {c : Code} {l : Launch} {b L : Nat} {xs : Nat → Int32} {G : EG} {S0 : Nat} {Q : Nat → Nat} {xo oa od : Nat} (C : lwC p s m meth c l b L xs G S0) (i : Nat) (hi : i + 4 < L) {H : Heap} {locs : List Loc} {ls : Array Slot} {w : hp_M} {ms : MS} {d : DS} {dp : Nat → Nat} {X : XS} {fo : Nat → Int64} {fd : Nat → UInt64} (h : LI G Q xo oa od w ms d dp X fo fd) (hl : lv_has ls 9 [(5, .int (nI i)), (0, .ref b), (1, .ref xo), (2, .ref (Q 25)), (3, .ref oa), (4, .ref od)]) (hI : eI G S0 w H) (hS : va_S (hp_A S0) s.heap H locs) {cN sN : Nat} (hcN : cN + 40 ≤ room_1.cells) (hsN : sN + 200 ≤ room_1.slots) (K : lwK p l e s m below meth c b G S0 Q xo oa od i cN sN) : W p l e room_1 s m #[Value.ref b] below meth c H locs cN sN (lw_Z below #[Value.ref b] s) (F0 m 1066 ls []) := by
  obtain ⟨⟨hx, hb, hr, hml, hown, hts0, hX, hbl, hlocks, hgv⟩, hlt, hE, hN, eS0, hL⟩ := C
  have hg : ∀ w ∈ gw, w.before #[Value.ref b] s = true := fun w h => hts0 w (gw_lw h)
  have hts : ∀ w ∈ c_La_node :: gw, w.before #[Value.ref b] s = true := fun w h => (List.mem_cons.mp h).elim (fun e9 => by rw [e9]; exact hg _ kw_La_node) (hg w)
  have hK := hE.K
  have hz : S0 ≤ s.heap.size := Nat.le_of_eq eS0
  have hbA : ¬ hp_A S0 b := by rw [eS0]; exact Nat.not_le.mpr hbl
  obtain ⟨⟨⟨hxo, hpic, hno⟩, ⟨hQ, hqc, hqo⟩, hoa, hod, -⟩, htr, hv0, hr0, hmP⟩ := id h
  obtain ⟨L0, hO⟩ := hmP.2.1
  have hob := hpic.1
  have h00 := htr.1
  rw [hxo] at hob
  refine lv_aload_n hx hb d_law_1066 rfl (lv_at hl 2 rfl) ?_
  refine lv_aload_n hx hb d_law_1067 rfl (lv_at hl 1 rfl) ?_
  refine lv_iload hx hb d_law_1068 (lv_at hl 0 rfl) ?_
  refine lv_iconst (v := 1) hx hb d_law_1070 (by decide) ?_
  refine mv_iadd hx hb i 1 rfl rfl d_law_1071 ?_
  refine mv_sld hx hb hX hbl hbA hS (i + 1) rfl (by omega) (by omega) d_law_1072 ?_
  refine lv_aload_n hx hb d_law_1073 rfl (lv_at hl 1 rfl) ?_
  refine lv_iload hx hb d_law_1074 (lv_at hl 0 rfl) ?_
  refine lv_iconst (v := 2) hx hb d_law_1076 (by decide) ?_
  refine mv_iadd hx hb i 2 rfl rfl d_law_1077 ?_
  refine mv_sld hx hb hX hbl hbA hS (i + 2) rfl (by omega) (by omega) d_law_1078 ?_
  refine lv_aload_n hx hb d_law_1079 rfl (lv_at hl 1 rfl) ?_
  refine lv_iload hx hb d_law_1080 (lv_at hl 0 rfl) ?_
  refine lv_iconst (v := 3) hx hb d_law_1082 (by decide) ?_
  refine mv_iadd hx hb i 3 rfl rfl d_law_1083 ?_
  refine mv_sld hx hb hX hbl hbA hS (i + 3) rfl (by omega) (by omega) d_law_1084 ?_
  refine lv_i2d hx hb d_law_1085 ?_
  refine lv_ldc2d (v := 4593671619917905920) hx hb hown (hg _ k_1019) d_law_1086 ?_
  refine lv_dmul hx hb d_law_1089 (sD_fx _).nn ?_
  refine lv_aload hx hb d_law_1090 (lv_at hl 5 rfl) ?_
  have hcon := m_Ea_around l hlt G S0 w ms d hpic hno dp htr hv0 (xs (i + 1)) (xs (i + 2)) (sD (xs (i + 3))) (sD_3 _)
  rw [hxo] at hcon
  refine ec_i (vx_runSW (As := [.ref xo, .int (xs (i + 1)), .int (xs (i + 2)), .double (FP.dmul (FP.i2d (xs (i + 3))) 4593671619917905920), .ref od]) (rest := []) ⟨hx, hb, hml, hown, hts⟩ (m_La_around l G S0 w xo (xs (i + 1)) (xs (i + 2)) (sD (xs (i + 3))) _ hob _ _ od fd (fun v u ⟨k, j9, q9, _, _, _, _, _, _, _, _, hp⟩ => (h.1.pub hp).elim (fun _ h9 => h9.2.2.2.1)) hcon (fun E z hp => hp.2.elim (fun q => Or.inl q.1) (fun q => Or.inr q.1))) (vx_cwSW 5 hts (gw_S k_703 k_704 k_59 kw_La_around) rfl rfl rfl (by decide +kernel) ⟨Nat.le_of_ble_eq_true rfl, Nat.le_of_ble_eq_true rfl⟩) (eB2.preS hE hI hS hz hN) rfl rfl hl.1 rfl (lv_room (Nat.le_of_ble_eq_true rfl)) d_law_1092 ⟨hcN, hsN⟩) hS (fun r6 zz H locs ezz hI hsz hS => ?_)
  have er := ezz
  have hself : mW G Q X zz = zz := by
    rcases er with ⟨-, v, u, ⟨k, j9, q9, -, -, -, -, -, -, -, -, hp⟩, ez⟩ | ⟨-, hp, -⟩ | ⟨-, hp, -⟩
    · obtain ⟨ms9, h9⟩ := h.1.pub hp
      rw [ez]
      exact (h9.outD _).self
    · obtain ⟨ms9, h9⟩ := h.1.pub hp
      exact h9.self
    · obtain ⟨ms9, h9⟩ := h.1.pub hp
      exact h9.self
  have hI : eI G S0 (mW G Q X zz) H := by rw [hself]; exact hI
  refine lv_istore (lv' := [(6, .int r6), (5, .int (nI i)), (0, .ref b), (1, .ref xo), (2, .ref (Q 25)), (3, .ref oa), (4, .ref od)]) hx hb d_law_1095 hl (by decide) rfl (fun ls hl => ?_)
  refine lv_aload_n hx hb d_law_1097 rfl (lv_at hl 4 rfl) ?_
  refine lv_aload_n hx hb d_law_1098 rfl (lv_at hl 2 rfl) ?_
  refine lv_iload hx hb d_law_1099 (lv_at hl 1 rfl) ?_
  refine lv_iconst (v := 1) hx hb d_law_1101 (by decide) ?_
  refine mv_iadd hx hb i 1 rfl rfl d_law_1102 ?_
  refine mv_sld hx hb hX hbl hbA hS (i + 1) rfl (by omega) (by omega) d_law_1103 ?_
  refine lv_aload_n hx hb d_law_1104 rfl (lv_at hl 2 rfl) ?_
  refine lv_iload hx hb d_law_1105 (lv_at hl 1 rfl) ?_
  refine lv_iconst (v := 2) hx hb d_law_1107 (by decide) ?_
  refine mv_iadd hx hb i 2 rfl rfl d_law_1108 ?_
  refine mv_sld hx hb hX hbl hbA hS (i + 2) rfl (by omega) (by omega) d_law_1109 ?_
  refine lv_aload_n hx hb d_law_1110 rfl (lv_at hl 2 rfl) ?_
  refine lv_iload hx hb d_law_1111 (lv_at hl 1 rfl) ?_
  refine lv_iconst (v := 3) hx hb d_law_1113 (by decide) ?_
  refine mv_iadd hx hb i 3 rfl rfl d_law_1114 ?_
  refine mv_sld hx hb hX hbl hbA hS (i + 3) rfl (by omega) (by omega) d_law_1115 ?_
  refine lv_i2d hx hb d_law_1116 ?_
  refine lv_ldc2d (v := 4593671619917905920) hx hb hown (hg _ k_1019) d_law_1117 ?_
  refine lv_dmul hx hb d_law_1120 (sD_fx _).nn ?_
  refine ec_d (va_runV (As := [.int (xs (i + 1)), .int (xs (i + 2)), .double (FP.dmul (FP.i2d (xs (i + 3))) 4593671619917905920)]) (rest := []) ⟨hx, hb, hml, hown, hts⟩ (m_Mo_around l G S0 Q hQ X zz d dp htr hmP hv0 hr0 (xs (i + 1)) (xs (i + 2)) (sD (xs (i + 3))) (sD_3 _)) (cwV 3 hts (gw_V k_989 k_990 k_991 k_67 k_992) rfl rfl rfl (by decide +kernel) ⟨Nat.le_of_ble_eq_true rfl, Nat.le_of_ble_eq_true rfl⟩) (eB.preV hE hI hS hz rfl (mw_o hQ)) rfl rfl hl.1 rfl (lv_room (Nat.le_of_ble_eq_true rfl)) d_law_1121 ⟨hcN, hsN⟩) hS (fun b7 z2 H locs ez2 hI hsz hS => ?_)
  have em := ez2
  obtain ⟨ms2, d2, dp2, Y, fo2, fd2, ey, hLI, hthr, hA⟩ := ag_around h er em
  rw [ey] at hI
  refine lv_dstore (lv' := [(7, .double b7), (6, .int r6), (5, .int (nI i)), (0, .ref b), (1, .ref xo), (2, .ref (Q 25)), (3, .ref oa), (4, .ref od)]) hx hb d_law_1124 hl (by decide) rfl (fun ls hl => ?_)
  refine lv_aload_n hx hb d_law_1126 rfl (lv_at hl 5 rfl) ?_
  refine ec_i (va_runV (As := []) (rest := []) ⟨hx, hb, hml, hown, hts⟩ (m_Mo_thrown l G S0 Q hQ Y zz) (cwV 0 hts (gw_V k_859 k_860 k_861 k_67 k_862) rfl rfl rfl (by decide +kernel) ⟨Nat.le_of_ble_eq_true rfl, Nat.le_of_ble_eq_true rfl⟩) (eB.preV hE hI hS hz rfl (mw_o hQ)) rfl rfl hl.1 rfl (lv_room (Nat.le_of_ble_eq_true rfl)) d_law_1127 ⟨hcN, hsN⟩) hS (fun t9 w_15 H locs ew_15 hI hsz hS => ?_)
  obtain ⟨et9, ew_15⟩ := ew_15
  have ew_15 := ew_15.symm
  subst ew_15
  rw [hthr] at et9
  subst et9
  refine lv_iload hx hb d_law_1130 (lv_at hl 1 rfl) ?_
  refine lv_icmp_eq (tgt := 1137) hx hb d_law_1132 (by decide) (fun c9 => ?_) (fun c9 => absurd (rfl) c9)
  rw [← ey] at hI
  refine lv_iload hx hb d_law_1137 (lv_at hl 1 rfl) ?_
  refine lv_if_ne (tgt := 1174) hx hb d_law_1139 (by decide) (fun c7 => ?_) (fun c7 => ?_)
  · refine lv_goto (tgt := 1270) hx hb d_law_1174 (by decide) ?_
    exact K _ _ _ _ _ _ _ _ _ _ hLI (lv_sub hl [2, 3, 4, 5, 6, 7] rfl) hI hS
  · have hout := hLI.1.2.2.2.1
    refine lv_aload hx hb d_law_1142 (lv_at hl 7 rfl) ?_
    refine lv_iconst (v := 0) hx hb d_law_1144 (by decide) ?_
    refine hp_dald hx hb hK hI 1 hout rfl (vp_in_nI (n := 0) (by decide) (by decide)) d_law_1145 ?_
    refine lv_dload hx hb d_law_1146 (lv_at hl 0 rfl) ?_
    refine lv_dcmp hx hb d_law_1148 ?_
    refine lv_if_eq (tgt := 1174) hx hb d_law_1149 (by decide) (fun c9 => ?_) (fun c9 => absurd ((cv_l_eq.mpr (hA c7))) c9)
    refine lv_goto (tgt := 1270) hx hb d_law_1174 (by decide) ?_
    exact K _ _ _ _ _ _ _ _ _ _ hLI (lv_sub hl [2, 3, 4, 5, 6, 7] rfl) hI hS
set_option maxHeartbeats 4000000 in
set_option maxRecDepth 100000 in
theorem law_c14 {p : Program} {e : Env} {s : State} {m : MethodId} {below : List Frame} {meth : Method} {c : Code} {l : Launch} {b L : Nat} {xs : Nat → Int32} {G : EG} {S0 : Nat} {Q : Nat → Nat} {xo oa od : Nat} (C : lwC p s m meth c l b L xs G S0) (i : Nat) (hi : i + 4 < L) {H : Heap} {locs : List Loc} {ls : Array Slot} {w : hp_M} {ms : MS} {d : DS} {dp : Nat → Nat} {X : XS} {fo : Nat → Int64} {fd : Nat → UInt64} (h : LI G Q xo oa od w ms d dp X fo fd) (hl : lv_has ls 9 [(5, .int (nI i)), (0, .ref b), (1, .ref xo), (2, .ref (Q 25)), (3, .ref oa), (4, .ref od)]) (hI : eI G S0 w H) (hS : va_S (hp_A S0) s.heap H locs) {cN sN : Nat} (hcN : cN + 40 ≤ room_1.cells) (hsN : sN + 200 ≤ room_1.slots) (K : lwK p l e s m below meth c b G S0 Q xo oa od i cN sN) : W p l e room_1 s m #[Value.ref b] below meth c H locs cN sN (lw_Z below #[Value.ref b] s) (F0 m 1177 ls []) := by
  obtain ⟨⟨hx, hb, hr, hml, hown, hts0, hX, hbl, hlocks, hgv⟩, hlt, hE, hN, eS0, hL⟩ := C
  have hg : ∀ w ∈ gw, w.before #[Value.ref b] s = true := fun w h => hts0 w (gw_lw h)
  have hts : ∀ w ∈ c_La_node :: gw, w.before #[Value.ref b] s = true := fun w h => (List.mem_cons.mp h).elim (fun e9 => by rw [e9]; exact hg _ kw_La_node) (hg w)
  have hK := hE.K
  have hz : S0 ≤ s.heap.size := Nat.le_of_eq eS0
  have hbA : ¬ hp_A S0 b := by rw [eS0]; exact Nat.not_le.mpr hbl
  obtain ⟨⟨⟨hxo, hpic, hno⟩, ⟨hQ, hqc, hqo⟩, hoa, hod, -⟩, htr, hv0, hr0, hmP⟩ := id h
  obtain ⟨L0, hO⟩ := hmP.2.1
  have hob := hpic.1
  have h00 := htr.1
  rw [hxo] at hob
  refine lv_aload_n hx hb d_law_1177 rfl (lv_at hl 2 rfl) ?_
  refine lv_aload_n hx hb d_law_1178 rfl (lv_at hl 1 rfl) ?_
  refine lv_iload hx hb d_law_1179 (lv_at hl 0 rfl) ?_
  refine lv_iconst (v := 1) hx hb d_law_1181 (by decide) ?_
  refine mv_iadd hx hb i 1 rfl rfl d_law_1182 ?_
  refine mv_sld hx hb hX hbl hbA hS (i + 1) rfl (by omega) (by omega) d_law_1183 ?_
  refine lv_aload_n hx hb d_law_1184 rfl (lv_at hl 1 rfl) ?_
  refine lv_iload hx hb d_law_1185 (lv_at hl 0 rfl) ?_
  refine lv_iconst (v := 2) hx hb d_law_1187 (by decide) ?_
  refine mv_iadd hx hb i 2 rfl rfl d_law_1188 ?_
  refine mv_sld hx hb hX hbl hbA hS (i + 2) rfl (by omega) (by omega) d_law_1189 ?_
  refine lv_aload_n hx hb d_law_1190 rfl (lv_at hl 4 rfl) ?_
  have hcon := m_Ea_told l hlt G S0 w ms d hpic hno dp htr (xs (i + 1)) (xs (i + 2))
  rw [hxo] at hcon
  refine ec_i (vx_runSW (As := [.ref xo, .int (xs (i + 1)), .int (xs (i + 2)), .ref oa]) (rest := []) ⟨hx, hb, hml, hown, hts⟩ (m_La_told l G S0 w xo (xs (i + 1)) (xs (i + 2)) _ hob _ _ oa fo (fun v u ⟨eu, _⟩ => by rw [eu]; exact hoa) hcon (fun E z hp => hp.1)) (vx_cwSW 4 hts (gw_S k_754 k_755 k_59 kw_La_told) rfl rfl rfl (by decide +kernel) ⟨Nat.le_of_ble_eq_true rfl, Nat.le_of_ble_eq_true rfl⟩) (eB2.preS hE hI hS hz hN) rfl rfl hl.1 rfl (lv_room (Nat.le_of_ble_eq_true rfl)) d_law_1191 ⟨hcN, hsN⟩) hS (fun r6 zz H locs ezz hI hsz hS => ?_)
  have er := ezz
  have hself : mW G Q X zz = zz := by
    rcases er with ⟨-, v, u, ⟨eu, -⟩, ez⟩ | ⟨-, -, ez, -⟩
    · rw [ez, eu]
      exact (h.1.out _).self
    · rw [ez]
      exact h.1.self
  have hI : eI G S0 (mW G Q X zz) H := by rw [hself]; exact hI
  refine lv_istore (lv' := [(6, .int r6), (5, .int (nI i)), (0, .ref b), (1, .ref xo), (2, .ref (Q 25)), (3, .ref oa), (4, .ref od)]) hx hb d_law_1194 hl (by decide) rfl (fun ls hl => ?_)
  refine lv_aload_n hx hb d_law_1196 rfl (lv_at hl 4 rfl) ?_
  refine lv_aload_n hx hb d_law_1197 rfl (lv_at hl 2 rfl) ?_
  refine lv_iload hx hb d_law_1198 (lv_at hl 1 rfl) ?_
  refine lv_iconst (v := 1) hx hb d_law_1200 (by decide) ?_
  refine mv_iadd hx hb i 1 rfl rfl d_law_1201 ?_
  refine mv_sld hx hb hX hbl hbA hS (i + 1) rfl (by omega) (by omega) d_law_1202 ?_
  refine lv_aload_n hx hb d_law_1203 rfl (lv_at hl 2 rfl) ?_
  refine lv_iload hx hb d_law_1204 (lv_at hl 1 rfl) ?_
  refine lv_iconst (v := 2) hx hb d_law_1206 (by decide) ?_
  refine mv_iadd hx hb i 2 rfl rfl d_law_1207 ?_
  refine mv_sld hx hb hX hbl hbA hS (i + 2) rfl (by omega) (by omega) d_law_1208 ?_
  refine ec_i (va_runV (As := [.int (xs (i + 1)), .int (xs (i + 2))]) (rest := []) ⟨hx, hb, hml, hown, hts⟩ (m_Mo_told l G S0 Q hQ X zz d hmP.1 dp htr (xs (i + 1)) (xs (i + 2))) (cwV 2 hts (gw_V k_1007 k_1008 k_1009 k_67 k_1010) rfl rfl rfl (by decide +kernel) ⟨Nat.le_of_ble_eq_true rfl, Nat.le_of_ble_eq_true rfl⟩) (eB.preV hE hI hS hz rfl (mw_o hQ)) rfl rfl hl.1 rfl (lv_room (Nat.le_of_ble_eq_true rfl)) d_law_1209 ⟨hcN, hsN⟩) hS (fun b7 z2 H locs ez2 hI hsz hS => ?_)
  have em := ez2
  obtain ⟨ms2, d2, dp2, Y, fo2, fd2, ey, hLI, hthr, hA⟩ := ag_told h er em
  rw [ey] at hI
  refine lv_istore (lv' := [(7, .int b7), (6, .int r6), (5, .int (nI i)), (0, .ref b), (1, .ref xo), (2, .ref (Q 25)), (3, .ref oa), (4, .ref od)]) hx hb d_law_1212 hl (by decide) rfl (fun ls hl => ?_)
  refine lv_aload_n hx hb d_law_1214 rfl (lv_at hl 5 rfl) ?_
  refine ec_i (va_runV (As := []) (rest := []) ⟨hx, hb, hml, hown, hts⟩ (m_Mo_thrown l G S0 Q hQ Y zz) (cwV 0 hts (gw_V k_859 k_860 k_861 k_67 k_862) rfl rfl rfl (by decide +kernel) ⟨Nat.le_of_ble_eq_true rfl, Nat.le_of_ble_eq_true rfl⟩) (eB.preV hE hI hS hz rfl (mw_o hQ)) rfl rfl hl.1 rfl (lv_room (Nat.le_of_ble_eq_true rfl)) d_law_1215 ⟨hcN, hsN⟩) hS (fun t9 w_16 H locs ew_16 hI hsz hS => ?_)
  obtain ⟨et9, ew_16⟩ := ew_16
  have ew_16 := ew_16.symm
  subst ew_16
  rw [hthr] at et9
  subst et9
  refine lv_iload hx hb d_law_1218 (lv_at hl 1 rfl) ?_
  refine lv_icmp_eq (tgt := 1225) hx hb d_law_1220 (by decide) (fun c9 => ?_) (fun c9 => absurd (rfl) c9)
  rw [← ey] at hI
  refine lv_iload hx hb d_law_1225 (lv_at hl 1 rfl) ?_
  refine lv_if_ne (tgt := 1242) hx hb d_law_1227 (by decide) (fun c7 => ?_) (fun c7 => ?_)
  · refine lv_goto (tgt := 1270) hx hb d_law_1242 (by decide) ?_
    exact K _ _ _ _ _ _ _ _ _ _ hLI (lv_sub hl [2, 3, 4, 5, 6, 7] rfl) hI hS
  · have hout := hLI.1.2.2.1
    refine lv_aload_n hx hb d_law_1230 rfl (lv_at hl 6 rfl) ?_
    refine lv_iconst (v := 0) hx hb d_law_1231 (by decide) ?_
    refine hp_lald hx hb hK hI 3 hout rfl (vp_in_nI (n := 0) (by decide) (by decide)) d_law_1232 ?_
    refine lv_iload hx hb d_law_1233 (lv_at hl 0 rfl) ?_
    refine lv_i2l hx hb d_law_1235 rfl ?_
    refine W.lcmp hx hb d_law_1236 ?_
    refine lv_if_eq (tgt := 1242) hx hb d_law_1237 (by decide) (fun c9 => ?_) (fun c9 => absurd ((show lg_cmp (fo2 0) b7.toInt64 = 0 by rw [show fo2 0 = b7.toInt64 from hA c7]; exact lg_same _)) c9)
    refine lv_goto (tgt := 1270) hx hb d_law_1242 (by decide) ?_
    exact K _ _ _ _ _ _ _ _ _ _ hLI (lv_sub hl [2, 3, 4, 5, 6, 7] rfl) hI hS
set_option maxHeartbeats 4000000 in
set_option maxRecDepth 100000 in
theorem law_c15 {p : Program} {e : Env} {s : State} {m : MethodId} {below : List Frame} {meth : Method} {c : Code} {l : Launch} {b L : Nat} {xs : Nat → Int32} {G : EG} {S0 : Nat} {Q : Nat → Nat} {xo oa od : Nat} (C : lwC p s m meth c l b L xs G S0) (i : Nat) (hi : i + 4 < L) {H : Heap} {locs : List Loc} {ls : Array Slot} {w : hp_M} {ms : MS} {d : DS} {dp : Nat → Nat} {X : XS} {fo : Nat → Int64} {fd : Nat → UInt64} (h : LI G Q xo oa od w ms d dp X fo fd) (hl : lv_has ls 9 [(5, .int (nI i)), (0, .ref b), (1, .ref xo), (2, .ref (Q 25)), (3, .ref oa), (4, .ref od)]) (hI : eI G S0 w H) (hS : va_S (hp_A S0) s.heap H locs) {cN sN : Nat} (hcN : cN + 40 ≤ room_1.cells) (hsN : sN + 200 ≤ room_1.slots) (K : lwK p l e s m below meth c b G S0 Q xo oa od i cN sN) : W p l e room_1 s m #[Value.ref b] below meth c H locs cN sN (lw_Z below #[Value.ref b] s) (F0 m 1245 ls []) := by
  obtain ⟨⟨hx, hb, hr, hml, hown, hts0, hX, hbl, hlocks, hgv⟩, hlt, hE, hN, eS0, hL⟩ := C
  have hg : ∀ w ∈ gw, w.before #[Value.ref b] s = true := fun w h => hts0 w (gw_lw h)
  have hts : ∀ w ∈ c_La_node :: gw, w.before #[Value.ref b] s = true := fun w h => (List.mem_cons.mp h).elim (fun e9 => by rw [e9]; exact hg _ kw_La_node) (hg w)
  have hK := hE.K
  have hz : S0 ≤ s.heap.size := Nat.le_of_eq eS0
  have hbA : ¬ hp_A S0 b := by rw [eS0]; exact Nat.not_le.mpr hbl
  obtain ⟨⟨⟨hxo, hpic, hno⟩, ⟨hQ, hqc, hqo⟩, hoa, hod, -⟩, htr, hv0, hr0, hmP⟩ := id h
  obtain ⟨L0, hO⟩ := hmP.2.1
  have hob := hpic.1
  have h00 := htr.1
  rw [hxo] at hob
  have hcon := m_Ea_count l G S0 w ms d hpic hno dp htr (xs (i + 1))
  rw [hxo] at hcon
  refine lv_aload_n hx hb d_law_1245 rfl (lv_at hl 2 rfl) ?_
  refine lv_aload_n hx hb d_law_1246 rfl (lv_at hl 1 rfl) ?_
  refine lv_iload hx hb d_law_1247 (lv_at hl 0 rfl) ?_
  refine lv_iconst (v := 1) hx hb d_law_1249 (by decide) ?_
  refine mv_iadd hx hb i 1 rfl rfl d_law_1250 ?_
  refine mv_sld hx hb hX hbl hbA hS (i + 1) rfl (by omega) (by omega) d_law_1251 ?_
  refine ec_i (va_runV (As := [.int (xs (i + 1))]) (rest := []) ⟨hx, hb, hml, hown, hts⟩ (hcon) (cwV 1 hts (gw_V k_256 k_257 k_258 k_60 k_259) rfl rfl rfl (by decide +kernel) ⟨Nat.le_of_ble_eq_true rfl, Nat.le_of_ble_eq_true rfl⟩) (eB.preV hE hI hS hz rfl hob) rfl rfl hl.1 rfl (lv_room (Nat.le_of_ble_eq_true rfl)) d_law_1252 ⟨hcN, hsN⟩) hS (fun r6 zz H locs ezz hI hsz hS => ?_)
  obtain ⟨ezz, er6⟩ := ezz
  rw [ezz, ← h.1.self] at hI
  refine lv_aload_n hx hb d_law_1255 rfl (lv_at hl 3 rfl) ?_
  refine lv_aload_n hx hb d_law_1256 rfl (lv_at hl 1 rfl) ?_
  refine lv_iload hx hb d_law_1257 (lv_at hl 0 rfl) ?_
  refine lv_iconst (v := 1) hx hb d_law_1259 (by decide) ?_
  refine mv_iadd hx hb i 1 rfl rfl d_law_1260 ?_
  refine mv_sld hx hb hX hbl hbA hS (i + 1) rfl (by omega) (by omega) d_law_1261 ?_
  refine ec_i (va_runV (As := [.int (xs (i + 1))]) (rest := [.int r6]) ⟨hx, hb, hml, hown, hts⟩ (m_Mo_count l G S0 Q hQ X w d dp htr hmP.1 L0 hO hmP.2.2 (xs (i + 1))) (cwV 1 hts (gw_V k_1015 k_1016 k_1017 k_67 k_1018) rfl rfl rfl (by decide +kernel) ⟨Nat.le_of_ble_eq_true rfl, Nat.le_of_ble_eq_true rfl⟩) (eB.preV hE hI hS hz rfl (mw_o hQ)) rfl rfl hl.1 rfl (lv_room (Nat.le_of_ble_eq_true rfl)) d_law_1262 ⟨hcN, hsN⟩) hS (fun b7 z2 H locs ez2 hI hsz hS => ?_)
  obtain ⟨ez2, eb7⟩ := ez2
  obtain ⟨ms2, d2, dp2, Y, fo2, fd2, ey, hLI, hthr, hA⟩ := ag_count h ez2
  refine lv_icmp_eq (tgt := 1270) hx hb d_law_1265 (by decide) (fun c9 => ?_) (fun c9 => absurd (er6.trans eb7.symm) c9)
  exact K _ _ _ _ _ _ _ _ _ _ hLI (lv_sub hl [0, 1, 2, 3, 4, 5] rfl) hI hS

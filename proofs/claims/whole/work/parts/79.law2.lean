/-! the law: how the two sides agree, the rest -/
section AG2
variable {G : EG} {Q : Nat → Nat} {xo oa od : Nat} {w z z2 u : hp_M} {ms : MS} {d : DS} {dp : Nat → Nat} {X : XS} {fo : Nat → Int64} {fd : Nat → UInt64}
theorem ag_node (h : LI G Q xo oa od w ms d dp X fo fd) {gr kd co : Int32} {r bb : Int32}
    (hc : (r = 0 ∧ ∃ v u, (∃ g n, g < 14 ∧ gr = nI g ∧ sTh d g = true ∧ sNi d g 0 = 0 ∧ (0 ≤ kd ∧ kd ≤ 3) ∧ (1 ≤ co ∧ co ≤ 15) ∧ lsF d n ∧ n < 14 ∧ dp g < 5 ∧ v = nI n ∧ pubR G ms d w (dNode d n g kd co) u) ∧ z = hp_set u oa (aJ G (vp_updL fo 0 v.toInt64))) ∨ (r = 1 ∧ z = w ∧ ((iae = iae ∧ ¬ okNode d gr kd co) ∨ (iae = ise ∧ ∃ g, g < 14 ∧ gr = nI g ∧ sTh d g = true ∧ sNi d g 0 = 0 ∧ (0 ≤ kd ∧ kd ≤ 3) ∧ (1 ≤ co ∧ co ≤ 15) ∧ (lsF d 14 ∨ 5 ≤ dp g)))) ∨ (r = 2 ∧ z = w ∧ ((ise = iae ∧ ¬ okNode d gr kd co) ∨ (ise = ise ∧ ∃ g, g < 14 ∧ gr = nI g ∧ sTh d g = true ∧ sNi d g 0 = 0 ∧ (0 ≤ kd ∧ kd ≤ 3) ∧ (1 ≤ co ∧ co ≤ 15) ∧ (lsF d 14 ∨ 5 ≤ dp g)))))
    (hm : (¬ okNode d gr kd co ∧ z2 = mW G Q (xsT X 1) z) ∨ ∃ g, (g < 14 ∧ gr = nI g ∧ sTh d g = true ∧ sNi d g 0 = 0 ∧ (0 ≤ kd ∧ kd ≤ 3) ∧ (1 ≤ co ∧ co ≤ 15)) ∧ (((lsF d 14 ∨ 5 ≤ dp g) ∧ z2 = mW G Q (xsT X 2) z) ∨ ∃ n, lsF d n ∧ n < 14 ∧ dp g < 5 ∧ bb = nI n ∧ ∃ Y, z2 = mW G Q Y z ∧ mP Y (dNode d n g kd co) (fset dp n (dp g + 1)) ∧ Y.2.2.2.2 = 0)) : EN G Q xo oa od z z2 r (fun f _ => f 0 = bb.toInt64) := by
  have lsu : ∀ {n n'}, lsF d n → lsF d n' → n < 14 → n' < 14 → n = n' := fun {n n'} h1 h2 h3 h4 => by
    rcases Nat.lt_trichotomy n n' with q | q | q
    · exact absurd (h2.2.1 n q) (h1.2.2 h3)
    · exact q
    · exact absurd (h1.2.1 n' q) (h2.2.2 h4)
  rcases hc with ⟨rfl, v, u, ⟨g, n, c1, c2, c3, c4, c5, c6, c7, c8, c9, c10, c11⟩, c12⟩ | ⟨rfl, rfl, c⟩ | ⟨rfl, rfl, c⟩
  · rcases hm with ⟨m1, -⟩ | ⟨g', ⟨m1, m2, m3, m4, m5, m6⟩, ⟨m7, -⟩ | ⟨n', m7, m8, m9, m10, Y, m11, m12, m13⟩⟩
    · exact absurd ⟨⟨g, c1, c2, c3, c4⟩, c5, c6⟩ m1
    · obtain rfl := nI14 c1 m1 c2 m2
      rcases m7 with q | q
      · exact absurd (q.2.1 n c8) (c7.2.2 c8)
      · omega
    · obtain rfl := nI14 c1 m1 c2 m2
      obtain rfl := lsu c7 m7 c8 m8
      have hnt := c7.2.2 c8
      have hn0 : n ≠ 0 := fun e => hnt (by rw [e]; exact h.2.1.1)
      exact ag_i h c11 c12 (h.2.1.node c8 hnt c1 c3 c4 c9) (h.2.2.1.node c5 c6) ((congrFun (show sNi (dNode d n g kd co) 0 = sNi d 0 from fset_ne (Ne.symm hn0)) 3).trans h.2.2.2.1) m11 m12 m13 (c10.trans m10.symm)
  · have c : ¬ okNode d gr kd co := by
      rcases c with c | c
      · exact c.2
      · exact absurd c.1 (by decide)
    rcases hm with ⟨m1, m2⟩ | ⟨g', ⟨m1, m2, m3, m4, m5, m6⟩, -⟩
    · exact ag_noT h (by decide) (pub_rf h) m2
    · exact absurd ⟨⟨g', m1, m2, m3, m4⟩, m5, m6⟩ c
  · obtain ⟨g, c1, c2, c3, c4, c5, c6, c7⟩ : ∃ g, g < 14 ∧ gr = nI g ∧ sTh d g = true ∧ sNi d g 0 = 0 ∧ (0 ≤ kd ∧ kd ≤ 3) ∧ (1 ≤ co ∧ co ≤ 15) ∧ (lsF d 14 ∨ 5 ≤ dp g) := by
      rcases c with c | c
      · exact absurd c.1 (by decide)
      · exact c.2
    rcases hm with ⟨m1, -⟩ | ⟨g', ⟨m1, m2, m3, m4, m5, m6⟩, ⟨m7, m8⟩ | ⟨n', m7, m8, m9, -⟩⟩
    · exact absurd ⟨⟨g, c1, c2, c3, c4⟩, c5, c6⟩ m1
    · exact ag_noT h (by decide) (pub_rf h) m8
    · obtain rfl := nI14 c1 m1 c2 m2
      rcases c7 with q | q
      · exact absurd (q.2.1 n' m8) (m7.2.2 m8)
      · omega
theorem ag_into (h : LI G Q xo oa od w ms d dp X fo fd) {n gr : Int32} {r : Int32}
    (hc : (r = 0 ∧ ∃ k g gp, okInto d n gr k g gp ∧ ¬ inn d g k ∧ dp g + (mxD d dp k 14 - dp k + 1) ≤ 5 ∧ pubR G ms d w (dInto d k gp g) z) ∨ (r = 1 ∧ z = w ∧ ((iae = iae ∧ ¬ ((isN d n ∧ n ≠ 0) ∧ isGroup d gr)) ∨ (iae = ise ∧ ∃ k g gp, okInto d n gr k g gp ∧ (inn d g k ∨ 5 < dp g + (mxD d dp k 14 - dp k + 1))))) ∨ (r = 2 ∧ z = w ∧ ((ise = iae ∧ ¬ ((isN d n ∧ n ≠ 0) ∧ isGroup d gr)) ∨ (ise = ise ∧ ∃ k g gp, okInto d n gr k g gp ∧ (inn d g k ∨ 5 < dp g + (mxD d dp k 14 - dp k + 1))))))
    (hm : (¬ ((isN d n ∧ n ≠ 0) ∧ isGroup d gr) ∧ z2 = mW G Q (xsT X 1) z) ∨ ∃ k g gp, okInto d n gr k g gp ∧ (((inn d g k ∨ 5 < dp g + (mxD d dp k 14 - dp k + 1)) ∧ z2 = mW G Q (xsT X 2) z) ∨ (¬ inn d g k ∧ dp g + (mxD d dp k 14 - dp k + 1) ≤ 5 ∧ ∃ Y, z2 = mW G Q Y z ∧ mP Y (dInto d k gp g) (dpI d dp k g) ∧ Y.2.2.2.2 = 0))) : EN G Q xo oa od z z2 r (fun _ _ => True) := by
  have un : ∀ {k g gp k' g' gp'}, okInto d n gr k g gp → okInto d n gr k' g' gp' → k = k' ∧ g = g' ∧ gp = gp' := fun {k g gp k' g' gp'} h1 h2 => by
    obtain ⟨a1, a2, a3, a4, a5, a6, a7, a8, a9, a10, a11, a12⟩ := h1
    obtain ⟨b1, b2, b3, b4, b5, b6, b7, b8, b9, b10, b11, b12⟩ := h2
    obtain rfl := nI14 a1 b1 a2 b2
    obtain rfl := nI14 a5 b5 a6 b6
    rw [a11] at b11
    exact ⟨rfl, rfl, Option.some.inj b11⟩
  have imp : ∀ {k g gp}, okInto d n gr k g gp → (isN d n ∧ n ≠ 0) ∧ isGroup d gr := fun {k g gp} h1 => by
    obtain ⟨a1, a2, a3, a4, a5, a6, a7, a8, -⟩ := h1
    exact ⟨⟨⟨k, a1, a2, a3⟩, fun e => a4 ((nI_eq (a := k) (b := 0) (by omega) (by decide)).mp (a2.symm.trans e))⟩, g, a5, a6, a7, a8⟩
  rcases hc with ⟨rfl, k, g, gp, c1, c2, c3, c4⟩ | ⟨rfl, rfl, c⟩ | ⟨rfl, rfl, c⟩
  · rcases hm with ⟨m1, -⟩ | ⟨k', g', gp', m1, ⟨m2, -⟩ | ⟨m2, m3, Y, m4, m5, m6⟩⟩
    · exact absurd (imp c1) m1
    · obtain ⟨rfl, rfl, rfl⟩ := un c1 m1
      rcases m2 with q | q
      · exact absurd q c2
      · omega
    · obtain ⟨rfl, rfl, rfl⟩ := un c1 m1
      exact ag_v h c4 (h.2.1.into c1 c2 c3) h.2.2.1.into h.2.2.2.1 m4 m5 m6 (fun _ => trivial)
  · have c : ¬ ((isN d n ∧ n ≠ 0) ∧ isGroup d gr) := by
      rcases c with c | c
      · exact c.2
      · exact absurd c.1 (by decide)
    rcases hm with ⟨m1, m2⟩ | ⟨k', g', gp', m1, -⟩
    · exact ag_noT h (by decide) (pub_rf h) m2
    · exact absurd (imp m1) c
  · obtain ⟨k, g, gp, c1, c2⟩ : ∃ k g gp, okInto d n gr k g gp ∧ (inn d g k ∨ 5 < dp g + (mxD d dp k 14 - dp k + 1)) := by
      rcases c with c | c
      · exact absurd c.1 (by decide)
      · exact c.2
    rcases hm with ⟨m1, -⟩ | ⟨k', g', gp', m1, ⟨m2, m3⟩ | ⟨m2, m3, -⟩⟩
    · exact absurd (imp c1) m1
    · exact ag_noT h (by decide) (pub_rf h) m3
    · obtain ⟨rfl, rfl, rfl⟩ := un c1 m1
      rcases c2 with q | q
      · exact absurd q m2
      · omega
theorem ag_remove (h : LI G Q xo oa od w ms d dp X fo fd) {n : Int32} {r bb : Int32}
    (hc : (r = 0 ∧ ∃ v u, (∃ k gp, k < 14 ∧ n = nI k ∧ sTh d k = true ∧ k ≠ 0 ∧ gp < 14 ∧ sTh d gp = true ∧ sPa d k = some gp ∧ k ∈ sCh d gp ∧ v = nI (gnN d k 14) ∧ pubR G ms d w (dRem d k gp) u) ∧ z = hp_set u oa (aJ G (vp_updL fo 0 v.toInt64))) ∨ (r = 1 ∧ pIA w (¬ (isN d n ∧ n ≠ 0)) iae z))
    (hm : (¬ (isN d n ∧ n ≠ 0) ∧ z2 = mW G Q (xsT X 1) z) ∨ ∃ k gp, (k < 14 ∧ n = nI k ∧ sTh d k = true ∧ k ≠ 0 ∧ gp < 14 ∧ sTh d gp = true ∧ sPa d k = some gp ∧ k ∈ sCh d gp) ∧ bb = nI (gnN d k 14) ∧ ∃ Y, z2 = mW G Q Y z ∧ mP Y (dRem d k gp) dp ∧ Y.2.2.2.2 = 0) : EN G Q xo oa od z z2 r (fun f _ => f 0 = bb.toInt64) := by
  have imp : ∀ {k}, k < 14 → n = nI k → sTh d k = true → k ≠ 0 → isN d n ∧ n ≠ 0 := fun {k} a1 a2 a3 a4 => ⟨⟨k, a1, a2, a3⟩, fun e => a4 ((nI_eq (a := k) (b := 0) (by omega) (by decide)).mp (a2.symm.trans e))⟩
  rcases hc with ⟨rfl, v, u, ⟨k, gp, c1, c2, c3, c4, c5, c6, c7, c8, c9, c10⟩, c11⟩ | ⟨rfl, -, rfl, c4⟩
  · rcases hm with ⟨m1, -⟩ | ⟨k', gp', ⟨m1, m2, m3, m4, m5, m6, m7, m8⟩, m9, Y, m10, m11, m12⟩
    · exact absurd (imp c1 c2 c3 c4) m1
    · obtain rfl := nI14 c1 m1 c2 m2
      rw [c7] at m7
      cases m7
      exact ag_i h c10 c11 (h.2.1.rem c1 c3 c4 c5 c6 c7 c8) h.2.2.1.rem h.2.2.2.1 m10 m11 m12 (c9.trans m9.symm)
  · rcases hm with ⟨m1, m2⟩ | ⟨k', gp', ⟨m1, m2, m3, m4, -⟩, -⟩
    · exact ag_noT h (by decide) (pub_rf h) m2
    · exact absurd (imp m1 m2 m3 m4) c4
theorem ag_paint (h : LI G Q xo oa od w ms d dp X fo fd) {a : Int32} {r bb : Int32}
    (hc : (r = 0 ∧ ∃ v u, (inT (sD a) ∧ v = nI (cnF d (sD a) 192) ∧ pubR G ms d w (dPt (dCl d (ptF d (sD a) 192)) (sPt d + 1)) u) ∧ z = hp_set u oa (aJ G (vp_updL fo 0 v.toInt64))) ∨ (r = 1 ∧ pIA w (¬ inT (sD a)) iae z))
    (hm : (¬ inT (sD a) ∧ z2 = mW G Q (xsT X 1) z) ∨ (inT (sD a) ∧ bb = nI (cnF d (sD a) 192) ∧ ∃ Y, z2 = mW G Q Y z ∧ mP Y (dPt (dCl d (ptF d (sD a) 192)) (sPt d + 1)) dp ∧ Y.2.2.2.2 = 0)) : EN G Q xo oa od z z2 r (fun f _ => f 0 = bb.toInt64) := by
  rcases hc with ⟨rfl, v, u, ⟨c1, c2, c3⟩, c4⟩ | ⟨rfl, -, rfl, c4⟩
  · rcases hm with ⟨m1, -⟩ | ⟨m1, m2, Y, m3, m4, m5⟩
    · exact absurd c1 m1
    · exact ag_i h c3 c4 (h.2.1.mv rfl (fun _ => rfl) rfl rfl) h.2.2.1 h.2.2.2.1 m3 m4 m5 (c2.trans m2.symm)
  · rcases hm with ⟨m1, m2⟩ | ⟨m1, -⟩
    · exact ag_noT h (by decide) (pub_rf h) m2
    · exact absurd m1 c4
theorem ag_cell (h : LI G Q xo oa od w ms d dp X fo fd) {a b : Int32} {r bb : Int32}
    (hc : (r = 0 ∧ ∃ v u, (u = w ∧ ∃ i j, i < 16 ∧ j < 12 ∧ a = nI i ∧ b = nI j ∧ v = sCl d (j * 16 + i)) ∧ z = hp_set u oa (aJ G (vp_updL fo 0 v.toInt64))) ∨ (r = 1 ∧ pIA w (¬ ((0 ≤ a ∧ a ≤ 15) ∧ (0 ≤ b ∧ b ≤ 11))) iae z))
    (hm : (¬ ((0 ≤ a ∧ a ≤ 15) ∧ (0 ≤ b ∧ b ≤ 11)) ∧ z2 = mW G Q (xsT X 1) z) ∨ (z2 = mW G Q (xsT X 0) z ∧ ∃ i j, i < 16 ∧ j < 12 ∧ a = nI i ∧ b = nI j ∧ bb = X.1 24 (j * 16 + i))) : EN G Q xo oa od z z2 r (fun f _ => f 0 = bb.toInt64) := by
  have imp : ∀ {i j}, i < 16 → j < 12 → a = nI i → b = nI j → (0 ≤ a ∧ a ≤ 15) ∧ (0 ≤ b ∧ b ≤ 11) := fun {i j} h1 h2 h3 h4 => by
    rw [h3, h4]
    exact ⟨⟨nI_pos' (by omega), (nI_leI (a := i) (b := 15) (by omega) (by decide)).mpr (by omega)⟩, nI_pos' (by omega), (nI_leI (a := j) (b := 11) (by omega) (by decide)).mpr (by omega)⟩
  rcases hc with ⟨rfl, v, u, ⟨rfl, i, j, c1, c2, c3, c4, c5⟩, c6⟩ | ⟨rfl, -, rfl, c4⟩
  · rcases hm with ⟨m1, -⟩ | ⟨m0, i', j', m1, m2, m3, m4, m5⟩
    · exact absurd (imp c1 c2 c3 c4) m1
    · obtain rfl : i = i' := (nI_eq (a := i) (b := i') (by omega) (by omega)).mp (c3.symm.trans m3)
      obtain rfl : j = j' := (nI_eq (a := j) (b := j') (by omega) (by omega)).mp (c4.symm.trans m4)
      exact ag_i h (pub_rf h) c6 h.2.1 h.2.2.1 h.2.2.2.1 m0 h.2.2.2.2.T rfl (by rw [c5, m5, h.2.2.2.2.2.2.1 _ (by omega)])
  · rcases hm with ⟨m1, m2⟩ | ⟨m0, i', j', m1, m2, m3, m4, -⟩
    · exact ag_noT h (by decide) (pub_rf h) m2
    · exact absurd (imp m1 m2 m3 m4) c4
theorem ag_told (h : LI G Q xo oa od w ms d dp X fo fd) {n wh : Int32} {r bb : Int32}
    (hc : (r = 0 ∧ ∃ v u, (u = w ∧ ∃ k j, k < 14 ∧ n = nI k ∧ sTh d k = true ∧ j < 5 ∧ wh = nI j ∧ v = tolF d k j) ∧ z = hp_set u oa (aJ G (vp_updL fo 0 v.toInt64))) ∨ (r = 1 ∧ pIA w (¬ (isN d n ∧ (0 ≤ wh ∧ wh ≤ 4))) iae z))
    (hm : (¬ (isN d n ∧ (0 ≤ wh ∧ wh ≤ 4)) ∧ z2 = mW G Q (xsT X 1) z) ∨ (z2 = mW G Q (xsT X 0) z ∧ ∃ k j, k < 14 ∧ n = nI k ∧ sTh d k = true ∧ j < 5 ∧ wh = nI j ∧ bb = tolF d k j)) : EN G Q xo oa od z z2 r (fun f _ => f 0 = bb.toInt64) := by
  have imp : ∀ {k j}, k < 14 → n = nI k → sTh d k = true → j < 5 → wh = nI j → isN d n ∧ (0 ≤ wh ∧ wh ≤ 4) := fun {k j} h1 h2 h3 h4 h5 => by
    refine ⟨⟨k, h1, h2, h3⟩, ?_⟩
    rw [h5]
    exact ⟨nI_pos' (by omega), (nI_leI (a := j) (b := 4) (by omega) (by decide)).mpr (by omega)⟩
  rcases hc with ⟨rfl, v, u, ⟨rfl, k, j, c1, c2, c3, c4, c5, c6⟩, c7⟩ | ⟨rfl, -, rfl, c4⟩
  · rcases hm with ⟨m1, -⟩ | ⟨m0, k', j', m1, m2, m3, m4, m5, m6⟩
    · exact absurd (imp c1 c2 c3 c4 c5) m1
    · obtain rfl := nI14 c1 m1 c2 m2
      obtain rfl : j = j' := (nI_eq (a := j) (b := j') (by omega) (by omega)).mp (c5.symm.trans m5)
      exact ag_i h (pub_rf h) c7 h.2.1 h.2.2.1 h.2.2.2.1 m0 h.2.2.2.2.T rfl (c6.trans m6.symm)
  · rcases hm with ⟨m1, m2⟩ | ⟨m0, k', j', m1, m2, m3, m4, m5, -⟩
    · exact ag_noT h (by decide) (pub_rf h) m2
    · exact absurd (imp m1 m2 m3 m4 m5) c4
theorem ag_top (h : LI G Q xo oa od w ms d dp X fo fd) {a b u' : UInt64} {r bb : Int32}
    (hc : (r = 0 ∧ ∃ v u, (inR a ∧ inR b ∧ inT u' ∧ (∃ c, topF d u' a b = some c ∧ v = nI c) ∧ pubR G ms d w d u) ∧ z = hp_set u oa (aJ G (vp_updL fo 0 v.toInt64))) ∨ (r = 1 ∧ pubR G ms d w d z ∧ ((iae = iae ∧ ¬ (inR a ∧ inR b ∧ inT u')) ∨ (iae = nse ∧ (inR a ∧ inR b ∧ inT u') ∧ topF d u' a b = none))) ∨ (r = 2 ∧ pubR G ms d w d z ∧ ((nse = iae ∧ ¬ (inR a ∧ inR b ∧ inT u')) ∨ (nse = nse ∧ (inR a ∧ inR b ∧ inT u') ∧ topF d u' a b = none))))
    (hm : (¬ (inR a ∧ inR b ∧ inT u') ∧ z2 = mW G Q (xsT X 1) z) ∨ ((inR a ∧ inR b ∧ inT u') ∧ ∃ Y, z2 = mW G Q Y z ∧ mP Y d dp ∧ ((topF d u' a b = none ∧ Y.2.2.2.2 = 2) ∨ ∃ c, topF d u' a b = some c ∧ bb = nI c ∧ Y.2.2.2.2 = 0))) : EN G Q xo oa od z z2 r (fun f _ => f 0 = bb.toInt64) := by
  rcases hc with ⟨rfl, v, u, ⟨c1, c2, c3, ⟨c, c4, c5⟩, c6⟩, c7⟩ | ⟨rfl, hz, c⟩ | ⟨rfl, hz, c⟩
  · rcases hm with ⟨m1, -⟩ | ⟨m1, Y, m2, m3, ⟨m4, -⟩ | ⟨c', m4, m5, m6⟩⟩
    · exact absurd ⟨c1, c2, c3⟩ m1
    · rw [c4] at m4; cases m4
    · rw [c4] at m4
      cases m4
      exact ag_i h c6 c7 h.2.1 h.2.2.1 h.2.2.2.1 m2 m3 m6 (c5.trans m5.symm)
  · have c : ¬ (inR a ∧ inR b ∧ inT u') := by
      rcases c with c | c
      · exact c.2
      · exact absurd c.1 (by decide)
    rcases hm with ⟨m1, m2⟩ | ⟨m1, -⟩
    · exact ag_noT h (by decide) hz m2
    · exact absurd m1 c
  · obtain ⟨c1, c2⟩ : (inR a ∧ inR b ∧ inT u') ∧ topF d u' a b = none := by
      rcases c with c | c
      · exact absurd c.1 (by decide)
      · exact c.2
    rcases hm with ⟨m1, -⟩ | ⟨m1, Y, m2, m3, ⟨m4, m5⟩ | ⟨c', m4, m5, m6⟩⟩
    · exact absurd c1 m1
    · exact ag_no h (by decide) hz m2 m3 m5
    · rw [c2] at m4; cases m4
theorem ag_around (h : LI G Q xo oa od w ms d dp X fo fd) {n sd : Int32} {u' : UInt64} {r : Int32} {bb : UInt64}
    (hc : (r = 0 ∧ ∃ v u, (∃ k j q, k < 14 ∧ n = nI k ∧ sTh d k = true ∧ j < 4 ∧ sd = nI j ∧ inT u' ∧ arB d dp u' k = some q ∧ fx (arG dp k) (sdB j q) v ∧ pubR G ms d w d u) ∧ z = hp_set u od (aD1 G (vf_upd fd 0 v))) ∨ (r = 1 ∧ pubR G ms d w d z ∧ ((iae = iae ∧ ¬ (isN d n ∧ (0 ≤ sd ∧ sd ≤ 3) ∧ inT u')) ∨ (iae = nse ∧ ∃ k j, k < 14 ∧ n = nI k ∧ sTh d k = true ∧ j < 4 ∧ sd = nI j ∧ inT u' ∧ arB d dp u' k = none))) ∨ (r = 2 ∧ pubR G ms d w d z ∧ ((nse = iae ∧ ¬ (isN d n ∧ (0 ≤ sd ∧ sd ≤ 3) ∧ inT u')) ∨ (nse = nse ∧ ∃ k j, k < 14 ∧ n = nI k ∧ sTh d k = true ∧ j < 4 ∧ sd = nI j ∧ inT u' ∧ arB d dp u' k = none))))
    (hm : (¬ (isN d n ∧ (0 ≤ sd ∧ sd ≤ 3) ∧ inT u') ∧ z2 = mW G Q (xsT X 1) z) ∨ ∃ k j, (k < 14 ∧ n = nI k ∧ sTh d k = true ∧ j < 4 ∧ sd = nI j ∧ inT u') ∧ ∃ Y, z2 = mW G Q Y z ∧ mP Y d dp ∧ ((arB d dp u' k = none ∧ Y.2.2.2.2 = 2) ∨ ∃ q, arB d dp u' k = some q ∧ fx (arG dp k) (sdB j q) bb ∧ Y.2.2.2.2 = 0)) : EN G Q xo oa od z z2 r (fun _ f => FP.dcmp (f 0) bb = some .eq) := by
  have imp : ∀ {k j}, k < 14 → n = nI k → sTh d k = true → j < 4 → sd = nI j → inT u' → isN d n ∧ (0 ≤ sd ∧ sd ≤ 3) ∧ inT u' := fun {k j} h1 h2 h3 h4 h5 h6 => by
    refine ⟨⟨k, h1, h2, h3⟩, ?_, h6⟩
    rw [h5]
    exact ⟨nI_pos' (by omega), (nI_leI (a := j) (b := 3) (by omega) (by decide)).mpr (by omega)⟩
  rcases hc with ⟨rfl, v, u, ⟨k, j, q, c1, c2, c3, c4, c5, c6, c7, c8, c9⟩, c10⟩ | ⟨rfl, hz, c⟩ | ⟨rfl, hz, c⟩
  · rcases hm with ⟨m1, -⟩ | ⟨k', j', ⟨m1, m2, m3, m4, m5, m6⟩, Y, m7, m8, ⟨m9, -⟩ | ⟨q', m9, m10, m11⟩⟩
    · exact absurd (imp c1 c2 c3 c4 c5 c6) m1
    · obtain rfl := nI14 c1 m1 c2 m2
      rw [c7] at m9; cases m9
    · obtain rfl := nI14 c1 m1 c2 m2
      obtain rfl : j = j' := (nI_eq (a := j) (b := j') (by omega) (by omega)).mp (c5.symm.trans m5)
      rw [c7] at m9
      cases m9
      obtain ⟨ms', h'⟩ := h.1.pub c9
      have h'' := h'.outD (vf_upd fd 0 v)
      rw [← c10] at h''
      exact ⟨ms', d, dp, Y, fo, _, m7, by rw [m7]; exact ⟨h''.mod Y, h.2.1, h.2.2.1, h.2.2.2.1, m8⟩, m11, fun _ => by show FP.dcmp (vf_upd fd 0 v 0) bb = some .eq; rw [vup_y]; exact (fx_eq c8 m10).mpr rfl⟩
  · have c : ¬ (isN d n ∧ (0 ≤ sd ∧ sd ≤ 3) ∧ inT u') := by
      rcases c with c | c
      · exact c.2
      · exact absurd c.1 (by decide)
    rcases hm with ⟨m1, m2⟩ | ⟨k', j', ⟨m1, m2, m3, m4, m5, m6⟩, -⟩
    · exact ag_noT h (by decide) hz m2
    · exact absurd (imp m1 m2 m3 m4 m5 m6) c
  · obtain ⟨k, j, c1, c2, c3, c4, c5, c6, c7⟩ : ∃ k j, k < 14 ∧ n = nI k ∧ sTh d k = true ∧ j < 4 ∧ sd = nI j ∧ inT u' ∧ arB d dp u' k = none := by
      rcases c with c | c
      · exact absurd c.1 (by decide)
      · exact c.2
    rcases hm with ⟨m1, -⟩ | ⟨k', j', ⟨m1, m2, m3, m4, m5, m6⟩, Y, m7, m8, ⟨m9, m10⟩ | ⟨q', m9, m10, m11⟩⟩
    · exact absurd (imp c1 c2 c3 c4 c5 c6) m1
    · exact ag_no h (by decide) hz m7 m8 m10
    · obtain rfl := nI14 c1 m1 c2 m2
      rw [c7] at m9; cases m9
theorem ag_count (h : LI G Q xo oa od w ms d dp X fo fd) (hm : z2 = mW G Q (xsT X 0) w) : EN G Q xo oa od w z2 0 (fun _ _ => True) := ag_v h (pub_rf h) h.2.1 h.2.2.1 h.2.2.2.1 hm h.2.2.2.2.T rfl (fun _ => trivial)
end AG2

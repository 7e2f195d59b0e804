/-! the law: what is found at its entry -/
theorem arr_of {args : Array Value} {s : State} {ty : FieldType} (h : (Cond.arrayClass ty).before args s = true) (hp : ∀ C, ty ≠ .object C) : ∃ cA, ArrOfT s cA ty ∧ va_RA s cA ty := by
  obtain ⟨c, k, comp, h1, h2, h3⟩ := Cond.arrayClass_spec h
  refine ⟨c, fun n z => ⟨fun k h => (by cases h), k, h2, comp, h3⟩, ?_⟩
  cases ty with
  | object C => exact absurd rfl (hp C)
  | _ => exact h1
theorem arr_ov {args : Array Value} {s : State} {C : String} (h : (Cond.arrayOver (.object C)).before args s = true) : ∃ cA, ArrOfT s cA (.object C) ∧ va_RA s cA (.object C) := by
  obtain ⟨comp, c, k, h1, h2, h3, h4, h5⟩ := Cond.arrayOver_spec h
  exact ⟨c, fun n z => ⟨fun k h => (by cases h), k, h3, comp, h4⟩, k, comp, h3, h4, h1, h5⟩
set_option maxRecDepth 100000 in
theorem strs_in : ∀ q ∈ strs, Cond.stringRef q.1 q.2.1 q.2.2 ∈ lw_tbl ∧ q.1 = "SceneEasel" ∧ q.2.1 ≠ 0 := by decide +kernel
set_option maxRecDepth 100000 in
theorem ao_in : Cond.arrayOver (.object "SceneEasel$Node") ∈ lw_tbl ∧ Cond.arrayOver (.object "SceneEasel$Track") ∈ lw_tbl ∧ Cond.arrayOver (.object "java/lang/Object") ∈ lw_tbl := by decide +kernel
set_option maxRecDepth 100000 in
theorem ls_in : Cond.laysStatic "java/lang/Throwable" "UNASSIGNED_STACK" "[Ljava/lang/StackTraceElement;" ∈ lw_tbl ∧ Cond.laysStatic "java/lang/Throwable" "SUPPRESSED_SENTINEL" "Ljava/util/List;" ∈ lw_tbl ∧ Cond.laysStatic "java/util/ArrayList" "DEFAULTCAPACITY_EMPTY_ELEMENTDATA" "[Ljava/lang/Object;" ∈ lw_tbl := by decide +kernel
abbrev eED : Term := .static "java/util/ArrayList" "DEFAULTCAPACITY_EMPTY_ELEMENTDATA" "[Ljava/lang/Object;"
set_option maxRecDepth 100000 in
theorem fl_in : ∀ c ∈ [Cond.isRef (.static "java/lang/Throwable" "UNASSIGNED_STACK" "[Ljava/lang/StackTraceElement;"), Cond.isRef (.static "java/lang/Throwable" "SUPPRESSED_SENTINEL" "Ljava/util/List;"), Cond.arrayOf eED (.object "java/lang/Object"), Cond.eq (.length eED) (.int 0), Cond.isRef (.mirror "[Ljava/lang/Object;"), Cond.not (.castable ise iae), Cond.not (.castable nse iae)], c ∈ flatC (Jvm.Cond.and given_1 narrow_1) := by decide +kernel
def strA (s : State) (mi : Nat) : Nat → Nat := fun k => if k = 0 then mi else match (Term.string "SceneEasel" k).eval #[] s none [] s with
  | some (.ref a) => a
  | _ => 0
set_option maxHeartbeats 4000000 in
set_option maxRecDepth 100000 in
theorem lw_en {p : Program} {s : State} {m : MethodId} {meth : Method} {c : Code} {b L : Nat} {xs : Nat → Int32} (C0 : lw_At p s m meth c b L xs) : ∃ G, en G s.heap.size s ∧ nCa s := by
  obtain ⟨hx, hb, hr, hml, hown, hts, hX, hbl, hlocks, hgv⟩ := C0
  have hg : ∀ w ∈ gw, w.before #[Value.ref b] s = true := fun w h => hts w (gw_lw h)
  have hfl := flat_of_before _ hgv
  have fl : ∀ c ∈ [Cond.isRef (.static "java/lang/Throwable" "UNASSIGNED_STACK" "[Ljava/lang/StackTraceElement;"), Cond.isRef (.static "java/lang/Throwable" "SUPPRESSED_SENTINEL" "Ljava/util/List;"), Cond.arrayOf eED (.object "java/lang/Object"), Cond.eq (.length eED) (.int 0), Cond.isRef (.mirror "[Ljava/lang/Object;"), Cond.not (.castable ise iae), Cond.not (.castable nse iae)], c.before #[Value.ref b] s = true := fun c hc => hfl c (fl_in c hc)
  have hA : ∀ a : Nat, a < s.heap.size → ¬ hp_A s.heap.size a := fun a h => Nat.not_le.mpr h
  obtain ⟨c0, i0, k0⟩ := u_known (C := R_Ex) (T := F_Ex) (N := 5) (n := 5) hg i_Ex (hg _ k_125)
  obtain ⟨c1, i1, k1⟩ := u_known (C := R_No) (T := F_No) (N := 20) (n := 20) hg i_No (hg _ k_90)
  obtain ⟨c2, i2, k2⟩ := u_known (C := R_Tr) (T := F_Tr) (N := 3) (n := 3) hg i_Tr (hg _ k_148)
  obtain ⟨c3, i3, k3⟩ := u_known (C := R_Ea) (T := F_Ea) (N := 4) (n := 4) hg i_Ea (hg _ k_81)
  obtain ⟨c4, i4, k4⟩ := u_known (C := R_Al) (T := F_Al) (N := 3) (n := 3) hg i_Al (hg _ k_96)
  obtain ⟨c5, i5, k5⟩ := u_known (C := R_Mo) (T := F_Mo) (N := 28) (n := 28) hg i_Mo (hg _ k_764)
  obtain ⟨a0, A0⟩ := arr_of (hg _ k_121) (fun C h => by cases h)
  obtain ⟨a1, A1⟩ := arr_of (hg _ k_165) (fun C h => by cases h)
  obtain ⟨a2, A2⟩ := arr_of (hg _ k_858) (fun C h => by cases h)
  obtain ⟨a3, A3⟩ := arr_of (hg _ k_1020) (fun C h => by cases h)
  obtain ⟨a4, A4⟩ := arr_ov (hts _ ao_in.1)
  obtain ⟨a5, A5⟩ := arr_ov (hts _ ao_in.2.1)
  obtain ⟨a6, A6⟩ := arr_ov (hts _ ao_in.2.2)
  obtain ⟨mi, hmi⟩ := va_Mi.of (fl (Cond.isRef (.mirror "[Ljava/lang/Object;")) (by simp))
  obtain ⟨eo, heo, hT⟩ := va_Tof (tm := eED) (ty := .object "java/lang/Object") (N := 0) (f := fun _ => .null) (A := hp_A s.heap.size) (by decide) (fl _ (by simp)) (va_eqt (fl (Cond.eq (.length eED) (.int 0)) (by simp))) (fun j hj => absurd hj (Nat.not_lt_zero j)) hA
  refine ⟨(fun k => [c0, c1, c2, c3, c4, c5].getD k c0, fun k => [i0, i1, i2, i3, i4, i5].getD k i0, fun k => [a0, a1, a2, a3, a4, a5, a6].getD k a0, strA s mi, eo), ⟨⟨?_, ?_⟩, ?_, ?_, ?_, ?_, ?_, ?_, ?_, ?_, hT, hmi⟩, ?_⟩
  · intro k q hq
    match k, hq with
    | 0, hq => cases hq; exact k0
    | 1, hq => cases hq; exact k1
    | 2, hq => cases hq; exact k2
    | 3, hq => cases hq; exact k3
    | 4, hq => cases hq; exact k4
    | 5, hq => cases hq; exact k5
    | k + 6, hq => simp [cls] at hq
  · intro k q hq
    match k, hq with
    | 0, hq => cases hq; exact A0
    | 1, hq => cases hq; exact A1
    | 2, hq => cases hq; exact A2
    | 3, hq => cases hq; exact A3
    | 4, hq => cases hq; exact A4
    | 5, hq => cases hq; exact A5
    | 6, hq => cases hq; exact A6
    | k + 7, hq => simp [eT] at hq
  · exact fun w hw => va_Nw.of (nw_tab (List.mem_filter.mp hw).2) (hts w (List.mem_filter.mp hw).1)
  · intro q hq
    obtain ⟨h1, h2, h3⟩ := strs_in q hq
    have h4 := hts _ h1
    obtain ⟨own, k, tx⟩ := q
    dsimp only at h1 h2 h3 h4 ⊢
    subst h2
    obtain ⟨cur, hcur⟩ : ∃ cur, s.vm.findClass "SceneEasel" = some cur := by
      have h5 := h4
      simp only [Cond.before, Cond.holds, Cond.value] at h5
      cases hc : s.vm.findClass "SceneEasel" with
      | none => simp [hc] at h5
      | some cur => exact ⟨cur, rfl⟩
    obtain ⟨-, -, -, a, -, -, -, -, -, h6⟩ := Cond.stringRef_spec hcur h4
    have h7 : (Term.string "SceneEasel" k).eval #[] s none [] s = some (.ref a) := h6
    have e : eS ((fun k => [c0, c1, c2, c3, c4, c5].getD k c0, fun k => [i0, i1, i2, i3, i4, i5].getD k i0, fun k => [a0, a1, a2, a3, a4, a5, a6].getD k a0, strA s mi, eo) : EG) k = a := by
      show strA s mi k = a
      unfold strA
      rw [if_neg h3, h7]
    rw [e]
    exact vk_R.of h4 h6
  · exact vx_Zqof (hts _ ls_in.1) (hg _ k_68) (fl (Cond.isRef (.static "java/lang/Throwable" "UNASSIGNED_STACK" "[Ljava/lang/StackTraceElement;")) (by simp)) hA
  · exact vx_Zqof (hts _ ls_in.2.1) (hg _ k_68) (fl (Cond.isRef (.static "java/lang/Throwable" "SUPPRESSED_SENTINEL" "Ljava/util/List;")) (by simp)) hA
  · exact va_AO.of (hts _ ao_in.1)
  · exact va_AO.of (hts _ ao_in.2.1)
  · exact va_AO.of (hts _ ao_in.2.2)
  · exact va_Zof (hts _ ls_in.2.2) (hg _ k_64) heo hA
  · exact ⟨va_Nc.of (fl _ (by simp)), va_Nc.of (fl _ (by simp))⟩

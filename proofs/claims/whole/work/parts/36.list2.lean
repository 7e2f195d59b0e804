/-! ArrayList: making, adding, removing -/
theorem k_same : Cond.sameField "java/util/ArrayList" "java/util/AbstractList" "modCount" "I" ∈ gw := gw_i 113 (by decide +kernel) (by decide +kernel)
theorem q_1025 : Cond.declares ⟨"java/lang/Object", "getClass", "()Ljava/lang/Class;"⟩ ∈ nw := nw_i 1025 (by decide +kernel) rfl
theorem n_Ex_fs : ∀ j, j < 5 → defaultValue (t_Ex j) = vp_V [.int 0, .double FP.dconst0, .double FP.dconst0, .double FP.dconst0, .double FP.dconst0] j := by decide +kernel
theorem n_No_fs : ∀ j, j < 20 → defaultValue (t_No j) = vp_V [.int 0, .int 0, .int 0, .null, .null, .null, .null, .int 0, .double FP.dconst0, .double FP.dconst0, .double FP.dconst0, .double FP.dconst0, .int 0, .int 0, .int 0, .double FP.dconst0, .double FP.dconst0, .double FP.dconst0, .int 0, .int 0] j := by decide +kernel
theorem n_Tr_fs : ∀ j, j < 3 → defaultValue (t_Tr j) = vp_V [.null, .null, .int 0] j := by decide +kernel
theorem n_Ea_fs : ∀ j, j < 4 → defaultValue (t_Ea j) = vp_V [.null, .null, .null, .int 0] j := by decide +kernel
theorem n_Al_fs : ∀ j, j < 3 → defaultValue (t_Al j) = vp_V [.int 0, .null, .int 0] j := by decide +kernel
theorem n_Mo_fs : ∀ j, j < 28 → defaultValue (t_Mo j) = vp_V [.null, .null, .null, .null, .null, .null, .null, .null, .null, .null, .null, .null, .null, .null, .null, .null, .null, .null, .null, .null, .null, .null, .null, .null, .null, .int 0, .int 0, .int 0] j := by decide +kernel
theorem hp_ne_n {w : hp_M} {a b : Nat} {x : va_E} (ha : w a = some x) (hb : w b = none) : a ≠ b := by
  intro h
  subst h
  rw [ha] at hb
  cases hb
theorem hp_set_comm {w : hp_M} {a b : Nat} {x y : va_E} (h : a ≠ b) : hp_set (hp_set w a x) b y = hp_set (hp_set w b y) a x := by
  funext q
  by_cases q1 : q = a <;> by_cases q2 : q = b
  · exact absurd (q1.symm.trans q2) h
  · rw [q1, hp_set_ne h, hp_set_eq, hp_set_eq]
  · rw [q2, hp_set_eq, hp_set_ne (Ne.symm h), hp_set_eq]
  · rw [hp_set_ne q2, hp_set_ne q1, hp_set_ne q1, hp_set_ne q2]
section HPC
variable {p : Program} {l : Launch} {e : Env} {R : Room} {s : State} {m : MethodId} {args : Array Value} {below : List Frame} {meth : Method} {c : Code} {H : Heap} {locs : List Loc} {cells slots : Nat} {Q : State → Prop}
variable {cc : ByteArray} {pc : Nat} {ls : Array Slot} {rest : List Value} {D : va_G} {cl : List vw_C} {S0 a : Nat} {tys : List (ClassId × FieldType)} {w : hp_M} {H0 : Heap}
/-- arraycopy of references, over a map -/
theorem hp_copyq (hexec : p.tables.exec = Jvm.exec) (hb : c.code = cc) (hml : c.maxLocals = ls.size) {own : String} {index : Nat} (hown : s.vm.findClass own = some m.cls) (hlink : (Cond.methodLink own index arraycopyName).before args s = true) (hnat : (Cond.native arraycopyName).before args s = true) (hstat : (Cond.static arraycopyName).before args s = true) (hini : (Cond.initialized "java/lang/System").before args s = true)
    (hK : va_K D cl tys s) (hI : hp_I D cl S0 w H) (hS : va_S (hp_A S0) H0 H locs) (t0 t1 ci : Nat) {a0 : Nat} {c0 c1 : ClassId} {n0 n1 : Nat} {f g : Nat → Option Nat} {E0 E1 : String} {r : vw_C} (ha0 : w a0 = some (.inl (c0, n0, .inr (.inr (.inr (.inr f)))))) (ha1 : w a = some (.inl (c1, n1, .inr (.inr (.inr (.inr g)))))) (ht0 : tys[t0]? = some (c0, .object E0)) (ht1 : tys[t1]? = some (c1, .object E1)) (hcr : cl[ci]? = some r) (hca : va_Nw (.castable r.1 E1) s)
    {sp dp n : Int32} (h1 : ¬ sp < 0) (h2 : ¬ dp < 0) (h3 : ¬ n < 0) (h4 : sp.toNatClampNeg + n.toNatClampNeg ≤ n0) (h5 : dp.toNatClampNeg + n.toNatClampNeg ≤ n1) (hel : ∀ i y, f i = some y → ∃ fs, w y = some (.inr (ci, fs)))
    (hframes : 1 ≤ R.frames) (hlocals : (rest.map fun v => v.category).sum + (nativeFrameWords "java/lang/System" "arraycopy" 5 + 11) ≤ R.locals) (hdg : decode cc pc = .ok (.invokestatic index, 3))
    (kk : ∀ (H1 : Heap) (locs1 : List Loc), hp_I D cl S0 (hp_set w a (.inl (c1, n1, .inr (.inr (.inr (.inr (va_cpy f g sp.toNatClampNeg dp.toNatClampNeg n.toNatClampNeg))))))) H1 → va_S (hp_A S0) H0 H1 locs1 → H1.size = H.size → W p l e R s m args below meth c H1 locs1 cells slots Q (F0 m (pc + 3) ls rest)) : W p l e R s m args below meth c H locs cells slots Q (F0 m pc ls (.int n :: .int dp :: .ref a :: .int sp :: .ref a0 :: rest)) := by
  have nn : ∀ z : Int32, ¬ z < 0 → z.toInt = (z.toNatClampNeg : Int) := by
    intro z hz
    have hz0 : (0 : Int) ≤ z.toInt := by
      have := Int32.not_lt.mp hz
      simpa using Int32.le_iff_toInt_le.mp this
    show z.toInt = ((z.toInt.toNat : Nat) : Int)
    omega
  intro T hT X
  have hc0 : H[a0]? = some (vp_cell c0 (n0, .inr (.inr (.inr (.inr f))))) := hI.1 a0 _ ha0
  have hc1 : H[a]? = some (vp_cell c1 (n1, .inr (.inr (.inr (.inr g))))) := hI.1 a _ ha1
  obtain ⟨-, k0, hk0, cm0, hkk0⟩ := (hK.2 t0 _ ht0).1 n0 (fun j => va_rf (f j))
  obtain ⟨-, k1, hk1, cm1, hkk1⟩ := (hK.2 t1 _ ht1).1 n1 (fun j => va_rf (g j))
  obtain ⟨vm', X', step⟩ := X.arraycopy hexec hown hlink hnat hstat hini (src := a0) (dst := a) (cs := vp_cell c0 (n0, .inr (.inr (.inr (.inr f))))) (cd := vp_cell c1 (n1, .inr (.inr (.inr (.inr g))))) (srcPos := sp) (destPos := dp) (n := n) (by rw [hT]; exact hc0) (by rw [hT]; exact hc1)
    (fun _ h => by cases h) (fun _ h => by cases h) (fun h => by cases h) (fun h => by cases h) hk0 hk1 hkk0 hkk1 rfl h1 h2 h3
    (by rw [nn sp h1, nn n h3]; show ¬ _ > ((arrV c0 n0 (fun j => va_rf (f j))).slots.size : Int); rw [arrV_size]; omega)
    (by rw [nn dp h2, nn n h3]; show ¬ _ > ((arrV c1 n1 (fun j => va_rf (g j))).slots.size : Int); rw [arrV_size]; omega)
    (fun vm₁ hal i hi => by
      have e : (vp_cell c0 (n0, .inr (.inr (.inr (.inr f))))).slots.getD (sp.toNatClampNeg + i) .null = va_rf (f (sp.toNatClampNeg + i)) := by
        show (arrV c0 n0 (fun j => va_rf (f j))).slots.getD _ _ = _
        rw [Array.getD_eq_getD_getElem?, arrV_read _ _ (by omega)]
        rfl
      rw [e]
      cases hy : f (sp.toNatClampNeg + i) with
      | none => exact ⟨rfl, trivial⟩
      | some y =>
        obtain ⟨fs, hfs⟩ := hel _ y hy
        obtain ⟨cellV, g1, g2, g3⟩ := hp_recv hK hI hcr hfs
        obtain ⟨kA, comp, r1, r2, r3, -⟩ := (hK.2 t1 _ ht1).2
        cases hk1.symm.trans r1
        cases hkk1.symm.trans r2
        obtain ⟨kC, hkC, -⟩ := Vm.findClass_spec g3
        obtain ⟨kE, hkE, -⟩ := Vm.findClass_spec r3
        obtain ⟨kC', hkC', -⟩ := hal.2.2 _ _ hkC
        obtain ⟨kE', hkE', -⟩ := hal.2.2 _ _ hkE
        obtain ⟨z0, z1, f1, f2, f3⟩ := Cond.castable_spec (va_Nw.use (A := args) rfl hca)
        cases g3.symm.trans f1
        cases r3.symm.trans f2
        refine ⟨rfl, cellV, (show T.heap[y]? = some cellV by rw [hT]; exact g1), (fun q h => by rw [h] at g2; cases g2), ⟨kC', hkC'⟩, ?_, ?_⟩
        · exact ⟨kE', hkE'⟩
        · show vm₁.assignable _ _ = true
          rw [hal.assignable]
          exact f3)
    (g := F0 m pc ls (.int n :: .int dp :: .ref a :: .int sp :: .ref a0 :: rest)) rfl (by rw [hml]) (rest := rest) rfl (by rw [hb]; exact hdg) hframes (by show 2 * 0 + _ + _ ≤ _; omega)
  have e1 : copied (vp_cell c0 (n0, .inr (.inr (.inr (.inr f))))) (vp_cell c1 (n1, .inr (.inr (.inr (.inr g))))) sp dp n = vp_cell c1 (n1, .inr (.inr (.inr (.inr (va_cpy f g sp.toNatClampNeg dp.toNatClampNeg n.toNatClampNeg))))) := by
    rw [vp_cell_q, vp_cell_q, vp_cell_q]
    exact va_copied (fun z => va_rf z) c0 c1 f g h4
  rw [e1] at X' step
  have hl : a < H.size := (Array.getElem?_eq_some_iff.mp hc1).1
  have hheap : ((T.setVm vm').setCell a (vp_cell c1 (n1, .inr (.inr (.inr (.inr (va_cpy f g sp.toNatClampNeg dp.toNatClampNeg n.toNatClampNeg))))))).heap = H.setIfInBounds a (vp_cell c1 (n1, .inr (.inr (.inr (.inr (va_cpy f g sp.toNatClampNeg dp.toNatClampNeg n.toNatClampNeg)))))) := by rw [← hT]; rfl
  have oq : ∀ q : Nat, q ≠ a → (H.setIfInBounds a (vp_cell c1 (n1, .inr (.inr (.inr (.inr (va_cpy f g sp.toNatClampNeg dp.toNatClampNeg n.toNatClampNeg)))))))[q]? = H[q]? := fun q hq => by simp [Array.getElem?_setIfInBounds, Ne.symm hq]
  obtain ⟨t, a1, b1⟩ := kk _ _ (hI.set ha1 (show (H.setIfInBounds a _)[a]? = some _ by simp [Array.getElem?_setIfInBounds, hl]) oq) ⟨by simp; exact hS.1, fun q g1 g2 => by
      rw [oq q (fun e => g2 (by rw [e]; exact hI.2 a _ ha1))]
      exact hS.2.1 q g1 g2, fun q hq => by
      rcases List.mem_append.mp hq with h | h
      · exact hS.2.2 q h
      · obtain ⟨z, -, hz⟩ := List.mem_map.mp h
        rw [← hz]
        exact hI.2 a _ ha1⟩ (by simp) _ hheap X'
  exact ⟨t, step t a1, b1⟩
theorem hp_arecv (hK : va_K D cl tys s) (hI : hp_I D cl S0 w H) (t0 : Nat) {cA : ClassId} {C nm : String} {x : vp_A} (ha : w a = some (.inl (cA, x))) (ht : tys[t0]? = some (cA, .object C)) (e : "[" ++ (FieldType.object C).toString = nm) : ∃ cell : Cell, H[a]? = some cell ∧ cell.vm.isStatics = false ∧ s.vm.findClass nm = some cell.cls := by
  refine ⟨vp_cell cA x, hI.1 a _ ha, ?_, ?_⟩
  · rcases x with ⟨n, f | f | f | f | f⟩ <;> rfl
  · rw [va_nmO (hK.2 t0 _ ht).2 e]
    rcases x with ⟨n, f | f | f | f | f⟩ <;> rfl
end HPC
set_option maxHeartbeats 4000000 in
set_option maxRecDepth 100000 in
theorem m_As_newLength (l : Launch) (G : EG) (S0 : Nat) (w : hp_M) : Met l y_As_newLength w_As_newLength (rl 1 0 0) (eP G S0 w [.int 10, .int 1, .int 5]) (va_Qi (fun r z => r = 15 ∧ z = w) (eW G S0) (hp_A S0)) 0 0 (hp_A S0) := by
  refine Met.ofW (cc := b_As_newLength) (maxL := 4) (ret := (some .int)) (by decide) rfl ?_
  intro p e s m args below meth c s₁ B hml hv
  obtain ⟨rfl, hE, hI, hz⟩ := hv
  have hx := B.exec
  have hb := B.bytes
  have hr := B.returns
  have hts := atoms_spec (ws := w_As_newLength) B.pre
  have hg : ∀ w ∈ gw, w.before _ s = true := fun w h => hts w (List.mem_cons_of_mem _ h)
  have hown : s.vm.findClass "jdk/internal/util/ArraysSupport" = some m.cls := findClass_of_methodNamed B.named
  have hlocks := B.notSynchronized
  have hK := hE.K
  have hS : va_S (hp_A S0) s.heap s.heap [] := va_S.rf
  have hl := lv_entry ([.int 10, .int 1, .int 5]) (n := 4) (Nat.le_of_ble_eq_true rfl)
  rw [lg_entry_eq]
  generalize (lg_sl ([.int 10, .int 1, .int 5]) ++ List.replicate (4 - (lg_sl ([.int 10, .int 1, .int 5])).length) Slot.unset).toArray = ls at hl ⊢
  have hl : lv_has ls 4 [(0, .int 10), (1, .int 1), (2, .int 5)] := hl
  refine lv_iload_n hx hb d_As_newLength_0 rfl (lv_at hl 0 rfl) ?_
  refine lv_iload_n hx hb d_As_newLength_1 rfl (lv_at hl 1 rfl) ?_
  refine lv_iload_n hx hb d_As_newLength_2 rfl (lv_at hl 2 rfl) ?_
  refine va_mmax (x := 1) (y := 5) hx hb (hml.trans hl.1.symm) hown (hg _ k_421) (hg _ k_285) (hg _ k_74) (hg _ k_286) (Nat.le_of_ble_eq_true rfl) (Nat.le_of_ble_eq_true rfl) (Nat.le_of_ble_eq_true rfl) (Nat.le_of_ble_eq_true rfl) d_As_newLength_3 ?_
  rw [show (if (1 : Int32) < 5 then (5 : Int32) else 1) = 5 from by decide]
  refine lv_iadd hx hb d_As_newLength_6 ?_
  refine lv_istore_n (lv' := [(3, .int (10 + 5)), (0, .int 10), (1, .int 1), (2, .int 5)]) hx hb d_As_newLength_7 rfl hl (by decide) rfl (fun ls hl => ?_)
  refine lv_iconst (v := 0) hx hb d_As_newLength_8 (by decide) ?_
  refine lv_iload_n hx hb d_As_newLength_9 rfl (lv_at hl 0 rfl) ?_
  refine lv_icmp_ge (tgt := 21) hx hb d_As_newLength_10 (by decide) (fun c9 => absurd c9 (by decide)) (fun c9 => ?_)
  refine lv_iload_n hx hb d_As_newLength_13 rfl (lv_at hl 0 rfl) ?_
  refine lv_ldc (v := 2147483639) hx hb hown (hg _ k_422) d_As_newLength_14 ?_
  refine lv_icmp_gt (tgt := 21) hx hb d_As_newLength_16 (by decide) (fun c9 => absurd c9 (by decide)) (fun c9 => ?_)
  refine lv_iload_n hx hb d_As_newLength_19 rfl (lv_at hl 0 rfl) ?_
  exact W.iret (v := (10 + 5)) hx hb hr (fun t ht hW => ⟨⟨(10 + 5), w, rfl, ⟨by decide, rfl⟩, eWo ht hI⟩, hS.F ht⟩) hS.2.2 d_As_newLength_20
set_option maxHeartbeats 4000000 in
set_option maxRecDepth 100000 in
theorem m_Ar_copyOf2 (l : Launch) (G : EG) (S0 : Nat) (w : hp_M) (ea : Nat) (f : Nat → Option Nat) (he : w ea = some (aO G 10 f)) (hel : ∀ i y, f i = some y → ∃ fs, w y = some (.inr (1, fs))) : Met l y_Ar_copyOf2 w_Ar_copyOf2 (rl 1 1 15) (eP G S0 w [.ref ea, .int 15, .ref (eS G 0)]) (va_Qo (fun r z => ∃ q, r = some q ∧ w q = none ∧ S0 ≤ q ∧ z = hp_set w q (aO G 15 (va_cpy f (fun _ => none) 0 0 10))) (eW G S0) (hp_A S0)) 1 15 (hp_A S0) := by
  refine Met.ofW (cc := b_Ar_copyOf2) (maxL := 4) (ret := (some (.array (.object "java/lang/Object")))) (by decide) rfl ?_
  intro p e s m args below meth c s₁ B hml hv
  obtain ⟨rfl, hE, hI, hz⟩ := hv
  have hx := B.exec
  have hb := B.bytes
  have hr := B.returns
  have hts := atoms_spec (ws := w_Ar_copyOf2) B.pre
  have hg : ∀ w ∈ gw, w.before _ s = true := fun w h => hts w (List.mem_cons_of_mem _ h)
  have hown : s.vm.findClass "java/util/Arrays" = some m.cls := findClass_of_methodNamed B.named
  have hlocks := B.notSynchronized
  have hK := hE.K
  have hS : va_S (hp_A S0) s.heap s.heap [] := va_S.rf
  have hl := lv_entry ([.ref ea, .int 15, .ref (eS G 0)]) (n := 4) (Nat.le_of_ble_eq_true rfl)
  rw [lg_entry_eq]
  generalize (lg_sl ([.ref ea, .int 15, .ref (eS G 0)]) ++ List.replicate (4 - (lg_sl ([.ref ea, .int 15, .ref (eS G 0)])).length) Slot.unset).toArray = ls at hl ⊢
  have hl : lv_has ls 4 [(0, .ref ea), (1, .int 15), (2, .ref (eS G 0))] := hl
  refine lv_aload_n hx hb d_Ar_copyOf2_0 rfl (lv_at hl 2 rfl) ?_
  refine va_ldcM hx hb hown (hg _ k_445) hE.Mi d_Ar_copyOf2_1 ?_
  refine lv_acmp_ne (rx := (some (eS G 0))) (ry := (some (eS G 0))) (tgt := 13) hx hb d_Ar_copyOf2_3 (by decide) (fun h9 => absurd rfl h9) (fun _ => ?_)
  refine lv_iload_n hx hb d_Ar_copyOf2_6 rfl (lv_at hl 1 rfl) ?_
  refine hp_newq (N' := 15) hx hb hown (hg _ k_447) hE.aoO hK hI hS hz 6 rfl (by decide) (by decide) (by decide) (Nat.le_of_ble_eq_true rfl) (Nat.le_of_ble_eq_true rfl) d_Ar_copyOf2_7 (fun q H hn_q hs_q hz_q hI hS => ?_)
  obtain ⟨w1, ew1⟩ : ∃ z, z = hp_set w q (.inl (G.2.2.1 6, 15, .inr (.inr (.inr (.inr (fun _ => none)))))) := ⟨_, rfl⟩
  have hI : eI G S0 w1 H := by rw [ew1]; exact hI
  have ne_he_q := hp_ne_n he hn_q
  have he : w1 ea = some (.inl (G.2.2.1 6, 10, .inr (.inr (.inr (.inr f))))) := by rw [ew1, hp_set_ne ne_he_q]; exact he
  have hq : w1 q = some (.inl (G.2.2.1 6, 15, .inr (.inr (.inr (.inr (fun _ => none)))))) := by rw [ew1]; exact hp_set_eq _ _ _
  refine lv_goto (tgt := 24) hx hb d_Ar_copyOf2_10 (by decide) ?_
  refine lv_astore_n (lv' := [(3, .ref q), (0, .ref ea), (1, .int 15), (2, .ref (eS G 0))]) hx hb d_Ar_copyOf2_24 rfl hl (by decide) rfl (fun ls hl => ?_)
  refine lv_aload_n hx hb d_Ar_copyOf2_25 rfl (lv_at hl 1 rfl) ?_
  refine lv_iconst (v := 0) hx hb d_Ar_copyOf2_26 (by decide) ?_
  refine lv_aload_n hx hb d_Ar_copyOf2_27 rfl (lv_at hl 0 rfl) ?_
  refine lv_iconst (v := 0) hx hb d_Ar_copyOf2_28 (by decide) ?_
  refine lv_aload_n hx hb d_Ar_copyOf2_29 rfl (lv_at hl 1 rfl) ?_
  refine hp_alen (v := 10) hx hb hK hI 6 he rfl rfl d_Ar_copyOf2_30 ?_
  refine lv_iload_n hx hb d_Ar_copyOf2_31 rfl (lv_at hl 2 rfl) ?_
  refine va_mmin (x := 10) (y := 15) hx hb (hml.trans hl.1.symm) hown (hg _ k_448) (hg _ k_449) (hg _ k_74) (hg _ k_450) (Nat.le_of_ble_eq_true rfl) (Nat.le_of_ble_eq_true rfl) (Nat.le_of_ble_eq_true rfl) (Nat.le_of_ble_eq_true rfl) d_Ar_copyOf2_32 ?_
  rw [show (if (15 : Int32) < 10 then (15 : Int32) else 10) = 10 from by decide]
  refine hp_copyq hx hb (hml.trans hl.1.symm) hown (hg _ k_451) (hg _ k_453) (hg _ k_452) (hg _ k_76) hK hI hS 6 6 1 he hq rfl rfl rfl (hE.Nw q_1027) (sp := 0) (dp := 0) (n := 10) (by decide) (by decide) (by decide) (by decide) (by decide) (fun i y hy => ?_) (Nat.le_of_ble_eq_true rfl) (Nat.le_of_ble_eq_true rfl) d_Ar_copyOf2_35 (fun H locs hI hS hsz => ?_)
  · obtain ⟨fs, hfs⟩ := hel i y hy
    exact ⟨fs, by rw [ew1, hp_set_ne (hp_ne_n hfs hn_q)]; exact hfs⟩
  obtain ⟨w2, ew2⟩ : ∃ z, z = hp_set w1 q (aO G 15 (va_cpy f (fun _ => none) 0 0 10)) := ⟨_, rfl⟩
  have hI : eI G S0 w2 H := by rw [ew2]; exact hI
  have hl : lv_has ls 4 [(0, .ref ea), (1, .int 15), (2, .ref (eS G 0)), (3, .ref q)] := lv_sub hl [1, 2, 3, 0] rfl
  refine lv_aload_n hx hb d_Ar_copyOf2_38 rfl (lv_at hl 3 rfl) ?_
  exact W.aret (v := va_rf (some q)) hx hb hr (Or.inr ⟨_, rfl⟩) (Or.inr ⟨_, rfl⟩) (fun t ht hW => ⟨⟨(some q), w2, rfl, ⟨q, rfl, hn_q, hs_q, by rw [ew2, ew1, hp_set_set]⟩, eWo ht hI⟩, hS.F ht⟩) hS.2.2 d_Ar_copyOf2_39
set_option maxHeartbeats 4000000 in
set_option maxRecDepth 100000 in
theorem m_Ar_copyOf1 (l : Launch) (G : EG) (S0 : Nat) (w : hp_M) (ea : Nat) (f : Nat → Option Nat) (he : w ea = some (aO G 10 f)) (hel : ∀ i y, f i = some y → ∃ fs, w y = some (.inr (1, fs))) : Met l y_Ar_copyOf1 w_Ar_copyOf1 (rl 2 1 15) (eP G S0 w [.ref ea, .int 15]) (va_Qo (fun r z => ∃ q, r = some q ∧ w q = none ∧ S0 ≤ q ∧ z = hp_set w q (aO G 15 (va_cpy f (fun _ => none) 0 0 10))) (eW G S0) (hp_A S0)) 1 15 (hp_A S0) := by
  refine Met.ofW (cc := b_Ar_copyOf1) (maxL := 2) (ret := (some (.array (.object "java/lang/Object")))) (by decide) rfl ?_
  intro p e s m args below meth c s₁ B hml hv
  obtain ⟨rfl, hE, hI, hz⟩ := hv
  have hx := B.exec
  have hb := B.bytes
  have hr := B.returns
  have hts := atoms_spec (ws := w_Ar_copyOf1) B.pre
  have hg : ∀ w ∈ gw, w.before _ s = true := fun w h => hts w (List.mem_cons_of_mem _ h)
  have hown : s.vm.findClass "java/util/Arrays" = some m.cls := findClass_of_methodNamed B.named
  have hlocks := B.notSynchronized
  have hK := hE.K
  have hS : va_S (hp_A S0) s.heap s.heap [] := va_S.rf
  have hl := lv_entry ([.ref ea, .int 15]) (n := 2) (Nat.le_of_ble_eq_true rfl)
  rw [lg_entry_eq]
  generalize (lg_sl ([.ref ea, .int 15]) ++ List.replicate (2 - (lg_sl ([.ref ea, .int 15])).length) Slot.unset).toArray = ls at hl ⊢
  have hl : lv_has ls 2 [(0, .ref ea), (1, .int 15)] := hl
  refine lv_aload_n hx hb d_Ar_copyOf1_0 rfl (lv_at hl 0 rfl) ?_
  refine lv_iload_n hx hb d_Ar_copyOf1_1 rfl (lv_at hl 1 rfl) ?_
  refine lv_aload_n hx hb d_Ar_copyOf1_2 rfl (lv_at hl 0 rfl) ?_
  refine va_getC hx hb (hml.trans hl.1.symm) hown (hg _ k_429) (hE.N q_1025) (hg _ k_1024) (hg _ k_430) (hg _ k_441) hE.Mi (hp_arecv hK hI 6 he rfl (by decide +kernel)) (Nat.le_of_ble_eq_true rfl) (Nat.le_of_ble_eq_true rfl) d_Ar_copyOf1_3 ?_
  refine ec_o (va_runS (As := [.ref ea, .int 15, .ref (eS G 0)]) (rest := []) ⟨hx, hb, hml, hown, hts⟩ (m_Ar_copyOf2 l G S0 w ea f he hel) (cwS 3 hts (gw_S k_442 k_443 k_75 k_444) rfl rfl rfl (by decide +kernel) ⟨Nat.le_of_ble_eq_true rfl, Nat.le_of_ble_eq_true rfl⟩) (eB.preS hE hI hS hz) rfl rfl hl.1 rfl (lv_room (Nat.le_of_ble_eq_true rfl)) d_Ar_copyOf1_6 ⟨Nat.le_of_ble_eq_true rfl, Nat.le_of_ble_eq_true rfl⟩) hS (fun cp w1 H locs ew1 hI hsz hS => ?_)
  obtain ⟨q, ecp, h1, h2, h3⟩ := ew1
  subst ecp
  exact W.aret (v := va_rf (some q)) hx hb hr (Or.inr ⟨_, rfl⟩) (Or.inr ⟨_, rfl⟩) (fun t ht hW => ⟨⟨(some q), w1, rfl, ⟨q, rfl, h1, h2, h3⟩, eWo ht hI⟩, hS.F ht⟩) hS.2.2 d_Ar_copyOf1_9
set_option maxHeartbeats 4000000 in
set_option maxRecDepth 100000 in
theorem m_Ac_init (l : Launch) (G : EG) (S0 : Nat) (w : hp_M) (a : Nat) : Met l y_Ac_init w_Ac_init (rl 1 0 0) (eP G S0 w [.ref a]) (va_Qv (fun z => z = w) (eW G S0) (hp_A S0)) 0 0 (hp_A S0) := by
  refine Met.ofW (cc := b_Ac_init) (maxL := 1) (ret := none) (by decide) rfl ?_
  intro p e s m args below meth c s₁ B hml hv
  obtain ⟨rfl, hE, hI, hz⟩ := hv
  have hx := B.exec
  have hb := B.bytes
  have hr := B.returns
  have hts := atoms_spec (ws := w_Ac_init) B.pre
  have hg : ∀ w ∈ gw, w.before _ s = true := fun w h => hts w (List.mem_cons_of_mem _ h)
  have hown : s.vm.findClass "java/util/AbstractCollection" = some m.cls := findClass_of_methodNamed B.named
  have hlocks := B.notSynchronized
  have hK := hE.K
  have hin : meth.name = "<init>" := (name_of_methodNamed B.named B.method).1
  have hS : va_S (hp_A S0) s.heap s.heap [] := va_S.rf
  have hl := lv_entry ([.ref a]) (n := 1) (Nat.le_of_ble_eq_true rfl)
  rw [lg_entry_eq]
  generalize (lg_sl ([.ref a]) ++ List.replicate (1 - (lg_sl ([.ref a])).length) Slot.unset).toArray = ls at hl ⊢
  have hl : lv_has ls 1 [(0, .ref a)] := hl
  refine lv_aload_n hx hb d_Ac_init_0 rfl (lv_at hl 0 rfl) ?_
  refine W.objInit hx hb hown (hg _ k_106) (hg _ k_86) (hg _ k_87) rfl (hl.1.trans hml.symm) rfl d_Ac_init_1 (Nat.le_of_ble_eq_true rfl) (Nat.le_of_ble_eq_true rfl) ?_
  exact W.vret hx hb hr (fun t ht hW => ⟨⟨w, rfl, rfl, eWo ht hI⟩, hS.F ht⟩) hS.2.2 d_Ac_init_4
set_option maxHeartbeats 4000000 in
set_option maxRecDepth 100000 in
theorem m_Ab_init (l : Launch) (G : EG) (S0 : Nat) (w : hp_M) (a : Nat) {x0 : Int32} {x1 x2 : Value} (ha : w a = some (.inr (4, [.int x0, x1, x2]))) : Met l y_Ab_init w_Ab_init (rl 2 0 0) (eP G S0 w [.ref a]) (va_Qv (fun z => z = hp_set w a (.inr (4, [.int 0, x1, x2]))) (eW G S0) (hp_A S0)) 0 0 (hp_A S0) := by
  refine Met.ofW (cc := b_Ab_init) (maxL := 1) (ret := none) (by decide) rfl ?_
  intro p e s m args below meth c s₁ B hml hv
  obtain ⟨rfl, hE, hI, hz⟩ := hv
  have hx := B.exec
  have hb := B.bytes
  have hr := B.returns
  have hts := atoms_spec (ws := w_Ab_init) B.pre
  have hg : ∀ w ∈ gw, w.before _ s = true := fun w h => hts w (List.mem_cons_of_mem _ h)
  have hown : s.vm.findClass "java/util/AbstractList" = some m.cls := findClass_of_methodNamed B.named
  have hlocks := B.notSynchronized
  have hK := hE.K
  have hin : meth.name = "<init>" := (name_of_methodNamed B.named B.method).1
  have hS : va_S (hp_A S0) s.heap s.heap [] := va_S.rf
  have hl := lv_entry ([.ref a]) (n := 1) (Nat.le_of_ble_eq_true rfl)
  rw [lg_entry_eq]
  generalize (lg_sl ([.ref a]) ++ List.replicate (1 - (lg_sl ([.ref a])).length) Slot.unset).toArray = ls at hl ⊢
  have hl : lv_has ls 1 [(0, .ref a)] := hl
  refine lv_aload_n hx hb d_Ab_init_0 rfl (lv_at hl 0 rfl) ?_
  refine ec_v (va_runI (As := []) (rest := []) ⟨hx, hb, hml, hown, hts⟩ (m_Ac_init l G S0 w a) (cwI 0 hts (gw_code k_105) rfl rfl rfl (hg _ k_62) (hg _ k_103) (hg _ k_104) rfl (by decide +kernel) ⟨Nat.le_of_ble_eq_true rfl, Nat.le_of_ble_eq_true rfl⟩) (eB.preS hE hI hS hz) rfl rfl hl.1 rfl (lv_room (Nat.le_of_ble_eq_true rfl)) d_Ab_init_1 ⟨Nat.le_of_ble_eq_true rfl, Nat.le_of_ble_eq_true rfl⟩) hS (fun w_1 H locs ew_1 hI hsz hS => ?_)
  have ew_1 := ew_1.symm
  subst ew_1
  refine lv_aload_n hx hb d_Ab_init_4 rfl (lv_at hl 0 rfl) ?_
  refine lv_iconst (v := 0) hx hb d_Ab_init_5 (by decide) ?_
  refine hp_putC (ci := 4) (v := .int 0) (ty := .int) (C := R_Al) (T := F_Al) (N := 3) hx hb hg i_Al t_Al t_Al_ok n_Al hown hK hI hS ha rfl 0 (by decide) (hg _ k_111) (fun _ h9 => h9) rfl (by decide +kernel) rfl rfl (Nat.le_of_ble_eq_true rfl) d_Ab_init_6 (fun H locs hI hS hsz => ?_)
  obtain ⟨w_2, ew_2⟩ : ∃ z, z = hp_set w a (.inr (4, [.int 0, x1, x2])) := ⟨_, rfl⟩
  have hI : eI G S0 w_2 H := by rw [ew_2]; exact hI
  have ha : w_2 a = some (.inr (4, [.int 0, x1, x2])) := by rw [ew_2]; exact hp_set_eq _ _ _
  exact W.vret hx hb hr (fun t ht hW => ⟨⟨w_2, rfl, ew_2, eWo ht hI⟩, hS.F ht⟩) hS.2.2 d_Ab_init_9
set_option maxHeartbeats 4000000 in
set_option maxRecDepth 100000 in
theorem m_Al_init (l : Launch) (G : EG) (S0 : Nat) (w : hp_M) (a : Nat) {x0 : Int32} {x1 x2 : Value} (ha : w a = some (.inr (4, [.int x0, x1, x2]))) : Met l y_Al_init w_Al_init (rl 3 0 0) (eP G S0 w [.ref a]) (va_Qv (fun z => z = hp_set w a (.inr (4, [.int 0, .ref (eO G), x2]))) (eW G S0) (hp_A S0)) 0 0 (hp_A S0) := by
  refine Met.ofW (cc := b_Al_init) (maxL := 1) (ret := none) (by decide) rfl ?_
  intro p e s m args below meth c s₁ B hml hv
  obtain ⟨rfl, hE, hI, hz⟩ := hv
  have hx := B.exec
  have hb := B.bytes
  have hr := B.returns
  have hts := atoms_spec (ws := w_Al_init) B.pre
  have hg : ∀ w ∈ gw, w.before _ s = true := fun w h => hts w (List.mem_cons_of_mem _ h)
  have hown : s.vm.findClass "java/util/ArrayList" = some m.cls := findClass_of_methodNamed B.named
  have hlocks := B.notSynchronized
  have hK := hE.K
  have hin : meth.name = "<init>" := (name_of_methodNamed B.named B.method).1
  have hS : va_S (hp_A S0) s.heap s.heap [] := va_S.rf
  have hl := lv_entry ([.ref a]) (n := 1) (Nat.le_of_ble_eq_true rfl)
  rw [lg_entry_eq]
  generalize (lg_sl ([.ref a]) ++ List.replicate (1 - (lg_sl ([.ref a])).length) Slot.unset).toArray = ls at hl ⊢
  have hl : lv_has ls 1 [(0, .ref a)] := hl
  refine lv_aload_n hx hb d_Al_init_0 rfl (lv_at hl 0 rfl) ?_
  refine ec_v (va_runI (As := []) (rest := []) ⟨hx, hb, hml, hown, hts⟩ (m_Ab_init l G S0 w a ha) (cwI 0 hts (gw_code k_102) rfl rfl rfl (hg _ k_63) (hg _ k_100) (hg _ k_101) rfl (by decide +kernel) ⟨Nat.le_of_ble_eq_true rfl, Nat.le_of_ble_eq_true rfl⟩) (eB.preS hE hI hS hz) rfl rfl hl.1 rfl (lv_room (Nat.le_of_ble_eq_true rfl)) d_Al_init_1 ⟨Nat.le_of_ble_eq_true rfl, Nat.le_of_ble_eq_true rfl⟩) hS (fun w_1 H locs ew_1 hI hsz hS => ?_)
  have ha : w_1 a = some (.inr (4, [.int 0, x1, x2])) := by rw [ew_1]; exact hp_set_eq _ _ _
  refine lv_aload_n hx hb d_Al_init_4 rfl (lv_at hl 0 rfl) ?_
  refine va_gets hx hb hE.zE hS hown (hg _ k_107) (fun _ h9 => h9) d_Al_init_5 ?_
  refine hp_putC (ci := 4) (v := .ref (eO G)) (ty := .array (.object "java/lang/Object")) (C := R_Al) (T := F_Al) (N := 3) hx hb hg i_Al t_Al t_Al_ok n_Al hown hK hI hS ha rfl 1 (by decide) (hg _ k_109) (fun _ h9 => h9) rfl (by decide +kernel) rfl rfl (Nat.le_of_ble_eq_true rfl) d_Al_init_8 (fun H locs hI hS hsz => ?_)
  obtain ⟨w_2, ew_2⟩ : ∃ z, z = hp_set w_1 a (.inr (4, [.int 0, .ref (eO G), x2])) := ⟨_, rfl⟩
  have hI : eI G S0 w_2 H := by rw [ew_2]; exact hI
  have ha : w_2 a = some (.inr (4, [.int 0, .ref (eO G), x2])) := by rw [ew_2]; exact hp_set_eq _ _ _
  exact W.vret hx hb hr (fun t ht hW => ⟨⟨w_2, rfl, by rw [ew_2, ew_1, hp_set_set], eWo ht hI⟩, hS.F ht⟩) hS.2.2 d_Al_init_11
set_option maxHeartbeats 4000000 in
set_option maxRecDepth 100000 in
theorem m_Al_grow2_0 (l : Launch) (G : EG) (S0 : Nat) (w : hp_M) (a : Nat) {mc : Int32} (ha : w a = some (oAl mc (eO G) 0)) : Met l y_Al_grow2 w_Al_grow2 (rl 1 1 15) (eP G S0 w [.ref a, .int 1]) (va_Qo (fun r z => ∃ q, r = some q ∧ w q = none ∧ S0 ≤ q ∧ z = hp_set (hp_set w q (aO G 10 (fun _ => none))) a (oAl mc q 0)) (eW G S0) (hp_A S0)) 1 15 (hp_A S0) := by
  refine Met.ofW (cc := b_Al_grow2) (maxL := 4) (ret := (some (.array (.object "java/lang/Object")))) (by decide) rfl ?_
  intro p e s m args below meth c s₁ B hml hv
  obtain ⟨rfl, hE, hI, hz⟩ := hv
  have hx := B.exec
  have hb := B.bytes
  have hr := B.returns
  have hts := atoms_spec (ws := w_Al_grow2) B.pre
  have hg : ∀ w ∈ gw, w.before _ s = true := fun w h => hts w (List.mem_cons_of_mem _ h)
  have hown : s.vm.findClass "java/util/ArrayList" = some m.cls := findClass_of_methodNamed B.named
  have hlocks := B.notSynchronized
  have hK := hE.K
  have hS : va_S (hp_A S0) s.heap s.heap [] := va_S.rf
  have hl := lv_entry ([.ref a, .int 1]) (n := 4) (Nat.le_of_ble_eq_true rfl)
  rw [lg_entry_eq]
  generalize (lg_sl ([.ref a, .int 1]) ++ List.replicate (4 - (lg_sl ([.ref a, .int 1])).length) Slot.unset).toArray = ls at hl ⊢
  have hl : lv_has ls 4 [(0, .ref a), (1, .int 1)] := hl
  refine lv_aload_n hx hb d_Al_grow2_0 rfl (lv_at hl 0 rfl) ?_
  refine hp_get (ci := 4) (v := .ref (eO G)) (C := R_Al) (T := F_Al) (N := 3) hx hb hg i_Al hown hK hI ha rfl 1 (by decide) (hg _ k_109) (fun _ h9 => h9) rfl d_Al_grow2_1 ?_
  refine va_tlen hx hb hE.tE hS rfl d_Al_grow2_4 ?_
  refine lv_istore_n (lv' := [(2, .int (Int32.ofNat 0)), (0, .ref a), (1, .int 1)]) hx hb d_Al_grow2_5 rfl hl (by decide) rfl (fun ls hl => ?_)
  refine lv_iload_n hx hb d_Al_grow2_6 rfl (lv_at hl 0 rfl) ?_
  refine lv_if_gt (tgt := 20) hx hb d_Al_grow2_7 (by decide) (fun c9 => absurd c9 (by decide)) (fun c9 => ?_)
  refine lv_aload_n hx hb d_Al_grow2_10 rfl (lv_at hl 1 rfl) ?_
  refine hp_get (ci := 4) (v := .ref (eO G)) (C := R_Al) (T := F_Al) (N := 3) hx hb hg i_Al hown hK hI ha rfl 1 (by decide) (hg _ k_109) (fun _ h9 => h9) rfl d_Al_grow2_11 ?_
  refine va_gets hx hb hE.zE hS hown (hg _ k_107) (fun _ h9 => h9) d_Al_grow2_14 ?_
  refine lv_acmp_eq (rx := (some (eO G))) (ry := (some (eO G))) (tgt := 45) hx hb d_Al_grow2_17 (by decide) (fun c9 => ?_) (fun c9 => absurd (rfl) c9)
  refine lv_aload_n hx hb d_Al_grow2_45 rfl (lv_at hl 1 rfl) ?_
  refine lv_bipush (v := 10) hx hb d_Al_grow2_46 (by decide) ?_
  refine lv_iload_n hx hb d_Al_grow2_48 rfl (lv_at hl 2 rfl) ?_
  refine va_mmax (x := 10) (y := 1) hx hb (hml.trans hl.1.symm) hown (hg _ k_454) (hg _ k_285) (hg _ k_74) (hg _ k_286) (Nat.le_of_ble_eq_true rfl) (Nat.le_of_ble_eq_true rfl) (Nat.le_of_ble_eq_true rfl) (Nat.le_of_ble_eq_true rfl) d_Al_grow2_49 ?_
  rw [show (if (10 : Int32) < 1 then (1 : Int32) else 10) = 10 from by decide]
  refine hp_newq (N' := 10) hx hb hown (hg _ k_455) hE.aoO hK hI hS hz 6 rfl (by decide) (by decide) (by decide) (Nat.le_of_ble_eq_true rfl) (Nat.le_of_ble_eq_true rfl) d_Al_grow2_52 (fun q H hn_q hs_q hz_q hI hS => ?_)
  obtain ⟨w1, ew1⟩ : ∃ z, z = hp_set w q (.inl (G.2.2.1 6, 10, .inr (.inr (.inr (.inr (fun _ => none)))))) := ⟨_, rfl⟩
  have hI : eI G S0 w1 H := by rw [ew1]; exact hI
  have ne_ha_q := hp_ne_n ha hn_q
  have ha : w1 a = some (.inr (4, [.int mc, .ref (eO G), .int (nI 0)])) := by rw [ew1, hp_set_ne ne_ha_q]; exact ha
  have hq : w1 q = some (.inl (G.2.2.1 6, 10, .inr (.inr (.inr (.inr (fun _ => none)))))) := by rw [ew1]; exact hp_set_eq _ _ _
  refine lv_dup_x1 hx hb d_Al_grow2_55 rfl rfl ?_
  refine hp_putC (ci := 4) (v := .ref q) (ty := .array (.object "java/lang/Object")) (C := R_Al) (T := F_Al) (N := 3) hx hb hg i_Al t_Al t_Al_ok n_Al hown hK hI hS ha rfl 1 (by decide) (hg _ k_109) (fun _ h9 => h9) rfl (by decide +kernel) rfl rfl (Nat.le_of_ble_eq_true rfl) d_Al_grow2_56 (fun H locs hI hS hsz => ?_)
  obtain ⟨w_1, ew_1⟩ : ∃ z, z = hp_set w1 a (.inr (4, [.int mc, .ref q, .int (nI 0)])) := ⟨_, rfl⟩
  have hI : eI G S0 w_1 H := by rw [ew_1]; exact hI
  have hq : w_1 q = some (.inl (G.2.2.1 6, 10, .inr (.inr (.inr (.inr (fun _ => none)))))) := by rw [ew_1, hp_set_ne (hp_ne_ao hq ha)]; exact hq
  have ha : w_1 a = some (.inr (4, [.int mc, .ref q, .int (nI 0)])) := by rw [ew_1]; exact hp_set_eq _ _ _
  refine W.widen (k := 1) (n := 15) (Nat.le_of_ble_eq_true rfl) (Nat.le_of_ble_eq_true rfl) ?_
  exact W.aret (v := va_rf (some q)) hx hb hr (Or.inr ⟨_, rfl⟩) (Or.inr ⟨_, rfl⟩) (fun t ht hW => ⟨⟨(some q), w_1, rfl, ⟨q, rfl, hn_q, hs_q, by rw [ew_1, ew1]⟩, eWo ht hI⟩, hS.F ht⟩) hS.2.2 d_Al_grow2_59
set_option maxHeartbeats 4000000 in
set_option maxRecDepth 100000 in
theorem m_Al_grow2_1 (l : Launch) (G : EG) (S0 : Nat) (w : hp_M) (a ea : Nat) (f : Nat → Option Nat) {mc : Int32} (ha : w a = some (oAl mc ea 10)) (he : w ea = some (aO G 10 f)) (hel : ∀ i y, f i = some y → ∃ fs, w y = some (.inr (1, fs))) : Met l y_Al_grow2 w_Al_grow2 (rl 3 1 15) (eP G S0 w [.ref a, .int 11]) (va_Qo (fun r z => ∃ q, r = some q ∧ w q = none ∧ S0 ≤ q ∧ z = hp_set (hp_set w q (aO G 15 (va_cpy f (fun _ => none) 0 0 10))) a (oAl mc q 10)) (eW G S0) (hp_A S0)) 1 15 (hp_A S0) := by
  refine Met.ofW (cc := b_Al_grow2) (maxL := 4) (ret := (some (.array (.object "java/lang/Object")))) (by decide) rfl ?_
  intro p e s m args below meth c s₁ B hml hv
  obtain ⟨rfl, hE, hI, hz⟩ := hv
  have hx := B.exec
  have hb := B.bytes
  have hr := B.returns
  have hts := atoms_spec (ws := w_Al_grow2) B.pre
  have hg : ∀ w ∈ gw, w.before _ s = true := fun w h => hts w (List.mem_cons_of_mem _ h)
  have hown : s.vm.findClass "java/util/ArrayList" = some m.cls := findClass_of_methodNamed B.named
  have hlocks := B.notSynchronized
  have hK := hE.K
  have hS : va_S (hp_A S0) s.heap s.heap [] := va_S.rf
  have hl := lv_entry ([.ref a, .int 11]) (n := 4) (Nat.le_of_ble_eq_true rfl)
  rw [lg_entry_eq]
  generalize (lg_sl ([.ref a, .int 11]) ++ List.replicate (4 - (lg_sl ([.ref a, .int 11])).length) Slot.unset).toArray = ls at hl ⊢
  have hl : lv_has ls 4 [(0, .ref a), (1, .int 11)] := hl
  refine lv_aload_n hx hb d_Al_grow2_0 rfl (lv_at hl 0 rfl) ?_
  refine hp_get (ci := 4) (v := .ref ea) (C := R_Al) (T := F_Al) (N := 3) hx hb hg i_Al hown hK hI ha rfl 1 (by decide) (hg _ k_109) (fun _ h9 => h9) rfl d_Al_grow2_1 ?_
  refine hp_alen (v := 10) hx hb hK hI 6 he rfl rfl d_Al_grow2_4 ?_
  refine lv_istore_n (lv' := [(2, .int 10), (0, .ref a), (1, .int 11)]) hx hb d_Al_grow2_5 rfl hl (by decide) rfl (fun ls hl => ?_)
  refine lv_iload_n hx hb d_Al_grow2_6 rfl (lv_at hl 0 rfl) ?_
  refine lv_if_gt (tgt := 20) hx hb d_Al_grow2_7 (by decide) (fun c9 => ?_) (fun c9 => absurd (by decide) c9)
  refine lv_iload_n hx hb d_Al_grow2_20 rfl (lv_at hl 0 rfl) ?_
  refine lv_iload_n hx hb d_Al_grow2_21 rfl (lv_at hl 2 rfl) ?_
  refine lv_iload_n hx hb d_Al_grow2_22 rfl (lv_at hl 0 rfl) ?_
  refine lv_isub hx hb d_Al_grow2_23 ?_
  refine lv_iload_n hx hb d_Al_grow2_24 rfl (lv_at hl 0 rfl) ?_
  refine lv_iconst (v := 1) hx hb d_Al_grow2_25 (by decide) ?_
  refine lv_ishr hx hb d_Al_grow2_26 ?_
  rw [show (11 : Int32) - 10 = 1 from by decide, show (10 : Int32) >>> (1 &&& 31) = 5 from by decide]
  refine ec_i (va_runS (As := [.int 10, .int 1, .int 5]) (rest := []) ⟨hx, hb, hml, hown, hts⟩ (m_As_newLength l G S0 w) (va_cwS 3 hts (gw_SA k_418 k_419 k_73 k_420) rfl rfl rfl (by decide +kernel) ⟨Nat.le_of_ble_eq_true rfl, Nat.le_of_ble_eq_true rfl⟩) (eB.preS hE hI hS hz) rfl rfl hl.1 rfl (lv_room (Nat.le_of_ble_eq_true rfl)) d_Al_grow2_27 ⟨Nat.le_of_ble_eq_true rfl, Nat.le_of_ble_eq_true rfl⟩) hS (fun nl w_1 H locs ew_1 hI hsz hS => ?_)
  obtain ⟨enl, ew_1⟩ := ew_1
  have ew_1 := ew_1.symm
  subst ew_1
  subst enl
  refine lv_istore_n (lv' := [(3, .int 15), (2, .int 10), (0, .ref a), (1, .int 11)]) hx hb d_Al_grow2_30 rfl hl (by decide) rfl (fun ls hl => ?_)
  refine lv_aload_n hx hb d_Al_grow2_31 rfl (lv_at hl 2 rfl) ?_
  refine lv_aload_n hx hb d_Al_grow2_32 rfl (lv_at hl 2 rfl) ?_
  refine hp_get (ci := 4) (v := .ref ea) (C := R_Al) (T := F_Al) (N := 3) hx hb hg i_Al hown hK hI ha rfl 1 (by decide) (hg _ k_109) (fun _ h9 => h9) rfl d_Al_grow2_33 ?_
  refine lv_iload_n hx hb d_Al_grow2_36 rfl (lv_at hl 0 rfl) ?_
  refine ec_o (va_runS (As := [.ref ea, .int 15]) (rest := [.ref a]) ⟨hx, hb, hml, hown, hts⟩ (m_Ar_copyOf1 l G S0 w ea f he hel) (va_cwS 2 hts (gw_SA k_426 k_427 k_75 k_428) rfl rfl rfl (by decide +kernel) ⟨Nat.le_of_ble_eq_true rfl, Nat.le_of_ble_eq_true rfl⟩) (eB.preS hE hI hS hz) rfl rfl hl.1 rfl (lv_room (Nat.le_of_ble_eq_true rfl)) d_Al_grow2_37 ⟨Nat.le_of_ble_eq_true rfl, Nat.le_of_ble_eq_true rfl⟩) hS (fun cp w1 H locs ew1 hI hsz hS => ?_)
  obtain ⟨q, ecp, h1, h2, h3⟩ := ew1
  subst ecp
  have hnaq : a ≠ q := hp_ne_n ha h1
  have ha1 : w1 a = some (oAl mc ea 10) := by rw [h3, hp_set_ne hnaq]; exact ha
  refine lv_dup_x1 hx hb d_Al_grow2_40 rfl rfl ?_
  refine hp_putC (ci := 4) (v := .ref q) (ty := .array (.object "java/lang/Object")) (C := R_Al) (T := F_Al) (N := 3) hx hb hg i_Al t_Al t_Al_ok n_Al hown hK hI hS ha1 rfl 1 (by decide) (hg _ k_109) (fun _ h9 => h9) rfl (by decide +kernel) rfl rfl (Nat.le_of_ble_eq_true rfl) d_Al_grow2_41 (fun H locs hI hS hsz => ?_)
  obtain ⟨w_2, ew_2⟩ : ∃ z, z = hp_set w1 a (.inr (4, [.int mc, .ref q, .int (nI 10)])) := ⟨_, rfl⟩
  have hI : eI G S0 w_2 H := by rw [ew_2]; exact hI
  have ha1 : w_2 a = some (.inr (4, [.int mc, .ref q, .int (nI 10)])) := by rw [ew_2]; exact hp_set_eq _ _ _
  exact W.aret (v := va_rf (some q)) hx hb hr (Or.inr ⟨_, rfl⟩) (Or.inr ⟨_, rfl⟩) (fun t ht hW => ⟨⟨(some q), w_2, rfl, ⟨q, rfl, h1, h2, by rw [ew_2, h3]⟩, eWo ht hI⟩, hS.F ht⟩) hS.2.2 d_Al_grow2_44
set_option maxHeartbeats 4000000 in
set_option maxRecDepth 100000 in
theorem m_Al_grow1_0 (l : Launch) (G : EG) (S0 : Nat) (w : hp_M) (a : Nat) {mc : Int32} (ha : w a = some (oAl mc (eO G) 0)) : Met l y_Al_grow1 w_Al_grow1 (rl 2 1 15) (eP G S0 w [.ref a]) (va_Qo (fun r z => ∃ q, r = some q ∧ w q = none ∧ S0 ≤ q ∧ z = hp_set (hp_set w q (aO G 10 (fun _ => none))) a (oAl mc q 0)) (eW G S0) (hp_A S0)) 1 15 (hp_A S0) := by
  refine Met.ofW (cc := b_Al_grow1) (maxL := 1) (ret := (some (.array (.object "java/lang/Object")))) (by decide) rfl ?_
  intro p e s m args below meth c s₁ B hml hv
  obtain ⟨rfl, hE, hI, hz⟩ := hv
  have hx := B.exec
  have hb := B.bytes
  have hr := B.returns
  have hts := atoms_spec (ws := w_Al_grow1) B.pre
  have hg : ∀ w ∈ gw, w.before _ s = true := fun w h => hts w (List.mem_cons_of_mem _ h)
  have hown : s.vm.findClass "java/util/ArrayList" = some m.cls := findClass_of_methodNamed B.named
  have hlocks := B.notSynchronized
  have hK := hE.K
  have hS : va_S (hp_A S0) s.heap s.heap [] := va_S.rf
  have hl := lv_entry ([.ref a]) (n := 1) (Nat.le_of_ble_eq_true rfl)
  rw [lg_entry_eq]
  generalize (lg_sl ([.ref a]) ++ List.replicate (1 - (lg_sl ([.ref a])).length) Slot.unset).toArray = ls at hl ⊢
  have hl : lv_has ls 1 [(0, .ref a)] := hl
  refine lv_aload_n hx hb d_Al_grow1_0 rfl (lv_at hl 0 rfl) ?_
  refine lv_aload_n hx hb d_Al_grow1_1 rfl (lv_at hl 0 rfl) ?_
  refine hp_get (ci := 4) (v := .int (nI 0)) (C := R_Al) (T := F_Al) (N := 3) hx hb hg i_Al hown hK hI ha rfl 2 (by decide) (hg _ k_110) (fun _ h9 => h9) rfl d_Al_grow1_2 ?_
  refine lv_iconst (v := 1) hx hb d_Al_grow1_5 (by decide) ?_
  refine lv_iadd hx hb d_Al_grow1_6 ?_
  rw [show nI 0 + 1 = (1 : Int32) from by decide]
  refine ec_o (va_runV (As := [.int 1]) (rest := []) ⟨hx, hb, hml, hown, hts⟩ (m_Al_grow2_0 l G S0 w a ha) (cwV 1 hts (gw_V k_414 k_416 k_13 k_64 k_417) rfl rfl rfl (by decide +kernel) ⟨Nat.le_of_ble_eq_true rfl, Nat.le_of_ble_eq_true rfl⟩) (eB.preV hE hI hS hz rfl ha) rfl rfl hl.1 rfl (lv_room (Nat.le_of_ble_eq_true rfl)) d_Al_grow1_7 ⟨Nat.le_of_ble_eq_true rfl, Nat.le_of_ble_eq_true rfl⟩) hS (fun cp w1 H locs ew1 hI hsz hS => ?_)
  obtain ⟨q, ecp, h1, h2, h3⟩ := ew1
  subst ecp
  exact W.aret (v := va_rf (some q)) hx hb hr (Or.inr ⟨_, rfl⟩) (Or.inr ⟨_, rfl⟩) (fun t ht hW => ⟨⟨(some q), w1, rfl, ⟨q, rfl, h1, h2, h3⟩, eWo ht hI⟩, hS.F ht⟩) hS.2.2 d_Al_grow1_10
set_option maxHeartbeats 4000000 in
set_option maxRecDepth 100000 in
theorem m_Al_grow1_1 (l : Launch) (G : EG) (S0 : Nat) (w : hp_M) (a ea : Nat) (f : Nat → Option Nat) {mc : Int32} (ha : w a = some (oAl mc ea 10)) (he : w ea = some (aO G 10 f)) (hel : ∀ i y, f i = some y → ∃ fs, w y = some (.inr (1, fs))) : Met l y_Al_grow1 w_Al_grow1 (rl 4 1 15) (eP G S0 w [.ref a]) (va_Qo (fun r z => ∃ q, r = some q ∧ w q = none ∧ S0 ≤ q ∧ z = hp_set (hp_set w q (aO G 15 (va_cpy f (fun _ => none) 0 0 10))) a (oAl mc q 10)) (eW G S0) (hp_A S0)) 1 15 (hp_A S0) := by
  refine Met.ofW (cc := b_Al_grow1) (maxL := 1) (ret := (some (.array (.object "java/lang/Object")))) (by decide) rfl ?_
  intro p e s m args below meth c s₁ B hml hv
  obtain ⟨rfl, hE, hI, hz⟩ := hv
  have hx := B.exec
  have hb := B.bytes
  have hr := B.returns
  have hts := atoms_spec (ws := w_Al_grow1) B.pre
  have hg : ∀ w ∈ gw, w.before _ s = true := fun w h => hts w (List.mem_cons_of_mem _ h)
  have hown : s.vm.findClass "java/util/ArrayList" = some m.cls := findClass_of_methodNamed B.named
  have hlocks := B.notSynchronized
  have hK := hE.K
  have hS : va_S (hp_A S0) s.heap s.heap [] := va_S.rf
  have hl := lv_entry ([.ref a]) (n := 1) (Nat.le_of_ble_eq_true rfl)
  rw [lg_entry_eq]
  generalize (lg_sl ([.ref a]) ++ List.replicate (1 - (lg_sl ([.ref a])).length) Slot.unset).toArray = ls at hl ⊢
  have hl : lv_has ls 1 [(0, .ref a)] := hl
  refine lv_aload_n hx hb d_Al_grow1_0 rfl (lv_at hl 0 rfl) ?_
  refine lv_aload_n hx hb d_Al_grow1_1 rfl (lv_at hl 0 rfl) ?_
  refine hp_get (ci := 4) (v := .int (nI 10)) (C := R_Al) (T := F_Al) (N := 3) hx hb hg i_Al hown hK hI ha rfl 2 (by decide) (hg _ k_110) (fun _ h9 => h9) rfl d_Al_grow1_2 ?_
  refine lv_iconst (v := 1) hx hb d_Al_grow1_5 (by decide) ?_
  refine lv_iadd hx hb d_Al_grow1_6 ?_
  rw [show nI 10 + 1 = (11 : Int32) from by decide]
  refine ec_o (va_runV (As := [.int 11]) (rest := []) ⟨hx, hb, hml, hown, hts⟩ (m_Al_grow2_1 l G S0 w a ea f ha he hel) (cwV 1 hts (gw_V k_414 k_416 k_13 k_64 k_417) rfl rfl rfl (by decide +kernel) ⟨Nat.le_of_ble_eq_true rfl, Nat.le_of_ble_eq_true rfl⟩) (eB.preV hE hI hS hz rfl ha) rfl rfl hl.1 rfl (lv_room (Nat.le_of_ble_eq_true rfl)) d_Al_grow1_7 ⟨Nat.le_of_ble_eq_true rfl, Nat.le_of_ble_eq_true rfl⟩) hS (fun cp w1 H locs ew1 hI hsz hS => ?_)
  obtain ⟨q, ecp, h1, h2, h3⟩ := ew1
  subst ecp
  exact W.aret (v := va_rf (some q)) hx hb hr (Or.inr ⟨_, rfl⟩) (Or.inr ⟨_, rfl⟩) (fun t ht hW => ⟨⟨(some q), w1, rfl, ⟨q, rfl, h1, h2, h3⟩, eWo ht hI⟩, hS.F ht⟩) hS.2.2 d_Al_grow1_10
set_option maxHeartbeats 4000000 in
set_option maxRecDepth 100000 in
theorem m_Al_add2_0 (l : Launch) (G : EG) (S0 : Nat) (w : hp_M) (a x : Nat) {mc : Int32} {fs : List Value} (ha : w a = some (oAl mc (eO G) 0)) (hx0 : w x = some (.inr (1, fs))) : Met l y_Al_add2 w_Al_add2 (rl 3 1 15) (eP G S0 w [.ref a, .ref x, .ref (eO G), .int (nI 0)]) (va_Qv (fun z => ∃ q, w q = none ∧ S0 ≤ q ∧ z = hp_set (hp_set w q (aO G 10 (va_up (fun _ => none) 0 (some x)))) a (oAl mc q 1)) (eW G S0) (hp_A S0)) 1 15 (hp_A S0) := by
  refine Met.ofW (cc := b_Al_add2) (maxL := 4) (ret := none) (by decide) rfl ?_
  intro p e s m args below meth c s₁ B hml hv
  obtain ⟨rfl, hE, hI, hz⟩ := hv
  have hx := B.exec
  have hb := B.bytes
  have hr := B.returns
  have hts := atoms_spec (ws := w_Al_add2) B.pre
  have hg : ∀ w ∈ gw, w.before _ s = true := fun w h => hts w (List.mem_cons_of_mem _ h)
  have hown : s.vm.findClass "java/util/ArrayList" = some m.cls := findClass_of_methodNamed B.named
  have hlocks := B.notSynchronized
  have hK := hE.K
  have hS : va_S (hp_A S0) s.heap s.heap [] := va_S.rf
  have hl := lv_entry ([.ref a, .ref x, .ref (eO G), .int (nI 0)]) (n := 4) (Nat.le_of_ble_eq_true rfl)
  rw [lg_entry_eq]
  generalize (lg_sl ([.ref a, .ref x, .ref (eO G), .int (nI 0)]) ++ List.replicate (4 - (lg_sl ([.ref a, .ref x, .ref (eO G), .int (nI 0)])).length) Slot.unset).toArray = ls at hl ⊢
  have hl : lv_has ls 4 [(0, .ref a), (1, .ref x), (2, .ref (eO G)), (3, .int (nI 0))] := hl
  refine lv_iload_n hx hb d_Al_add2_0 rfl (lv_at hl 3 rfl) ?_
  refine lv_aload_n hx hb d_Al_add2_1 rfl (lv_at hl 2 rfl) ?_
  refine va_tlen hx hb hE.tE hS rfl d_Al_add2_2 ?_
  refine lv_icmp_ne (tgt := 11) hx hb d_Al_add2_3 (by decide) (fun c9 => absurd c9 (by decide)) (fun c9 => ?_)
  refine lv_aload_n hx hb d_Al_add2_6 rfl (lv_at hl 0 rfl) ?_
  refine ec_o (va_runV (As := []) (rest := []) ⟨hx, hb, hml, hown, hts⟩ (m_Al_grow1_0 l G S0 w a ha) (cwV 0 hts (gw_V k_410 k_412 k_12 k_64 k_413) rfl rfl rfl (by decide +kernel) ⟨Nat.le_of_ble_eq_true rfl, Nat.le_of_ble_eq_true rfl⟩) (eB.preV hE hI hS hz rfl ha) rfl rfl hl.1 rfl (lv_room (Nat.le_of_ble_eq_true rfl)) d_Al_add2_7 ⟨Nat.le_of_ble_eq_true rfl, Nat.le_of_ble_eq_true rfl⟩) hS (fun cp w1 H locs ew1 hI hsz hS => ?_)
  obtain ⟨q, ecp, h1, h2, h3⟩ := ew1
  subst ecp
  have hnaq : a ≠ q := hp_ne_n ha h1
  have hnxq : x ≠ q := hp_ne_n hx0 h1
  have hnxa : x ≠ a := hp_ne_c (by decide) hx0 ha
  have ha1 : w1 a = some (oAl mc q 0) := by rw [h3]; exact hp_set_eq _ _ _
  have hx1 : w1 x = some (.inr (1, fs)) := by rw [h3, hp_set_ne hnxa, hp_set_ne hnxq]; exact hx0
  have hq1 : w1 q = some (aO G 10 (fun _ => none)) := by rw [h3, hp_set_ne (Ne.symm hnaq)]; exact hp_set_eq _ _ _
  refine lv_astore_n (lv' := [(2, .ref q), (0, .ref a), (1, .ref x), (3, .int (nI 0))]) hx hb d_Al_add2_10 rfl hl (by decide) rfl (fun ls hl => ?_)
  refine lv_aload_n hx hb d_Al_add2_11 rfl (lv_at hl 0 rfl) ?_
  refine lv_iload_n hx hb d_Al_add2_12 rfl (lv_at hl 3 rfl) ?_
  refine lv_aload_n hx hb d_Al_add2_13 rfl (lv_at hl 2 rfl) ?_
  refine hp_aast hx hb hK hI hS 6 1 hq1 rfl (hE.Nw q_1027) hx1 rfl (vp_in_nI (by decide) (by decide)) d_Al_add2_14 (fun H locs hI hS hsz => ?_)
  obtain ⟨w2, ew2⟩ : ∃ z, z = hp_set w1 q (aO G 10 (va_up (fun _ => none) 0 (some x))) := ⟨_, rfl⟩
  have hI : eI G S0 w2 H := by rw [ew2]; exact hI
  have ha2 : w2 a = some (oAl mc q 0) := by rw [ew2, hp_set_ne hnaq]; exact ha1
  refine lv_aload_n hx hb d_Al_add2_15 rfl (lv_at hl 1 rfl) ?_
  refine lv_iload_n hx hb d_Al_add2_16 rfl (lv_at hl 3 rfl) ?_
  refine lv_iconst (v := 1) hx hb d_Al_add2_17 (by decide) ?_
  refine lv_iadd hx hb d_Al_add2_18 ?_
  rw [show nI 0 + 1 = nI 1 from by decide]
  refine hp_putC (ci := 4) (v := .int (nI 1)) (ty := .int) (C := R_Al) (T := F_Al) (N := 3) hx hb hg i_Al t_Al t_Al_ok n_Al hown hK hI hS ha2 rfl 2 (by decide) (hg _ k_110) (fun _ h9 => h9) rfl (by decide +kernel) rfl rfl (Nat.le_of_ble_eq_true rfl) d_Al_add2_19 (fun H locs hI hS hsz => ?_)
  obtain ⟨w_1, ew_1⟩ : ∃ z, z = hp_set w2 a (.inr (4, [.int mc, .ref q, .int (nI 1)])) := ⟨_, rfl⟩
  have hI : eI G S0 w_1 H := by rw [ew_1]; exact hI
  have ha2 : w_1 a = some (.inr (4, [.int mc, .ref q, .int (nI 1)])) := by rw [ew_1]; exact hp_set_eq _ _ _
  exact W.vret hx hb hr (fun t ht hW => ⟨⟨w_1, rfl, ⟨q, h1, h2, by rw [ew_1, ew2, h3, hp_set_comm hnaq, hp_set_set, hp_set_set]⟩, eWo ht hI⟩, hS.F ht⟩) hS.2.2 d_Al_add2_22
set_option maxHeartbeats 4000000 in
set_option maxRecDepth 100000 in
theorem m_Al_add2_1 (l : Launch) (G : EG) (S0 : Nat) (w : hp_M) (a x ea n cap : Nat) (f : Nat → Option Nat) (hn : n < cap) (hc : cap < 2 ^ 31) {mc : Int32} {fs : List Value} (ha : w a = some (oAl mc ea n)) (he : w ea = some (aO G cap f)) (hx0 : w x = some (.inr (1, fs))) : Met l y_Al_add2 w_Al_add2 (rl 0 1 15) (eP G S0 w [.ref a, .ref x, .ref ea, .int (nI n)]) (va_Qv (fun z => z = hp_set (hp_set w ea (aO G cap (va_up f n (some x)))) a (oAl mc ea (n + 1))) (eW G S0) (hp_A S0)) 1 15 (hp_A S0) := by
  refine Met.ofW (cc := b_Al_add2) (maxL := 4) (ret := none) (by decide) rfl ?_
  intro p e s m args below meth c s₁ B hml hv
  obtain ⟨rfl, hE, hI, hz⟩ := hv
  have hx := B.exec
  have hb := B.bytes
  have hr := B.returns
  have hts := atoms_spec (ws := w_Al_add2) B.pre
  have hg : ∀ w ∈ gw, w.before _ s = true := fun w h => hts w (List.mem_cons_of_mem _ h)
  have hown : s.vm.findClass "java/util/ArrayList" = some m.cls := findClass_of_methodNamed B.named
  have hlocks := B.notSynchronized
  have hK := hE.K
  have hS : va_S (hp_A S0) s.heap s.heap [] := va_S.rf
  have hl := lv_entry ([.ref a, .ref x, .ref ea, .int (nI n)]) (n := 4) (Nat.le_of_ble_eq_true rfl)
  rw [lg_entry_eq]
  generalize (lg_sl ([.ref a, .ref x, .ref ea, .int (nI n)]) ++ List.replicate (4 - (lg_sl ([.ref a, .ref x, .ref ea, .int (nI n)])).length) Slot.unset).toArray = ls at hl ⊢
  have hl : lv_has ls 4 [(0, .ref a), (1, .ref x), (2, .ref ea), (3, .int (nI n))] := hl
  refine lv_iload_n hx hb d_Al_add2_0 rfl (lv_at hl 3 rfl) ?_
  refine lv_aload_n hx hb d_Al_add2_1 rfl (lv_at hl 2 rfl) ?_
  refine hp_alen (v := nI cap) hx hb hK hI 6 he rfl rfl d_Al_add2_2 ?_
  refine lv_icmp_ne (tgt := 11) hx hb d_Al_add2_3 (by decide) (fun c9 => ?_) (fun c9 => absurd c9 ((fun h => by have := (nI_eq (a := n) (b := cap) (by omega) (by omega)).mp h; omega)))
  refine lv_aload_n hx hb d_Al_add2_11 rfl (lv_at hl 2 rfl) ?_
  refine lv_iload_n hx hb d_Al_add2_12 rfl (lv_at hl 3 rfl) ?_
  refine lv_aload_n hx hb d_Al_add2_13 rfl (lv_at hl 1 rfl) ?_
  have hn14 : (nI n).toNatClampNeg = n := nI_clamp (by omega)
  refine hp_aast hx hb hK hI hS 6 1 he rfl (hE.Nw q_1027) hx0 rfl (vp_in_nI hn hc) d_Al_add2_14 (fun H locs hI hS hsz => ?_)
  rw [hn14] at hI
  obtain ⟨w2, ew2⟩ : ∃ z, z = hp_set w ea (aO G cap (va_up f n (some x))) := ⟨_, rfl⟩
  have hI : eI G S0 w2 H := by rw [ew2]; exact hI
  have ha2 : w2 a = some (oAl mc ea n) := by rw [ew2, hp_set_ne (hp_ne_oa ha he)]; exact ha
  refine lv_aload_n hx hb d_Al_add2_15 rfl (lv_at hl 0 rfl) ?_
  refine lv_iload_n hx hb d_Al_add2_16 rfl (lv_at hl 3 rfl) ?_
  refine lv_iconst (v := 1) hx hb d_Al_add2_17 (by decide) ?_
  refine lv_iadd hx hb d_Al_add2_18 ?_
  rw [nI_1]
  refine hp_putC (ci := 4) (v := .int (nI (n + 1))) (ty := .int) (C := R_Al) (T := F_Al) (N := 3) hx hb hg i_Al t_Al t_Al_ok n_Al hown hK hI hS ha2 rfl 2 (by decide) (hg _ k_110) (fun _ h9 => h9) rfl (by decide +kernel) rfl rfl (Nat.le_of_ble_eq_true rfl) d_Al_add2_19 (fun H locs hI hS hsz => ?_)
  obtain ⟨w_1, ew_1⟩ : ∃ z, z = hp_set w2 a (.inr (4, [.int mc, .ref ea, .int (nI (n + 1))])) := ⟨_, rfl⟩
  have hI : eI G S0 w_1 H := by rw [ew_1]; exact hI
  have ha2 : w_1 a = some (.inr (4, [.int mc, .ref ea, .int (nI (n + 1))])) := by rw [ew_1]; exact hp_set_eq _ _ _
  refine W.widen (k := 1) (n := 15) (Nat.le_of_ble_eq_true rfl) (Nat.le_of_ble_eq_true rfl) ?_
  exact W.vret hx hb hr (fun t ht hW => ⟨⟨w_1, rfl, by rw [ew_1, ew2], eWo ht hI⟩, hS.F ht⟩) hS.2.2 d_Al_add2_22
set_option maxHeartbeats 4000000 in
set_option maxRecDepth 100000 in
theorem m_Al_add2_2 (l : Launch) (G : EG) (S0 : Nat) (w : hp_M) (a x ea : Nat) (f : Nat → Option Nat) (hel : ∀ i y, f i = some y → ∃ fs, w y = some (.inr (1, fs))) {mc : Int32} {fs : List Value} (ha : w a = some (oAl mc ea 10)) (he : w ea = some (aO G 10 f)) (hx0 : w x = some (.inr (1, fs))) : Met l y_Al_add2 w_Al_add2 (rl 5 1 15) (eP G S0 w [.ref a, .ref x, .ref ea, .int (nI 10)]) (va_Qv (fun z => ∃ q, w q = none ∧ S0 ≤ q ∧ z = hp_set (hp_set w q (aO G 15 (va_up (va_cpy f (fun _ => none) 0 0 10) 10 (some x)))) a (oAl mc q 11)) (eW G S0) (hp_A S0)) 1 15 (hp_A S0) := by
  refine Met.ofW (cc := b_Al_add2) (maxL := 4) (ret := none) (by decide) rfl ?_
  intro p e s m args below meth c s₁ B hml hv
  obtain ⟨rfl, hE, hI, hz⟩ := hv
  have hx := B.exec
  have hb := B.bytes
  have hr := B.returns
  have hts := atoms_spec (ws := w_Al_add2) B.pre
  have hg : ∀ w ∈ gw, w.before _ s = true := fun w h => hts w (List.mem_cons_of_mem _ h)
  have hown : s.vm.findClass "java/util/ArrayList" = some m.cls := findClass_of_methodNamed B.named
  have hlocks := B.notSynchronized
  have hK := hE.K
  have hS : va_S (hp_A S0) s.heap s.heap [] := va_S.rf
  have hl := lv_entry ([.ref a, .ref x, .ref ea, .int (nI 10)]) (n := 4) (Nat.le_of_ble_eq_true rfl)
  rw [lg_entry_eq]
  generalize (lg_sl ([.ref a, .ref x, .ref ea, .int (nI 10)]) ++ List.replicate (4 - (lg_sl ([.ref a, .ref x, .ref ea, .int (nI 10)])).length) Slot.unset).toArray = ls at hl ⊢
  have hl : lv_has ls 4 [(0, .ref a), (1, .ref x), (2, .ref ea), (3, .int (nI 10))] := hl
  refine lv_iload_n hx hb d_Al_add2_0 rfl (lv_at hl 3 rfl) ?_
  refine lv_aload_n hx hb d_Al_add2_1 rfl (lv_at hl 2 rfl) ?_
  refine hp_alen (v := nI 10) hx hb hK hI 6 he rfl rfl d_Al_add2_2 ?_
  refine lv_icmp_ne (tgt := 11) hx hb d_Al_add2_3 (by decide) (fun c9 => absurd c9 ((fun h => h rfl))) (fun c9 => ?_)
  refine lv_aload_n hx hb d_Al_add2_6 rfl (lv_at hl 0 rfl) ?_
  refine ec_o (va_runV (As := []) (rest := []) ⟨hx, hb, hml, hown, hts⟩ (m_Al_grow1_1 l G S0 w a ea f ha he hel) (cwV 0 hts (gw_V k_410 k_412 k_12 k_64 k_413) rfl rfl rfl (by decide +kernel) ⟨Nat.le_of_ble_eq_true rfl, Nat.le_of_ble_eq_true rfl⟩) (eB.preV hE hI hS hz rfl ha) rfl rfl hl.1 rfl (lv_room (Nat.le_of_ble_eq_true rfl)) d_Al_add2_7 ⟨Nat.le_of_ble_eq_true rfl, Nat.le_of_ble_eq_true rfl⟩) hS (fun cp w1 H locs ew1 hI hsz hS => ?_)
  obtain ⟨q, ecp, h1, h2, h3⟩ := ew1
  subst ecp
  have hnaq : a ≠ q := hp_ne_n ha h1
  have hnxq : x ≠ q := hp_ne_n hx0 h1
  have hnxa : x ≠ a := hp_ne_c (by decide) hx0 ha
  have ha1 : w1 a = some (oAl mc q 10) := by rw [h3]; exact hp_set_eq _ _ _
  have hx1 : w1 x = some (.inr (1, fs)) := by rw [h3, hp_set_ne hnxa, hp_set_ne hnxq]; exact hx0
  have hq1 : w1 q = some (aO G 15 (va_cpy f (fun _ => none) 0 0 10)) := by rw [h3, hp_set_ne (Ne.symm hnaq)]; exact hp_set_eq _ _ _
  refine lv_astore_n (lv' := [(2, .ref q), (0, .ref a), (1, .ref x), (3, .int (nI 10))]) hx hb d_Al_add2_10 rfl hl (by decide) rfl (fun ls hl => ?_)
  refine lv_aload_n hx hb d_Al_add2_11 rfl (lv_at hl 0 rfl) ?_
  refine lv_iload_n hx hb d_Al_add2_12 rfl (lv_at hl 3 rfl) ?_
  refine lv_aload_n hx hb d_Al_add2_13 rfl (lv_at hl 2 rfl) ?_
  refine hp_aast hx hb hK hI hS 6 1 hq1 rfl (hE.Nw q_1027) hx1 rfl (vp_in_nI (by decide) (by decide)) d_Al_add2_14 (fun H locs hI hS hsz => ?_)
  obtain ⟨w2, ew2⟩ : ∃ z, z = hp_set w1 q (aO G 15 (va_up (va_cpy f (fun _ => none) 0 0 10) 10 (some x))) := ⟨_, rfl⟩
  have hI : eI G S0 w2 H := by rw [ew2]; exact hI
  have ha2 : w2 a = some (oAl mc q 10) := by rw [ew2, hp_set_ne hnaq]; exact ha1
  refine lv_aload_n hx hb d_Al_add2_15 rfl (lv_at hl 1 rfl) ?_
  refine lv_iload_n hx hb d_Al_add2_16 rfl (lv_at hl 3 rfl) ?_
  refine lv_iconst (v := 1) hx hb d_Al_add2_17 (by decide) ?_
  refine lv_iadd hx hb d_Al_add2_18 ?_
  rw [show nI 10 + 1 = nI 11 from by decide]
  refine hp_putC (ci := 4) (v := .int (nI 11)) (ty := .int) (C := R_Al) (T := F_Al) (N := 3) hx hb hg i_Al t_Al t_Al_ok n_Al hown hK hI hS ha2 rfl 2 (by decide) (hg _ k_110) (fun _ h9 => h9) rfl (by decide +kernel) rfl rfl (Nat.le_of_ble_eq_true rfl) d_Al_add2_19 (fun H locs hI hS hsz => ?_)
  obtain ⟨w_1, ew_1⟩ : ∃ z, z = hp_set w2 a (.inr (4, [.int mc, .ref q, .int (nI 11)])) := ⟨_, rfl⟩
  have hI : eI G S0 w_1 H := by rw [ew_1]; exact hI
  have ha2 : w_1 a = some (.inr (4, [.int mc, .ref q, .int (nI 11)])) := by rw [ew_1]; exact hp_set_eq _ _ _
  exact W.vret hx hb hr (fun t ht hW => ⟨⟨w_1, rfl, ⟨q, h1, h2, by rw [ew_1, ew2, h3, hp_set_comm hnaq, hp_set_set, hp_set_set]⟩, eWo ht hI⟩, hS.F ht⟩) hS.2.2 d_Al_add2_22

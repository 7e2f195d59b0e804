/-! throwing NoSuchElementException -/
def nqN : List Cond := nqA.filter vx_no
set_option maxRecDepth 20000 in
theorem x1_nse : ∀ w ∈ nqN.filter goodWord, w ∈ gw := by
  have h : ∀ w ∈ nqN.filter goodWord, w ∈ lw_tbl := by decide +kernel
  exact fun w hw => gw_of (h w hw) (List.mem_filter.mp hw).2
set_option maxRecDepth 20000 in
theorem x2_nse : ∀ w ∈ nqN.filter (fun w => !goodWord w), w ∈ nw := by
  have h : ∀ w ∈ nqN.filter (fun w => !goodWord w), w ∈ lw_tbl ∧ nwk w = true := by decide +kernel
  exact fun w hw => List.mem_filter.mpr (h w hw)
set_option maxRecDepth 20000 in
theorem x3_nse : ∀ w ∈ Cond.classLink "SceneEasel" 124 nse :: Cond.initialized nse :: nqN, vx_ot w = true := by decide +kernel
section XT2
variable {p : Program} {l : Launch} {e : Env} {R : Room} {s : State} {m : MethodId} {args : Array Value} {below : List Frame} {meth : Method} {c : Code} {H : Heap} {locs : List Loc} {cells slots : Nat}
variable {G : EG} {S0 : Nat} {w : hp_M} {ls : Array Slot} {rest : List Value}
theorem xt_nse {cc : ByteArray} {pc : Nat} {text : String} {is mc ms : Nat} {px : String → hp_M → Prop} {Qc : Array Value → State → Outcome → State → Prop} (hs : ("SceneEasel", is, text) ∈ strs)
    (hexec : p.tables.exec = Jvm.exec) (hb : c.code = cc) (hlt : l.stackTraces = false) (hown : s.vm.findClass "SceneEasel" = some m.cls) (hg : ∀ w ∈ gw, w.before args s = true) (hE : en G S0 s) (hI : eI G S0 w H) (hS : va_S (hp_A S0) s.heap H locs) (hsize : ls.size = c.maxLocals)
    (d0 : decode cc pc = .ok (.new 124, 3)) (d3 : decode cc (pc + 3) = .ok (.dup, 1)) (d4 : decode cc (pc + 4) = .ok (.ldc is, 2)) (d6 : decode cc (pc + 6) = .ok (.invokespecial 128, 3)) (d9 : decode cc (pc + 9) = .ok (.athrow, 1))
    (hnx : ∀ x ∈ c.exceptionTable.toList, False) (hlocks : meth.locks = false) (hpx : px nse w)
    (hR1 : 6 ≤ R.frames) (hR2 : (rest.map fun v => v.category).sum + 82 ≤ R.locals) (hR3 : cells + 1 ≤ R.cells) (hR4 : slots + 6 ≤ R.slots) (hc : cells + 1 ≤ mc) (hsl : slots + 6 ≤ ms) :
    W p l e R s m args below meth c H locs cells slots (vx_MQ below Qc (eX G S0 px) args s mc ms (hp_A S0)) (F0 m pc ls rest) := by
  intro T hT X
  have hk : (Cond.classLink "SceneEasel" 124 nse).before args s = true := hg _ k_552
  have hini : (Cond.initialized nse).before args s = true := hg _ k_77
  have hat : ∀ w ∈ nqN, w.before args s = true := vx_hat (B := nw) (fun w h => hg w (x1_nse w h)) x2_nse (fun w h => hE.N h)
  have htr : e.platform.stackTraces = false := (show e.platform.stackTraces = l.stackTraces by rw [X.admits.platform]).trans hlt
  have Y := vx_rebase X (R' := { frames := R.frames, locals := R.locals, cells := 1, slots := 6 }) (Nat.le_refl _) (Nat.le_refl _) hR3 hR4
  obtain ⟨s', hA⟩ : ∃ z, z = (T.setVm s.vm).setFrames (.invoking m args :: below) := ⟨_, rfl⟩
  rw [← hA] at Y
  have hvm : s'.vm = s.vm := by rw [hA]; rfl
  have hhp : s'.heap = H := by rw [hA]; exact hT
  have hW0 : s.WarmedH s'.vm := by rw [hvm]; exact State.WarmedH.refl s
  have hat' : ∀ w ∈ nqN, w.before args s' = true := fun w hw => vx_ot_at hW0 hvm.symm (x3_nse w (List.mem_cons_of_mem _ (List.mem_cons_of_mem _ hw))) (hat w hw)
  have hk' : (Cond.classLink "SceneEasel" 124 nse).before args s' = true := vx_ot_at hW0 hvm.symm (x3_nse _ List.mem_cons_self) hk
  have hini' : (Cond.initialized nse).before args s' = true := vx_ot_at hW0 hvm.symm (x3_nse _ (List.mem_cons_of_mem _ List.mem_cons_self)) hini
  have hU' : vx_Zq Bundle.tN "UNASSIGNED_STACK" Bundle.steD (hp_A S0) s' s'.heap := by rw [hhp]; exact vx_Zq.moved hW0.alike (hE.ZU.kept hS.2.1)
  have hN' : vx_Zq Bundle.tN "SUPPRESSED_SENTINEL" Bundle.listD (hp_A S0) s' s'.heap := by rw [hhp]; exact vx_Zq.moved hW0.alike (hE.ZN.kept hS.2.1)
  have h : ∀ w ∈ nqA, w.before args s' = true := vx_own hat' (vx_isRefq hU'.1) (vx_isRefq hN'.1) hU'.2.word hN'.2.word
  have hown' : s'.vm.findClass "SceneEasel" = some m.cls := by rw [hvm]; exact hown
  have hins : (Cond.instantiable nse 6).before args s' = true := h _ (by simp [nqA])
  obtain ⟨vm₁, cX, kX, hfX, hkX, -, -, X₁, st1⟩ := Y.newCold hexec (own := "SceneEasel") (C := nse) (index := 124) (n := 6) hown' hk' hins hini'
    (g := F0 m pc ls rest) rfl (by rw [hb]; exact d0) (Nat.le_refl _) (Nat.le_refl _)
  generalize hT1 : (T.setVm vm₁).pushCell { cls := cX, slots := kX.instanceTypes.map defaultValue, vm := .none } = T1 at X₁ st1
  have hcat : (Value.ref T.heap.size).category = 1 := rfl
  have hcellA : T1.heap[T.heap.size]? = some (freshCell cX kX) := by rw [← hT1]; exact State.heap_pushCell_size _ _
  have d3' : decode c.code (pc + 3) = .ok (.dup, 1) := by rw [hb]; exact d3
  have d4' : decode c.code (pc + 4) = .ok (.ldc is, 2) := by rw [hb]; exact d4
  have hstr' : vk_R "SceneEasel" is text (eS G is) s' := vk_R.warm hW0 (hE.str hs)
  obtain ⟨U, hsteps, hrun, hend, hW, hsame, ce, hce, hcv, hcc⟩ := nq_ctor X₁ hexec htr hown' h (fun x hx => nomatch hx) hfX hkX hcellA (by rw [hhp, hT]; exact Nat.le_refl _) (msg := .ref (eS G is)) rfl
    (g := { method := m, pc := pc + 6, locals := ls, stack := .ref (eS G is) :: .ref T.heap.size :: .ref T.heap.size :: rest, locked := none }) rfl hsize rfl rfl (rest := rest) rfl
    (by rw [hb]; exact d6) (by rw [hb]; exact d9) (fun x hx => (hnx x hx).elim) (by show 2 + 3 < R.frames; omega) (by simp only [List.map_cons, List.sum_cons, hcat]; show 2 * 0 + _ + _ ≤ R.locals; omega) hlocks
  obtain ⟨f1, f2⟩ := vx_frame hsame
  rw [hhp] at f1 f2
  have hWs : s.WarmedH U.vm := State.WarmedH.trans hW0 hW
  have hcl : s.vm.findClass nse = some ce.cls := by rw [hvm] at hcc; exact hcc
  have hall : s.sameButNew ({ U with vm := s.vm } : State) locs mc ms := by
    subst hA
    obtain ⟨e1, e2⟩ := hsame
    rw [State.setFrames_setFrames] at e1
    have h2 : (T.setVm s.vm).sameButNew ({ U with vm := s.vm } : State) [] (0 + 1) (0 + 6) := ⟨e1, e2⟩
    have h3 := X.same.trans h2
    rw [List.append_nil] at h3
    exact h3.mono hc hsl
  have hfr : ∀ q : Nat, q < H.size → U.heap[q]? = H[q]? := fun q hq => f2 q hq (fun z hz => nomatch hz)
  refine ⟨U, ?_, .threw T.heap.size, hrun, hend, Or.inr ⟨T.heap.size, rfl, nse, ce, locs, ⟨w, trivial, ⟨hpx, hI.grow hfr⟩, Nat.le_trans hS.1 f1, fun q h1 h2 => (hfr q (Nat.lt_of_lt_of_le h1 hS.1)).trans (hS.2.1 q h1 h2)⟩, hce, hcv, hcl, hWs, hall, hS.2.2⟩⟩
  refine st1 _ ?_
  show Steps p.tables e below (T1.setTop { method := m, pc := pc + 3, locals := ls, stack := .ref T.heap.size :: rest, locked := none }) _
  jvm_step X₁.here [X₁.here.top, hexec, d3', Value.category]
  exact X₁.ldcString hexec (own := "SceneEasel") (text := text) (index := is) (a := eS G is) hown' hstr'.1 hstr'.2
    (g := { method := m, pc := pc + 4, locals := ls, stack := .ref T.heap.size :: .ref T.heap.size :: rest, locked := none }) rfl d4' _ hsteps
end XT2

/-! throws of Easel -/
section XT
variable {p : Program} {l : Launch} {e : Env} {R : Room} {s : State} {m : MethodId} {args : Array Value} {below : List Frame} {meth : Method} {c : Code} {H : Heap} {locs : List Loc} {cells slots : Nat}
variable {G : EG} {S0 : Nat} {w : hp_M} {ls : Array Slot} {rest : List Value}
theorem xt_throw {cc : ByteArray} {pc : Nat} {cls9 text : String} {names : List String} {ik is ic mc ms : Nat} {px : String → hp_M → Prop} {Qc : Array Value → State → Outcome → State → Prop}
    (kk : Cond.classLink "SceneEasel" ik cls9 ∈ gw) (ki : Cond.initialized cls9 ∈ gw) (hs : ("SceneEasel", is, text) ∈ strs) (hfit : Bundle.fit cls9 = true ∧ ∀ n ∈ names, Bundle.fit n = true)
    (x1 : ∀ w ∈ (vx_atS "SceneEasel" ic cls9 names).filter goodWord, w ∈ gw) (x2 : ∀ w ∈ (vx_atS "SceneEasel" ic cls9 names).filter (fun w => !goodWord w), w ∈ nw)
    (x3 : ∀ w ∈ Cond.classLink "SceneEasel" ik cls9 :: Cond.initialized cls9 :: vx_atS "SceneEasel" ic cls9 names, vx_ot w = true) (hn : names.length = 2)
    (hx : p.tables.exec = Jvm.exec) (hb : c.code = cc) (hlt : l.stackTraces = false) (hown : s.vm.findClass "SceneEasel" = some m.cls) (hg : ∀ w ∈ gw, w.before args s = true) (hE : en G S0 s) (hI : eI G S0 w H) (hS : va_S (hp_A S0) s.heap H locs) (hsize : ls.size = c.maxLocals)
    (d0 : decode cc pc = .ok (.new ik, 3)) (d3 : decode cc (pc + 3) = .ok (.dup, 1)) (d4 : decode cc (pc + 4) = .ok (.ldc is, 2)) (d6 : decode cc (pc + 6) = .ok (.invokespecial ic, 3)) (d9 : decode cc (pc + 9) = .ok (.athrow, 1))
    (hnx : ∀ x ∈ c.exceptionTable.toList, False) (hlocks : meth.locks = false) (hpx : px cls9 w)
    (hR1 : 6 ≤ R.frames) (hR2 : (rest.map fun v => v.category).sum + 82 ≤ R.locals) (hR3 : cells + 1 ≤ R.cells) (hR4 : slots + 6 ≤ R.slots) (hc : cells + 1 ≤ mc) (hsl : slots + 6 ≤ ms) :
    W p l e R s m args below meth c H locs cells slots (vx_MQ below Qc (eX G S0 px) args s mc ms (hp_A S0)) (F0 m pc ls rest) := by
  refine vx_throwS (sa := eS G is) (text := text) (names := names) (A := hp_A S0) hx hb hlt hown hfit.1 hfit.2 (hg _ kk) (hg _ ki) (hE.str hs) (vx_hat (B := nw) (fun w h => hg w (x1 w h)) x2 (fun w h => hE.N h)) x3 hE.ZU hE.ZN hS hsize d0 d3 d4 d6 d9 (fun x h => (hnx x h).elim) (by omega) (by rw [hn]; omega) hR3 hR4 hlocks ?_ hS.2.2 hc hsl
  intro t hvm hz hk
  exact ⟨w, trivial, ⟨hpx, hI.grow hk⟩, Nat.le_trans hS.1 hz, fun q h1 h2 => (hk q (Nat.lt_of_lt_of_le h1 hS.1)).trans (hS.2.1 q h1 h2)⟩
end XT
abbrev iae : String := "java/lang/IllegalArgumentException"
abbrev ise : String := "java/lang/IllegalStateException"
abbrev nse : String := "java/util/NoSuchElementException"
abbrev rte : List String := ["java/lang/RuntimeException", "java/lang/Exception"]
set_option maxRecDepth 20000 in
theorem x1_iae : ∀ w ∈ (vx_atS "SceneEasel" 223 iae rte).filter goodWord, w ∈ gw := by
  have h : ∀ w ∈ (vx_atS "SceneEasel" 223 iae rte).filter goodWord, w ∈ lw_tbl := by decide +kernel
  exact fun w hw => gw_of (h w hw) (List.mem_filter.mp hw).2
set_option maxRecDepth 20000 in
theorem x2_iae : ∀ w ∈ (vx_atS "SceneEasel" 223 iae rte).filter (fun w => !goodWord w), w ∈ nw := by
  have h : ∀ w ∈ (vx_atS "SceneEasel" 223 iae rte).filter (fun w => !goodWord w), w ∈ lw_tbl ∧ nwk w = true := by decide +kernel
  exact fun w hw => List.mem_filter.mpr (h w hw)
set_option maxRecDepth 20000 in
theorem x3_iae : ∀ w ∈ Cond.classLink "SceneEasel" 219 iae :: Cond.initialized iae :: vx_atS "SceneEasel" 223 iae rte, vx_ot w = true := by decide +kernel
theorem xf_iae : Bundle.fit iae = true ∧ ∀ n ∈ rte, Bundle.fit n = true := by decide +kernel
set_option maxRecDepth 20000 in
theorem x1_ise : ∀ w ∈ (vx_atS "SceneEasel" 41 ise rte).filter goodWord, w ∈ gw := by
  have h : ∀ w ∈ (vx_atS "SceneEasel" 41 ise rte).filter goodWord, w ∈ lw_tbl := by decide +kernel
  exact fun w hw => gw_of (h w hw) (List.mem_filter.mp hw).2
set_option maxRecDepth 20000 in
theorem x2_ise : ∀ w ∈ (vx_atS "SceneEasel" 41 ise rte).filter (fun w => !goodWord w), w ∈ nw := by
  have h : ∀ w ∈ (vx_atS "SceneEasel" 41 ise rte).filter (fun w => !goodWord w), w ∈ lw_tbl ∧ nwk w = true := by decide +kernel
  exact fun w hw => List.mem_filter.mpr (h w hw)
set_option maxRecDepth 20000 in
theorem x3_ise : ∀ w ∈ Cond.classLink "SceneEasel" 37 ise :: Cond.initialized ise :: vx_atS "SceneEasel" 41 ise rte, vx_ot w = true := by decide +kernel
theorem xf_ise : Bundle.fit ise = true ∧ ∀ n ∈ rte, Bundle.fit n = true := by decide +kernel
/-! the checks of Easel that only throw -/
abbrev pIA (w : hp_M) (P : Prop) : String → hp_M → Prop := fun E u => E = iae ∧ u = w ∧ P

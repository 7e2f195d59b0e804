/-! what a method finds beside its world: the tables' words that aren't in gw, the texts, the statics of Throwable and ArrayList -/
def nwk : Cond → Bool
  | .fieldLinkNest _ _ _ _ _ _ => true
  | .methodLinkNest _ _ _ _ => true
  | .castable _ _ => true
  | .declares _ => true
  | _ => false
def nw : List Cond := lw_tbl.filter nwk
theorem nw_i {w : Cond} (i : Nat) (h : lw_tbl[i]? = some w) (g : nwk w = true) : w ∈ nw := List.mem_filter.mpr ⟨List.mem_of_getElem? h, g⟩
theorem nw_tab : ∀ {w : Cond}, nwk w = true → w.onTables = true
  | .fieldLinkNest _ _ _ _ _ _, _ => rfl
  | .methodLinkNest _ _ _ _, _ => rfl
  | .castable _ _, _ => rfl
  | .declares _, _ => rfl
theorem nw_warm {s U : State} (hW : s.WarmedH U.vm) : ∀ {w : Cond}, nwk w = true → va_Nw w s → va_Nw w U
  | .fieldLinkNest _ _ _ _ _ _, _, h => va_Nw.warmF hW h
  | .methodLinkNest _ _ _ _, _, h => va_Nw.warmM hW h
  | .castable _ _, _, h => va_Nw.warmC hW h
  | .declares _, _, h => va_Nw.warmD hW h
def strs : List (String × Nat × String) := [("SceneEasel", 39, "no room for another node"), ("SceneEasel", 47, "no room: too deep"), ("SceneEasel", 119, "no room for another key frame"), ("SceneEasel", 126, "no key frames"), ("SceneEasel", 133, "a group can't be in itself"), ("SceneEasel", 161, "nothing lies there"), ("SceneEasel", 184, "there is nothing to put a box round"), ("SceneEasel", 221, "no such node"), ("SceneEasel", 224, "not for the root"), ("SceneEasel", 226, "not a group"), ("SceneEasel", 228, "not a shape"), ("SceneEasel", 230, "a number out of range"), ("SceneEasel", 248, "a number that is no such part of a whole")]
/-- the numbers of the classes, the slots, the array classes, where the texts lie, where the empty array lies -/
abbrev EG : Type := (Nat → ClassId) × (Nat → Nat → Nat) × (Nat → ClassId) × (Nat → Nat) × Nat
abbrev eD (G : EG) : va_G := (G.1, G.2.1)
abbrev eT (G : EG) : List (ClassId × FieldType) := [(G.2.2.1 0, .int), (G.2.2.1 1, .double), (G.2.2.1 2, .boolean), (G.2.2.1 3, .long), (G.2.2.1 4, .object "SceneEasel$Node"), (G.2.2.1 5, .object "SceneEasel$Track"), (G.2.2.1 6, .object "java/lang/Object")]
abbrev eS (G : EG) : Nat → Nat := G.2.2.2.1
abbrev eO (G : EG) : Nat := G.2.2.2.2
def en (G : EG) (S0 : Nat) (U : State) : Prop :=
  va_K (eD G) cls (eT G) U ∧ (∀ w ∈ nw, va_Nw w U) ∧ (∀ q ∈ strs, vk_R q.1 q.2.1 q.2.2 (eS G q.2.1) U) ∧
  vx_Zq Bundle.tN "UNASSIGNED_STACK" Bundle.steD (hp_A S0) U U.heap ∧ vx_Zq Bundle.tN "SUPPRESSED_SENTINEL" Bundle.listD (hp_A S0) U U.heap ∧
  va_AO "SceneEasel$Node" U ∧ va_AO "SceneEasel$Track" U ∧ va_AO "java/lang/Object" U ∧
  va_Z "java/util/ArrayList" "DEFAULTCAPACITY_EMPTY_ELEMENTDATA" "[Ljava/lang/Object;" (.ref (eO G)) (hp_A S0) U U.heap ∧ va_T (.object "java/lang/Object") (eO G) 0 (fun _ => .null) (hp_A S0) U U.heap ∧ va_Mi "[Ljava/lang/Object;" (eS G 0) U
theorem en.K {G : EG} {S0 : Nat} {U : State} (h : en G S0 U) : va_K (eD G) cls (eT G) U := h.1
theorem en.N {G : EG} {S0 : Nat} {U : State} (h : en G S0 U) {w : Cond} (hw : w ∈ nw) {A : Array Value} : w.before A U = true := va_Nw.use (nw_tab (List.mem_filter.mp hw).2) (h.2.1 w hw)
theorem en.Nw {G : EG} {S0 : Nat} {U : State} (h : en G S0 U) {w : Cond} (hw : w ∈ nw) : va_Nw w U := h.2.1 w hw
theorem en.str {G : EG} {S0 : Nat} {U : State} (h : en G S0 U) {q : String × Nat × String} (hq : q ∈ strs) : vk_R q.1 q.2.1 q.2.2 (eS G q.2.1) U := h.2.2.1 q hq
theorem en.ZU {G : EG} {S0 : Nat} {U : State} (h : en G S0 U) : vx_Zq Bundle.tN "UNASSIGNED_STACK" Bundle.steD (hp_A S0) U U.heap := h.2.2.2.1
theorem en.ZN {G : EG} {S0 : Nat} {U : State} (h : en G S0 U) : vx_Zq Bundle.tN "SUPPRESSED_SENTINEL" Bundle.listD (hp_A S0) U U.heap := h.2.2.2.2.1
theorem en.aoN {G : EG} {S0 : Nat} {U : State} (h : en G S0 U) : va_AO "SceneEasel$Node" U := h.2.2.2.2.2.1
theorem en.aoT {G : EG} {S0 : Nat} {U : State} (h : en G S0 U) : va_AO "SceneEasel$Track" U := h.2.2.2.2.2.2.1
theorem en.aoO {G : EG} {S0 : Nat} {U : State} (h : en G S0 U) : va_AO "java/lang/Object" U := h.2.2.2.2.2.2.2.1
theorem en.zE {G : EG} {S0 : Nat} {U : State} (h : en G S0 U) : va_Z "java/util/ArrayList" "DEFAULTCAPACITY_EMPTY_ELEMENTDATA" "[Ljava/lang/Object;" (.ref (eO G)) (hp_A S0) U U.heap := h.2.2.2.2.2.2.2.2.1
theorem en.tE {G : EG} {S0 : Nat} {U : State} (h : en G S0 U) : va_T (.object "java/lang/Object") (eO G) 0 (fun _ => .null) (hp_A S0) U U.heap := h.2.2.2.2.2.2.2.2.2.1
theorem en.Mi {G : EG} {S0 : Nat} {U : State} (h : en G S0 U) : va_Mi "[Ljava/lang/Object;" (eS G 0) U := h.2.2.2.2.2.2.2.2.2.2
theorem en.warm {G : EG} {S0 : Nat} {s U : State} (hW : s.WarmedH U.vm) (hh : ∀ q : Nat, q < s.heap.size → ¬ hp_A S0 q → U.heap[q]? = s.heap[q]?) (h : en G S0 s) : en G S0 U := by
  have ha := hW.alike
  exact ⟨va_K.moved ha h.1, fun w hw => nw_warm hW (List.mem_filter.mp hw).2 (h.2.1 w hw), fun q hq => vk_R.warm hW (h.2.2.1 q hq),
    vx_Zq.moved ha (h.ZU.kept hh), vx_Zq.moved ha (h.ZN.kept hh), va_AO.moved ha h.aoN, va_AO.moved ha h.aoT, va_AO.moved ha h.aoO,
    va_Z.moved ha (h.zE.kept hh), va_T.moved ha (h.tE.kept hh), va_Mi.moved ha h.Mi⟩
theorem en.blind {G : EG} {S0 : Nat} {U : State} (h : en G S0 U) (g : JFrame) (mk : MethodId) (a : Array Value) : en G S0 (U.calling g mk a) :=
  en.warm (s := U) (U := U.calling g mk a) (State.WarmedH.refl U) (fun _ _ _ => rfl) h
abbrev eI (G : EG) (S0 : Nat) (w : hp_M) (H : Heap) : Prop := hp_I (eD G) cls S0 w H
def eB (G : EG) (S0 : Nat) (w : hp_M) (U : State) : Prop := en G S0 U ∧ eI G S0 w U.heap ∧ S0 ≤ U.heap.size
abbrev eP (G : EG) (S0 : Nat) (w : hp_M) (av : List Value) : Array Value → State → Prop := va_Pc av (eB G S0 w)
abbrev eW (G : EG) (S0 : Nat) (u : hp_M) (t : State) : Prop := eI G S0 u t.heap
abbrev rl (k mc ms : Nat) : Room := { frames := 10 + k, cells := mc, slots := ms, locals := 100 + 60 * k }
theorem eB.blind {G : EG} {S0 : Nat} {w : hp_M} {av : List Value} : FrameBlind (eP G S0 w av) := fun a U g mk h => ⟨h.1, en.blind h.2.1 g mk a, h.2.2⟩
section EPre
variable {s : State} {H : Heap} {G : EG} {S0 : Nat} {w : hp_M} {locs : List Loc}
theorem eB.at (hE : en G S0 s) (hI : eI G S0 w H) (hS : va_S (hp_A S0) s.heap H locs) (hz : S0 ≤ s.heap.size) {U : State} (hU : U.heap = H) (hW : s.WarmedH U.vm) : eB G S0 w U :=
  ⟨en.warm hW (fun q h1 h2 => by rw [hU]; exact hS.2.1 q h1 h2) hE, by rw [hU]; exact hI, by rw [hU]; exact Nat.le_trans hz hS.1⟩
theorem eB.preS (hE : en G S0 s) (hI : eI G S0 w H) (hS : va_S (hp_A S0) s.heap H locs) (hz : S0 ≤ s.heap.size) {av : List Value} : PreS s H (eP G S0 w av) av :=
  ⟨eB.blind, fun _ hU hW => ⟨rfl, eB.at hE hI hS hz hU hW⟩⟩
theorem eB.preV (hE : en G S0 s) (hI : eI G S0 w H) (hS : va_S (hp_A S0) s.heap H locs) (hz : S0 ≤ s.heap.size) {b ci : Nat} {q : vw_C} {fs : List Value} (hc : cls[ci]? = some q) (he : w b = some (.inr (ci, fs))) {As : List Value} : PreV s H q.1 b (eP G S0 w (.ref b :: As)) As :=
  ⟨eB.blind, hp_recv hE.K hI hc he, fun _ hU hW => ⟨rfl, eB.at hE hI hS hz hU hW⟩⟩
end EPre
/-- an answer that is null or an object -/
def va_Qo {S : Type} (post : Option Nat → S → Prop) (B : S → State → Prop) (A : Nat → Prop) : Array Value → State → Outcome → State → Prop := fun _ st oc t => (∃ (r : Option Nat) (u : S), oc = .returned (some (va_rf r)) ∧ post r u ∧ B u t) ∧ va_F A st t

/-! the words of nests and casts, by their places; more rows on maps; calls -/
theorem q_91 : Cond.methodLinkNest "SceneEasel" 19 ⟨"SceneEasel$Node", "<init>", "(III)V"⟩ "SceneEasel" ∈ nw := nw_i 91 (by decide +kernel) rfl
theorem q_126 : Cond.methodLinkNest "SceneEasel$Node" 26 ⟨"SceneEasel$Extent", "<init>", "()V"⟩ "SceneEasel" ∈ nw := nw_i 126 (by decide +kernel) rfl
theorem q_131 : Cond.fieldLinkNest "SceneEasel$Node" 150 "SceneEasel$Extent" "empty" "Z" "SceneEasel" ∈ nw := nw_i 131 (by decide +kernel) rfl
theorem q_132 : Cond.fieldLinkNest "SceneEasel" 179 "SceneEasel$Extent" "empty" "Z" "SceneEasel" ∈ nw := nw_i 132 (by decide +kernel) rfl
theorem q_149 : Cond.methodLinkNest "SceneEasel$Node" 51 ⟨"SceneEasel$Track", "<init>", "()V"⟩ "SceneEasel" ∈ nw := nw_i 149 (by decide +kernel) rfl
theorem q_156 : Cond.fieldLinkNest "SceneEasel$Node" 74 "SceneEasel$Track" "size" "I" "SceneEasel" ∈ nw := nw_i 156 (by decide +kernel) rfl
theorem q_157 : Cond.fieldLinkNest "SceneEasel" 121 "SceneEasel$Track" "size" "I" "SceneEasel" ∈ nw := nw_i 157 (by decide +kernel) rfl
theorem q_167 : Cond.fieldLinkNest "SceneEasel" 163 "SceneEasel$Node" "number" "I" "SceneEasel" ∈ nw := nw_i 167 (by decide +kernel) rfl
theorem q_169 : Cond.fieldLinkNest "SceneEasel" 190 "SceneEasel$Node" "kind" "I" "SceneEasel" ∈ nw := nw_i 169 (by decide +kernel) rfl
theorem q_172 : Cond.fieldLinkNest "SceneEasel" 196 "SceneEasel$Node" "children" "Ljava/util/ArrayList;" "SceneEasel" ∈ nw := nw_i 172 (by decide +kernel) rfl
theorem q_174 : Cond.fieldLinkNest "SceneEasel" 109 "SceneEasel$Node" "tracks" "[LSceneEasel$Track;" "SceneEasel" ∈ nw := nw_i 174 (by decide +kernel) rfl
theorem q_176 : Cond.fieldLinkNest "SceneEasel" 175 "SceneEasel$Node" "extent" "LSceneEasel$Extent;" "SceneEasel" ∈ nw := nw_i 176 (by decide +kernel) rfl
theorem q_178 : Cond.fieldLinkNest "SceneEasel" 193 "SceneEasel$Node" "parent" "LSceneEasel$Node;" "SceneEasel" ∈ nw := nw_i 178 (by decide +kernel) rfl
theorem q_179 : Cond.fieldLinkNest "SceneEasel" 98 "SceneEasel$Node" "hidden" "Z" "SceneEasel" ∈ nw := nw_i 179 (by decide +kernel) rfl
theorem q_182 : Cond.fieldLinkNest "SceneEasel" 60 "SceneEasel$Node" "p" "D" "SceneEasel" ∈ nw := nw_i 182 (by decide +kernel) rfl
theorem q_184 : Cond.fieldLinkNest "SceneEasel" 64 "SceneEasel$Node" "q" "D" "SceneEasel" ∈ nw := nw_i 184 (by decide +kernel) rfl
theorem q_185 : Cond.fieldLinkNest "SceneEasel" 73 "SceneEasel$Node" "x" "D" "SceneEasel" ∈ nw := nw_i 185 (by decide +kernel) rfl
theorem q_187 : Cond.fieldLinkNest "SceneEasel" 76 "SceneEasel$Node" "y" "D" "SceneEasel" ∈ nw := nw_i 187 (by decide +kernel) rfl
theorem q_189 : Cond.fieldLinkNest "SceneEasel" 79 "SceneEasel$Node" "turn" "I" "SceneEasel" ∈ nw := nw_i 189 (by decide +kernel) rfl
theorem q_191 : Cond.fieldLinkNest "SceneEasel" 83 "SceneEasel$Node" "stretch" "I" "SceneEasel" ∈ nw := nw_i 191 (by decide +kernel) rfl
theorem q_193 : Cond.fieldLinkNest "SceneEasel" 92 "SceneEasel$Node" "mode" "I" "SceneEasel" ∈ nw := nw_i 193 (by decide +kernel) rfl
theorem q_196 : Cond.fieldLinkNest "SceneEasel" 95 "SceneEasel$Node" "step" "D" "SceneEasel" ∈ nw := nw_i 196 (by decide +kernel) rfl
theorem q_201 : Cond.fieldLinkNest "SceneEasel" 151 "SceneEasel$Node" "nowColour" "I" "SceneEasel" ∈ nw := nw_i 201 (by decide +kernel) rfl
theorem q_268 : Cond.methodLinkNest "SceneEasel" 207 ⟨"SceneEasel$Node", "frames", "()I"⟩ "SceneEasel" ∈ nw := nw_i 268 (by decide +kernel) rfl
theorem q_276 : Cond.methodLinkNest "SceneEasel" 129 ⟨"SceneEasel$Node", "isIn", "(LSceneEasel$Node;)Z"⟩ "SceneEasel" ∈ nw := nw_i 276 (by decide +kernel) rfl
theorem q_280 : Cond.methodLinkNest "SceneEasel" 44 ⟨"SceneEasel$Node", "depth", "()I"⟩ "SceneEasel" ∈ nw := nw_i 280 (by decide +kernel) rfl
theorem q_306 : Cond.castable "java/lang/IllegalArgumentException" "java/lang/IllegalArgumentException" ∈ nw := nw_i 306 (by decide +kernel) rfl
theorem q_383 : Cond.castable "java/lang/IllegalStateException" "java/lang/IllegalStateException" ∈ nw := nw_i 383 (by decide +kernel) rfl
theorem q_398 : Cond.methodLinkNest "SceneEasel" 49 ⟨"SceneEasel$Node", "hangInto", "(LSceneEasel$Node;)V"⟩ "SceneEasel" ∈ nw := nw_i 398 (by decide +kernel) rfl
theorem q_535 : Cond.methodLinkNest "SceneEasel" 113 ⟨"SceneEasel$Track", "put", "(DD)Z"⟩ "SceneEasel" ∈ nw := nw_i 535 (by decide +kernel) rfl
theorem q_554 : Cond.castable "java/util/NoSuchElementException" "java/util/NoSuchElementException" ∈ nw := nw_i 554 (by decide +kernel) rfl
theorem q_580 : Cond.methodLinkNest "SceneEasel" 139 ⟨"SceneEasel$Node", "unhang", "()V"⟩ "SceneEasel" ∈ nw := nw_i 580 (by decide +kernel) rfl
theorem q_633 : Cond.methodLinkNest "SceneEasel" 256 ⟨"SceneEasel$Node", "settleAt", "(D)V"⟩ "SceneEasel" ∈ nw := nw_i 633 (by decide +kernel) rfl
theorem q_637 : Cond.methodLinkNest "SceneEasel$Node" 79 ⟨"SceneEasel$Track", "gliding", "(DD)D"⟩ "SceneEasel" ∈ nw := nw_i 637 (by decide +kernel) rfl
theorem q_645 : Cond.methodLinkNest "SceneEasel$Track" 30 ⟨"SceneEasel", "rounded", "(D)D"⟩ "SceneEasel" ∈ nw := nw_i 645 (by decide +kernel) rfl
theorem q_652 : Cond.methodLinkNest "SceneEasel$Node" 95 ⟨"SceneEasel$Track", "jumping", "(DD)D"⟩ "SceneEasel" ∈ nw := nw_i 652 (by decide +kernel) rfl
theorem q_657 : Cond.methodLinkNest "SceneEasel" 147 ⟨"SceneEasel$Node", "topInside", "(DD)LSceneEasel$Node;"⟩ "SceneEasel" ∈ nw := nw_i 657 (by decide +kernel) rfl
theorem q_665 : Cond.methodLinkNest "SceneEasel$Node" 140 ⟨"SceneEasel", "floorOf", "(D)D"⟩ "SceneEasel" ∈ nw := nw_i 665 (by decide +kernel) rfl
theorem q_679 : Cond.methodLinkNest "SceneEasel$Node" 111 ⟨"SceneEasel", "powerOfTwo", "(I)D"⟩ "SceneEasel" ∈ nw := nw_i 679 (by decide +kernel) rfl
theorem q_710 : Cond.methodLinkNest "SceneEasel" 169 ⟨"SceneEasel$Node", "measureInside", "()V"⟩ "SceneEasel" ∈ nw := nw_i 710 (by decide +kernel) rfl
theorem q_714 : Cond.methodLinkNest "SceneEasel$Node" 156 ⟨"SceneEasel$Extent", "clear", "()V"⟩ "SceneEasel" ∈ nw := nw_i 714 (by decide +kernel) rfl
theorem q_723 : Cond.methodLinkNest "SceneEasel$Node" 146 ⟨"SceneEasel$Extent", "span", "(DDDD)V"⟩ "SceneEasel" ∈ nw := nw_i 723 (by decide +kernel) rfl
theorem q_731 : Cond.methodLinkNest "SceneEasel$Node" 166 ⟨"SceneEasel$Extent", "scale", "(D)V"⟩ "SceneEasel" ∈ nw := nw_i 731 (by decide +kernel) rfl
theorem q_736 : Cond.methodLinkNest "SceneEasel$Node" 170 ⟨"SceneEasel$Extent", "turnOnce", "()V"⟩ "SceneEasel" ∈ nw := nw_i 736 (by decide +kernel) rfl
theorem q_740 : Cond.methodLinkNest "SceneEasel$Node" 173 ⟨"SceneEasel$Extent", "shift", "(DD)V"⟩ "SceneEasel" ∈ nw := nw_i 740 (by decide +kernel) rfl
theorem q_744 : Cond.methodLinkNest "SceneEasel$Node" 162 ⟨"SceneEasel$Extent", "join", "(LSceneEasel$Extent;)V"⟩ "SceneEasel" ∈ nw := nw_i 744 (by decide +kernel) rfl
theorem q_748 : Cond.methodLinkNest "SceneEasel" 172 ⟨"SceneEasel$Node", "measure", "()V"⟩ "SceneEasel" ∈ nw := nw_i 748 (by decide +kernel) rfl
theorem q_750 : Cond.methodLinkNest "SceneEasel" 186 ⟨"SceneEasel$Extent", "side", "(I)D"⟩ "SceneEasel" ∈ nw := nw_i 750 (by decide +kernel) rfl
theorem q_762 : Cond.methodLinkNest "SceneEasel" 204 ⟨"SceneEasel$Node", "rank", "()I"⟩ "SceneEasel" ∈ nw := nw_i 762 (by decide +kernel) rfl
theorem q_1022 : Cond.castable "SceneEasel$Node" "SceneEasel$Node" ∈ nw := nw_i 1022 (by decide +kernel) rfl
theorem q_1026 : Cond.castable "SceneEasel" "java/lang/Object" ∈ nw := nw_i 1026 (by decide +kernel) rfl
theorem q_1027 : Cond.castable "SceneEasel$Node" "java/lang/Object" ∈ nw := nw_i 1027 (by decide +kernel) rfl
theorem q_1028 : Cond.castable "SceneEasel$Extent" "java/lang/Object" ∈ nw := nw_i 1028 (by decide +kernel) rfl
theorem q_1029 : Cond.castable "SceneEasel$Track" "java/lang/Object" ∈ nw := nw_i 1029 (by decide +kernel) rfl
theorem q_1030 : Cond.castable "SceneEaselModel" "java/lang/Object" ∈ nw := nw_i 1030 (by decide +kernel) rfl
theorem q_1031 : Cond.castable "java/lang/String" "java/lang/Object" ∈ nw := nw_i 1031 (by decide +kernel) rfl
theorem hp_ne_c {w : hp_M} {a b i j : Nat} {fs gs : List Value} (hij : i ≠ j) (ha : w a = some (.inr (i, fs))) (hb : w b = some (.inr (j, gs))) : a ≠ b := by
  intro h
  subst h
  have e1 := ha.symm.trans hb
  injection e1 with e2
  injection e2 with e3
  injection e3 with e4 e5
  exact hij e4
theorem hp_ne_ao {w : hp_M} {a b : Nat} {x : ClassId × vp_A} {y : Nat × List Value} (ha : w a = some (.inl x)) (hb : w b = some (.inr y)) : a ≠ b := by
  intro h
  subst h
  have e1 := ha.symm.trans hb
  injection e1 with e2
  cases e2
theorem hp_ne_oa {w : hp_M} {a b : Nat} {x : ClassId × vp_A} {y : Nat × List Value} (ha : w a = some (.inr y)) (hb : w b = some (.inl x)) : a ≠ b := (hp_ne_ao hb ha).symm
section ECalls
variable {p : Program} {l : Launch} {e : Env} {R : Room} {s : State} {m : MethodId} {args : Array Value} {below : List Frame} {meth : Method} {c : Code} {H : Heap} {locs : List Loc} {cells slots : Nat} {Q : State → Prop}
variable {pc : Nat} {ls : Array Slot} {rest st0 : List Value} {a : Array Value} {mc ms : Nat} {G : EG} {S0 : Nat}
theorem eWo {t : State} {u : hp_M} (ht : t.heap = H) (hI : eI G S0 u H) : eW G S0 u t := by
  show hp_I (eD G) cls S0 u t.heap
  rw [ht]
  exact hI
theorem eWi {t : State} {u : hp_M} (ht : t.heap = H) (hB : eW G S0 u t) : eI G S0 u H := by
  show hp_I (eD G) cls S0 u H
  rw [← ht]
  exact hB
theorem va_callo {S : Type} {post : Option Nat → S → Prop} {B : S → State → Prop} {A0 A1 : Nat → Prop} {H0 : Heap} {free : Addr → Prop} (hr : va_Run p l e R s m args below meth c H locs cells slots mc ms (F0 m pc ls st0) rest (va_Qo post B A1 a) free) (hS : va_S A0 H0 H locs) (hA : ∀ q, q < H.size → A1 q → A0 q) (hf : ∀ q, free q → A0 q)
    (kk : ∀ (r : Option Nat) (u : S) (t : State) (H1 : Heap) (locs1 : List Loc), t.heap = H1 → s.vm.Alike t.vm → post r u → B u t → H.size ≤ H1.size → (∀ q : Nat, q < H.size → ¬ A1 q → H1[q]? = H[q]?) → va_S A0 H0 H1 locs1 → W p l e R s m args below meth c H1 locs1 (cells + mc) (slots + ms) Q (F0 m (pc + 3) ls (va_rf r :: rest))) : W p l e R s m args below meth c H locs cells slots Q (F0 m pc ls st0) := by
  intro T hT X
  obtain ⟨v, st₀, t, T', L, h0, X', hL, e1, e2, ⟨⟨r, u, hv, hp, hb⟩, hF⟩, st⟩ := hr T hT X
  cases hv
  obtain ⟨k1, k2, k3⟩ := vx_keep h0 e1 hS hA hf hL hF
  obtain ⟨t2, a1, b1⟩ := kk r u t T'.heap (locs ++ L) e1.symm (by rw [← e2]; exact X'.warmed.alike) hp hb k1 k2 k3 T' rfl X'
  exact ⟨t2, st t2 a1, b1⟩
theorem vx_callo {S SX : Type} {post : Option Nat → S → Prop} {px : SX → Prop} {B : S → State → Prop} {BX : String → SX → State → Prop} {AX A0 A1 : Nat → Prop} {H0 : Heap} {free : Addr → Prop} (hr : vx_Run p l e R s m args below meth c H locs cells slots mc ms (F0 m pc ls st0) rest (va_Qo post B A1 a) (vx_X px BX AX) free) (hS : va_S A0 H0 H locs) (hA : ∀ q, q < H.size → A1 q → A0 q) (hf : ∀ q, free q → A0 q) (hAX : ∀ q, q < H.size → AX q → A0 q)
    (kx : ∀ (E : String) (ce : Cell) (q9 : Addr) (u : SX) (t : State) (H1 : Heap) (locs1 : List Loc), t.heap = H1 → s.vm.Alike t.vm → px u → BX E u t → H.size ≤ H1.size → (∀ q : Nat, q < H.size → ¬ AX q → H1[q]? = H[q]?) → va_S A0 H0 H1 locs1 → H1[q9]? = some ce → ce.vm = .none → s.vm.findClass E = some ce.cls → vx_W p l e R s m args below meth c H1 locs1 (cells + mc) (slots + ms) Q (F0 m pc ls rest) q9)
    (kk : ∀ (r : Option Nat) (u : S) (t : State) (H1 : Heap) (locs1 : List Loc), t.heap = H1 → s.vm.Alike t.vm → post r u → B u t → H.size ≤ H1.size → (∀ q : Nat, q < H.size → ¬ A1 q → H1[q]? = H[q]?) → va_S A0 H0 H1 locs1 → W p l e R s m args below meth c H1 locs1 (cells + mc) (slots + ms) Q (F0 m (pc + 3) ls (va_rf r :: rest))) : W p l e R s m args below meth c H locs cells slots Q (F0 m pc ls st0) := by
  intro T hT X
  rcases hr T hT X with ⟨v, st₀, t, T', L, h0, X', hL, e1, e2, ⟨⟨r, u, hv, hp, hb⟩, hF⟩, st⟩ | ⟨q, st₀, t, T', L, E, ce, h0, X', hL, e1, e2, ⟨u, hp, hb, hF⟩, hce, hcv, hcl, st⟩
  · cases hv
    obtain ⟨k1, k2, k3⟩ := vx_keep h0 e1 hS hA hf hL hF
    obtain ⟨t2, a1, b1⟩ := kk r u t T'.heap (locs ++ L) e1.symm (by rw [← e2]; exact X'.warmed.alike) hp hb k1 k2 k3 T' rfl X'
    exact ⟨t2, st t2 a1, b1⟩
  · obtain ⟨k1, k2, k3⟩ := vx_keep h0 e1 hS hAX hf hL hF
    obtain ⟨t2, a1, b1⟩ := kx E ce q u t T'.heap (locs ++ L) e1.symm (by rw [← e2]; exact X'.warmed.alike) hp hb k1 k2 k3 (by rw [e1]; exact hce) hcv hcl T' rfl X'
    exact ⟨t2, st.trans a1, b1⟩
/-- what is thrown, and the world then -/
def eX (G : EG) (S0 : Nat) (px : String → hp_M → Prop) : String → State → State → Prop := vx_X (S := hp_M) (fun _ => True) (fun E u t => px E u ∧ eW G S0 u t) (hp_A S0)
theorem ec_v {post : hp_M → Prop} (hr : va_Run p l e R s m args below meth c H locs cells slots mc ms (F0 m pc ls st0) rest (va_Qv post (eW G S0) (hp_A S0) a) (hp_A S0)) (hS : va_S (hp_A S0) s.heap H locs)
    (kk : ∀ (u : hp_M) (H1 : Heap) (locs1 : List Loc), post u → eI G S0 u H1 → H.size ≤ H1.size → va_S (hp_A S0) s.heap H1 locs1 → W p l e R s m args below meth c H1 locs1 (cells + mc) (slots + ms) Q (F0 m (pc + 3) ls (rest))) : W p l e R s m args below meth c H locs cells slots Q (F0 m pc ls st0) :=
  va_callv hr hS (fun _ _ h => h) (fun _ h => h) (fun u t H1 locs1 ht _ hw hB hz1 _ hS1 => kk u H1 locs1 hw (eWi ht hB) hz1 hS1)
theorem xc_v {post : hp_M → Prop} {px : String → hp_M → Prop} (hr : vx_Run p l e R s m args below meth c H locs cells slots mc ms (F0 m pc ls st0) rest (va_Qv post (eW G S0) (hp_A S0) a) (eX G S0 px) (hp_A S0)) (hS : va_S (hp_A S0) s.heap H locs)
    (kx : ∀ (E : String) (ce : Cell) (q9 : Addr) (u : hp_M) (H1 : Heap) (locs1 : List Loc), px E u → eI G S0 u H1 → H.size ≤ H1.size → va_S (hp_A S0) s.heap H1 locs1 → H1[q9]? = some ce → ce.vm = .none → s.vm.findClass E = some ce.cls → vx_W p l e R s m args below meth c H1 locs1 (cells + mc) (slots + ms) Q (F0 m pc ls rest) q9)
    (kk : ∀ (u : hp_M) (H1 : Heap) (locs1 : List Loc), post u → eI G S0 u H1 → H.size ≤ H1.size → va_S (hp_A S0) s.heap H1 locs1 → W p l e R s m args below meth c H1 locs1 (cells + mc) (slots + ms) Q (F0 m (pc + 3) ls (rest))) : W p l e R s m args below meth c H locs cells slots Q (F0 m pc ls st0) :=
  vx_callv hr hS (fun _ _ h => h) (fun _ h => h) (fun _ _ h => h) (fun E ce q9 u t H1 locs1 ht _ _ hB hz1 _ hS1 h1 h2 h3 => kx E ce q9 u H1 locs1 hB.1 (eWi ht hB.2) hz1 hS1 h1 h2 h3) (fun u t H1 locs1 ht _ hw hB hz1 _ hS1 => kk u H1 locs1 hw (eWi ht hB) hz1 hS1)
theorem ec_i {post : Int32 → hp_M → Prop} (hr : va_Run p l e R s m args below meth c H locs cells slots mc ms (F0 m pc ls st0) rest (va_Qi post (eW G S0) (hp_A S0) a) (hp_A S0)) (hS : va_S (hp_A S0) s.heap H locs)
    (kk : ∀ (r : Int32) (u : hp_M) (H1 : Heap) (locs1 : List Loc), post r u → eI G S0 u H1 → H.size ≤ H1.size → va_S (hp_A S0) s.heap H1 locs1 → W p l e R s m args below meth c H1 locs1 (cells + mc) (slots + ms) Q (F0 m (pc + 3) ls (.int r :: rest))) : W p l e R s m args below meth c H locs cells slots Q (F0 m pc ls st0) :=
  va_calli hr hS (fun _ _ h => h) (fun _ h => h) (fun r u t H1 locs1 ht _ hw hB hz1 _ hS1 => kk r u H1 locs1 hw (eWi ht hB) hz1 hS1)
theorem xc_i {post : Int32 → hp_M → Prop} {px : String → hp_M → Prop} (hr : vx_Run p l e R s m args below meth c H locs cells slots mc ms (F0 m pc ls st0) rest (va_Qi post (eW G S0) (hp_A S0) a) (eX G S0 px) (hp_A S0)) (hS : va_S (hp_A S0) s.heap H locs)
    (kx : ∀ (E : String) (ce : Cell) (q9 : Addr) (u : hp_M) (H1 : Heap) (locs1 : List Loc), px E u → eI G S0 u H1 → H.size ≤ H1.size → va_S (hp_A S0) s.heap H1 locs1 → H1[q9]? = some ce → ce.vm = .none → s.vm.findClass E = some ce.cls → vx_W p l e R s m args below meth c H1 locs1 (cells + mc) (slots + ms) Q (F0 m pc ls rest) q9)
    (kk : ∀ (r : Int32) (u : hp_M) (H1 : Heap) (locs1 : List Loc), post r u → eI G S0 u H1 → H.size ≤ H1.size → va_S (hp_A S0) s.heap H1 locs1 → W p l e R s m args below meth c H1 locs1 (cells + mc) (slots + ms) Q (F0 m (pc + 3) ls (.int r :: rest))) : W p l e R s m args below meth c H locs cells slots Q (F0 m pc ls st0) :=
  vx_calli hr hS (fun _ _ h => h) (fun _ h => h) (fun _ _ h => h) (fun E ce q9 u t H1 locs1 ht _ _ hB hz1 _ hS1 h1 h2 h3 => kx E ce q9 u H1 locs1 hB.1 (eWi ht hB.2) hz1 hS1 h1 h2 h3) (fun r u t H1 locs1 ht _ hw hB hz1 _ hS1 => kk r u H1 locs1 hw (eWi ht hB) hz1 hS1)
theorem ec_d {post : UInt64 → hp_M → Prop} (hr : va_Run p l e R s m args below meth c H locs cells slots mc ms (F0 m pc ls st0) rest (va_Qd post (eW G S0) (hp_A S0) a) (hp_A S0)) (hS : va_S (hp_A S0) s.heap H locs)
    (kk : ∀ (r : UInt64) (u : hp_M) (H1 : Heap) (locs1 : List Loc), post r u → eI G S0 u H1 → H.size ≤ H1.size → va_S (hp_A S0) s.heap H1 locs1 → W p l e R s m args below meth c H1 locs1 (cells + mc) (slots + ms) Q (F0 m (pc + 3) ls (.double r :: rest))) : W p l e R s m args below meth c H locs cells slots Q (F0 m pc ls st0) :=
  va_calld hr hS (fun _ _ h => h) (fun _ h => h) (fun r u t H1 locs1 ht _ hw hB hz1 _ hS1 => kk r u H1 locs1 hw (eWi ht hB) hz1 hS1)
theorem xc_d {post : UInt64 → hp_M → Prop} {px : String → hp_M → Prop} (hr : vx_Run p l e R s m args below meth c H locs cells slots mc ms (F0 m pc ls st0) rest (va_Qd post (eW G S0) (hp_A S0) a) (eX G S0 px) (hp_A S0)) (hS : va_S (hp_A S0) s.heap H locs)
    (kx : ∀ (E : String) (ce : Cell) (q9 : Addr) (u : hp_M) (H1 : Heap) (locs1 : List Loc), px E u → eI G S0 u H1 → H.size ≤ H1.size → va_S (hp_A S0) s.heap H1 locs1 → H1[q9]? = some ce → ce.vm = .none → s.vm.findClass E = some ce.cls → vx_W p l e R s m args below meth c H1 locs1 (cells + mc) (slots + ms) Q (F0 m pc ls rest) q9)
    (kk : ∀ (r : UInt64) (u : hp_M) (H1 : Heap) (locs1 : List Loc), post r u → eI G S0 u H1 → H.size ≤ H1.size → va_S (hp_A S0) s.heap H1 locs1 → W p l e R s m args below meth c H1 locs1 (cells + mc) (slots + ms) Q (F0 m (pc + 3) ls (.double r :: rest))) : W p l e R s m args below meth c H locs cells slots Q (F0 m pc ls st0) :=
  vx_calld hr hS (fun _ _ h => h) (fun _ h => h) (fun _ _ h => h) (fun E ce q9 u t H1 locs1 ht _ _ hB hz1 _ hS1 h1 h2 h3 => kx E ce q9 u H1 locs1 hB.1 (eWi ht hB.2) hz1 hS1 h1 h2 h3) (fun r u t H1 locs1 ht _ hw hB hz1 _ hS1 => kk r u H1 locs1 hw (eWi ht hB) hz1 hS1)
theorem ec_o {post : Option Nat → hp_M → Prop} (hr : va_Run p l e R s m args below meth c H locs cells slots mc ms (F0 m pc ls st0) rest (va_Qo post (eW G S0) (hp_A S0) a) (hp_A S0)) (hS : va_S (hp_A S0) s.heap H locs)
    (kk : ∀ (r : Option Nat) (u : hp_M) (H1 : Heap) (locs1 : List Loc), post r u → eI G S0 u H1 → H.size ≤ H1.size → va_S (hp_A S0) s.heap H1 locs1 → W p l e R s m args below meth c H1 locs1 (cells + mc) (slots + ms) Q (F0 m (pc + 3) ls (va_rf r :: rest))) : W p l e R s m args below meth c H locs cells slots Q (F0 m pc ls st0) :=
  va_callo hr hS (fun _ _ h => h) (fun _ h => h) (fun r u t H1 locs1 ht _ hw hB hz1 _ hS1 => kk r u H1 locs1 hw (eWi ht hB) hz1 hS1)
theorem xc_o {post : Option Nat → hp_M → Prop} {px : String → hp_M → Prop} (hr : vx_Run p l e R s m args below meth c H locs cells slots mc ms (F0 m pc ls st0) rest (va_Qo post (eW G S0) (hp_A S0) a) (eX G S0 px) (hp_A S0)) (hS : va_S (hp_A S0) s.heap H locs)
    (kx : ∀ (E : String) (ce : Cell) (q9 : Addr) (u : hp_M) (H1 : Heap) (locs1 : List Loc), px E u → eI G S0 u H1 → H.size ≤ H1.size → va_S (hp_A S0) s.heap H1 locs1 → H1[q9]? = some ce → ce.vm = .none → s.vm.findClass E = some ce.cls → vx_W p l e R s m args below meth c H1 locs1 (cells + mc) (slots + ms) Q (F0 m pc ls rest) q9)
    (kk : ∀ (r : Option Nat) (u : hp_M) (H1 : Heap) (locs1 : List Loc), post r u → eI G S0 u H1 → H.size ≤ H1.size → va_S (hp_A S0) s.heap H1 locs1 → W p l e R s m args below meth c H1 locs1 (cells + mc) (slots + ms) Q (F0 m (pc + 3) ls (va_rf r :: rest))) : W p l e R s m args below meth c H locs cells slots Q (F0 m pc ls st0) :=
  vx_callo hr hS (fun _ _ h => h) (fun _ h => h) (fun _ _ h => h) (fun E ce q9 u t H1 locs1 ht _ _ hB hz1 _ hS1 h1 h2 h3 => kx E ce q9 u H1 locs1 hB.1 (eWi ht hB.2) hz1 hS1 h1 h2 h3) (fun r u t H1 locs1 ht _ hw hB hz1 _ hS1 => kk r u H1 locs1 hw (eWi ht hB) hz1 hS1)
theorem xc_out {pc : Nat} {E : String} {ce : Cell} {q : Addr} {mc ms : Nat} {px : String → hp_M → Prop} {Qc : Array Value → State → Outcome → State → Prop} {u : hp_M} (hnx : ∀ x ∈ c.exceptionTable.toList, False) (hlocks : meth.locks = false) (hcell : H[q]? = some ce) (hv : ce.vm = .none) (hcl : s.vm.findClass E = some ce.cls)
    (hx : px E u) (hI : eI G S0 u H) (hS : va_S (hp_A S0) s.heap H locs) (hc : cells ≤ mc) (hs : slots ≤ ms) :
    vx_W p l e R s m args below meth c H locs cells slots (vx_MQ below Qc (eX G S0 px) args s mc ms (hp_A S0)) (F0 m pc ls rest) q :=
  vx_out (fun x h => (hnx x h).elim) hlocks hcell hv hcl (fun t ht _ => ⟨u, trivial, ⟨hx, eWo ht hI⟩, hS.F ht⟩) hS.2.2 hc hs
end ECalls

/-! rows for the walks of the model: indices as numbers -/
theorem nI_mul (a b : Nat) : nI a * nI b = nI (a * b) := (Int32.ofNat_mul a b).symm
theorem nI_sub {a b : Nat} (h : b ≤ a) : nI a - nI b = nI (a - b) := by
  have e : nI (a - b) + nI b = nI a := by rw [nI_add, Nat.sub_add_cancel h]
  rw [← e, Int32.add_sub_cancel]
theorem bI_t {b : Bool} : bI b = 1 ↔ b = true := by cases b <;> decide
theorem bI_f {b : Bool} : bI b = 0 ↔ b = false := by cases b <;> decide
section MV
variable {p : Program} {l : Launch} {e : Env} {R : Room} {s : State} {m : MethodId} {args : Array Value} {below : List Frame} {meth : Method} {c : Code} {H : Heap} {locs : List Loc} {cells slots : Nat} {Q : State → Prop}
variable {cc : ByteArray} {pc : Nat} {ls : Array Slot} {rest : List Value} {D : va_G} {cl : List vw_C} {S0 a : Nat} {tys : List (ClassId × FieldType)} {w : hp_M} {H0 : Heap}

theorem mv_i {x y : Int32} (h : x = y) (k : W p l e R s m args below meth c H locs cells slots Q (F0 m pc ls (.int y :: rest))) : W p l e R s m args below meth c H locs cells slots Q (F0 m pc ls (.int x :: rest)) := by rw [h]; exact k
theorem mv_d {x y : UInt64} (h : x = y) (k : W p l e R s m args below meth c H locs cells slots Q (F0 m pc ls (.double y :: rest))) : W p l e R s m args below meth c H locs cells slots Q (F0 m pc ls (.double x :: rest)) := by rw [h]; exact k
theorem mv_iadd (hexec : p.tables.exec = Jvm.exec) (hb : c.code = cc) {x y : Int32} (a b : Nat) (hxa : x = nI a) (hyb : y = nI b) (hdg : decode cc pc = .ok (.iadd, 1)) (k : W p l e R s m args below meth c H locs cells slots Q (F0 m (pc + 1) ls (.int (nI (a + b)) :: rest))) : W p l e R s m args below meth c H locs cells slots Q (F0 m pc ls (.int y :: .int x :: rest)) := by
  subst hxa hyb
  refine lv_iadd hexec hb hdg ?_
  rw [nI_add]
  exact k
theorem mv_imul (hexec : p.tables.exec = Jvm.exec) (hb : c.code = cc) {x y : Int32} (a b : Nat) (hxa : x = nI a) (hyb : y = nI b) (hdg : decode cc pc = .ok (.imul, 1)) (k : W p l e R s m args below meth c H locs cells slots Q (F0 m (pc + 1) ls (.int (nI (a * b)) :: rest))) : W p l e R s m args below meth c H locs cells slots Q (F0 m pc ls (.int y :: .int x :: rest)) := by
  subst hxa hyb
  refine lv_imul hexec hb hdg ?_
  rw [nI_mul]
  exact k
theorem mv_isub (hexec : p.tables.exec = Jvm.exec) (hb : c.code = cc) {x y : Int32} (a b : Nat) (hxa : x = nI a) (hyb : y = nI b) (h : b ≤ a) (hdg : decode cc pc = .ok (.isub, 1)) (k : W p l e R s m args below meth c H locs cells slots Q (F0 m (pc + 1) ls (.int (nI (a - b)) :: rest))) : W p l e R s m args below meth c H locs cells slots Q (F0 m pc ls (.int y :: .int x :: rest)) := by
  subst hxa hyb
  refine lv_isub hexec hb hdg ?_
  rw [nI_sub h]
  exact k
theorem mv_cge (hexec : p.tables.exec = Jvm.exec) (hb : c.code = cc) {x y : Int32} (a b : Nat) (hxa : x = nI a) (hyb : y = nI b) (hla : a < 2 ^ 31) (hlb : b < 2 ^ 31) {off : Int} {tgt : Nat} (hdg : decode cc pc = .ok (.if_icmp .ge off, 3)) (ht : (pc : Int) + off = (tgt : Int))
    (kt : b ≤ a → W p l e R s m args below meth c H locs cells slots Q (F0 m tgt ls rest)) (kf : a < b → W p l e R s m args below meth c H locs cells slots Q (F0 m (pc + 3) ls rest)) : W p l e R s m args below meth c H locs cells slots Q (F0 m pc ls (.int y :: .int x :: rest)) := by
  subst hxa hyb
  exact lv_icmp_ge hexec hb hdg ht (fun q => kt ((nI_leI (a := b) (b := a) hlb hla).mp q)) (fun q => kf (Nat.lt_of_not_le (fun e9 => q ((nI_leI (a := b) (b := a) hlb hla).mpr e9))))
theorem mv_clt (hexec : p.tables.exec = Jvm.exec) (hb : c.code = cc) {x y : Int32} (a b : Nat) (hxa : x = nI a) (hyb : y = nI b) (hla : a < 2 ^ 31) (hlb : b < 2 ^ 31) {off : Int} {tgt : Nat} (hdg : decode cc pc = .ok (.if_icmp .lt off, 3)) (ht : (pc : Int) + off = (tgt : Int))
    (kt : a < b → W p l e R s m args below meth c H locs cells slots Q (F0 m tgt ls rest)) (kf : b ≤ a → W p l e R s m args below meth c H locs cells slots Q (F0 m (pc + 3) ls rest)) : W p l e R s m args below meth c H locs cells slots Q (F0 m pc ls (.int y :: .int x :: rest)) := by
  subst hxa hyb
  exact lv_icmp_lt hexec hb hdg ht (fun q => kt ((nI_ltI (a := a) (b := b) hla hlb).mp q)) (fun q => kf (Nat.le_of_not_lt (fun e9 => q ((nI_ltI (a := a) (b := b) hla hlb).mpr e9))))
theorem mv_cgt (hexec : p.tables.exec = Jvm.exec) (hb : c.code = cc) {x y : Int32} (a b : Nat) (hxa : x = nI a) (hyb : y = nI b) (hla : a < 2 ^ 31) (hlb : b < 2 ^ 31) {off : Int} {tgt : Nat} (hdg : decode cc pc = .ok (.if_icmp .gt off, 3)) (ht : (pc : Int) + off = (tgt : Int))
    (kt : b < a → W p l e R s m args below meth c H locs cells slots Q (F0 m tgt ls rest)) (kf : a ≤ b → W p l e R s m args below meth c H locs cells slots Q (F0 m (pc + 3) ls rest)) : W p l e R s m args below meth c H locs cells slots Q (F0 m pc ls (.int y :: .int x :: rest)) := by
  subst hxa hyb
  exact lv_icmp_gt hexec hb hdg ht (fun q => kt ((nI_ltI (a := b) (b := a) hlb hla).mp q)) (fun q => kf (Nat.le_of_not_lt (fun e9 => q ((nI_ltI (a := b) (b := a) hlb hla).mpr e9))))
theorem mv_cle (hexec : p.tables.exec = Jvm.exec) (hb : c.code = cc) {x y : Int32} (a b : Nat) (hxa : x = nI a) (hyb : y = nI b) (hla : a < 2 ^ 31) (hlb : b < 2 ^ 31) {off : Int} {tgt : Nat} (hdg : decode cc pc = .ok (.if_icmp .le off, 3)) (ht : (pc : Int) + off = (tgt : Int))
    (kt : a ≤ b → W p l e R s m args below meth c H locs cells slots Q (F0 m tgt ls rest)) (kf : b < a → W p l e R s m args below meth c H locs cells slots Q (F0 m (pc + 3) ls rest)) : W p l e R s m args below meth c H locs cells slots Q (F0 m pc ls (.int y :: .int x :: rest)) := by
  subst hxa hyb
  exact lv_icmp_le hexec hb hdg ht (fun q => kt ((nI_leI (a := a) (b := b) hla hlb).mp q)) (fun q => kf (Nat.lt_of_not_le (fun e9 => q ((nI_leI (a := a) (b := b) hla hlb).mpr e9))))
theorem mv_ceq (hexec : p.tables.exec = Jvm.exec) (hb : c.code = cc) {x y : Int32} (a b : Nat) (hxa : x = nI a) (hyb : y = nI b) (hla : a < 2 ^ 31) (hlb : b < 2 ^ 31) {off : Int} {tgt : Nat} (hdg : decode cc pc = .ok (.if_icmp .eq off, 3)) (ht : (pc : Int) + off = (tgt : Int))
    (kt : a = b → W p l e R s m args below meth c H locs cells slots Q (F0 m tgt ls rest)) (kf : a ≠ b → W p l e R s m args below meth c H locs cells slots Q (F0 m (pc + 3) ls rest)) : W p l e R s m args below meth c H locs cells slots Q (F0 m pc ls (.int y :: .int x :: rest)) := by
  subst hxa hyb
  exact lv_icmp_eq hexec hb hdg ht (fun q => kt ((nI_eq (a := a) (b := b) hla hlb).mp q)) (fun q => kf (id (fun e9 => q ((nI_eq (a := a) (b := b) hla hlb).mpr e9))))
theorem mv_cne (hexec : p.tables.exec = Jvm.exec) (hb : c.code = cc) {x y : Int32} (a b : Nat) (hxa : x = nI a) (hyb : y = nI b) (hla : a < 2 ^ 31) (hlb : b < 2 ^ 31) {off : Int} {tgt : Nat} (hdg : decode cc pc = .ok (.if_icmp .ne off, 3)) (ht : (pc : Int) + off = (tgt : Int))
    (kt : a ≠ b → W p l e R s m args below meth c H locs cells slots Q (F0 m tgt ls rest)) (kf : a = b → W p l e R s m args below meth c H locs cells slots Q (F0 m (pc + 3) ls rest)) : W p l e R s m args below meth c H locs cells slots Q (F0 m pc ls (.int y :: .int x :: rest)) := by
  subst hxa hyb
  exact lv_icmp_ne hexec hb hdg ht (fun q => kt (fun e9 => q ((nI_eq (a := a) (b := b) hla hlb).mpr e9))) (fun q => kf ((nI_eq (a := a) (b := b) hla hlb).mp q))
theorem mv_zeq (hexec : p.tables.exec = Jvm.exec) (hb : c.code = cc) {x : Int32} (b : Bool) (hxa : x = bI b) {off : Int} {tgt : Nat} (hdg : decode cc pc = .ok (.ifCond .eq off, 3)) (ht : (pc : Int) + off = (tgt : Int))
    (kt : b = false → W p l e R s m args below meth c H locs cells slots Q (F0 m tgt ls rest)) (kf : b = true → W p l e R s m args below meth c H locs cells slots Q (F0 m (pc + 3) ls rest)) : W p l e R s m args below meth c H locs cells slots Q (F0 m pc ls (.int x :: rest)) := by
  subst hxa
  exact lv_if_eq hexec hb hdg ht (fun q => kt (bI_f.mp q)) (fun q => kf (by cases b with | true => rfl | false => exact absurd rfl q))
theorem mv_zne (hexec : p.tables.exec = Jvm.exec) (hb : c.code = cc) {x : Int32} (b : Bool) (hxa : x = bI b) {off : Int} {tgt : Nat} (hdg : decode cc pc = .ok (.ifCond .ne off, 3)) (ht : (pc : Int) + off = (tgt : Int))
    (kt : b = true → W p l e R s m args below meth c H locs cells slots Q (F0 m tgt ls rest)) (kf : b = false → W p l e R s m args below meth c H locs cells slots Q (F0 m (pc + 3) ls rest)) : W p l e R s m args below meth c H locs cells slots Q (F0 m pc ls (.int x :: rest)) := by
  subst hxa
  exact lv_if_ne hexec hb hdg ht (fun q => kt (by cases b with | true => rfl | false => exact absurd rfl q)) (fun q => kf (bI_f.mp q))
theorem mv_ieq (hexec : p.tables.exec = Jvm.exec) (hb : c.code = cc) {x : Int32} (a : Nat) (hxa : x = nI a) (hla : a < 2 ^ 31) {off : Int} {tgt : Nat} (hdg : decode cc pc = .ok (.ifCond .eq off, 3)) (ht : (pc : Int) + off = (tgt : Int))
    (kt : a = 0 → W p l e R s m args below meth c H locs cells slots Q (F0 m tgt ls rest)) (kf : a ≠ 0 → W p l e R s m args below meth c H locs cells slots Q (F0 m (pc + 3) ls rest)) : W p l e R s m args below meth c H locs cells slots Q (F0 m pc ls (.int x :: rest)) := by
  subst hxa
  exact lv_if_eq hexec hb hdg ht (fun q => kt ((nI_eq (a := a) (b := 0) hla (by decide)).mp q)) (fun q => kf (fun e9 => q (by rw [e9]; rfl)))
theorem mv_ine (hexec : p.tables.exec = Jvm.exec) (hb : c.code = cc) {x : Int32} (a : Nat) (hxa : x = nI a) (hla : a < 2 ^ 31) {off : Int} {tgt : Nat} (hdg : decode cc pc = .ok (.ifCond .ne off, 3)) (ht : (pc : Int) + off = (tgt : Int))
    (kt : a ≠ 0 → W p l e R s m args below meth c H locs cells slots Q (F0 m tgt ls rest)) (kf : a = 0 → W p l e R s m args below meth c H locs cells slots Q (F0 m (pc + 3) ls rest)) : W p l e R s m args below meth c H locs cells slots Q (F0 m pc ls (.int x :: rest)) := by
  subst hxa
  exact lv_if_ne hexec hb hdg ht (fun q => kt (fun e9 => q (by rw [e9]; rfl))) (fun q => kf ((nI_eq (a := a) (b := 0) hla (by decide)).mp q))
theorem mv_ile (hexec : p.tables.exec = Jvm.exec) (hb : c.code = cc) {x : Int32} (a : Nat) (hxa : x = nI a) (hla : a < 2 ^ 31) {off : Int} {tgt : Nat} (hdg : decode cc pc = .ok (.ifCond .le off, 3)) (ht : (pc : Int) + off = (tgt : Int))
    (kt : a = 0 → W p l e R s m args below meth c H locs cells slots Q (F0 m tgt ls rest)) (kf : 0 < a → W p l e R s m args below meth c H locs cells slots Q (F0 m (pc + 3) ls rest)) : W p l e R s m args below meth c H locs cells slots Q (F0 m pc ls (.int x :: rest)) := by
  subst hxa
  exact lv_if_le hexec hb hdg ht (fun q => kt (Nat.le_zero.mp ((nI_leI (a := a) (b := 0) hla (by decide)).mp q))) (fun q => kf (Nat.pos_of_ne_zero (fun e9 => q (by rw [e9]; decide))))
theorem mv_igt (hexec : p.tables.exec = Jvm.exec) (hb : c.code = cc) {x : Int32} (a : Nat) (hxa : x = nI a) (hla : a < 2 ^ 31) {off : Int} {tgt : Nat} (hdg : decode cc pc = .ok (.ifCond .gt off, 3)) (ht : (pc : Int) + off = (tgt : Int))
    (kt : 0 < a → W p l e R s m args below meth c H locs cells slots Q (F0 m tgt ls rest)) (kf : a = 0 → W p l e R s m args below meth c H locs cells slots Q (F0 m (pc + 3) ls rest)) : W p l e R s m args below meth c H locs cells slots Q (F0 m pc ls (.int x :: rest)) := by
  subst hxa
  exact lv_if_gt hexec hb hdg ht (fun q => kt ((nI_ltI (a := 0) (b := a) (by decide) hla).mp q)) (fun q => kf (Nat.eq_zero_of_not_pos (fun e9 => q ((nI_ltI (a := 0) (b := a) (by decide) hla).mpr e9))))
theorem mv_iald (hexec : p.tables.exec = Jvm.exec) (hb : c.code = cc) (hK : va_K D cl tys s) (hI : hp_I D cl S0 w H) (t0 : Nat) {cA : ClassId} {n : Nat} (f : Nat → Int32) (ha : w a = some (.inl (cA, n, .inl f))) (ht : tys[t0]? = some (cA, .int)) {i : Int32} (j : Nat) (hij : i = nI j) (hj : j < n) (hn : n < 2 ^ 31) (hdg : decode cc pc = .ok (.iaload, 1))
    (kk : W p l e R s m args below meth c H locs cells slots Q (F0 m (pc + 1) ls (.int (f j) :: rest))) : W p l e R s m args below meth c H locs cells slots Q (F0 m pc ls (.int i :: .ref a :: rest)) := by
  subst hij
  refine hp_iald hexec hb hK hI t0 ha ht (vp_in_nI hj hn) hdg ?_
  rw [nI_clamp (Nat.lt_trans hj hn)]
  exact kk
theorem mv_iast (hexec : p.tables.exec = Jvm.exec) (hb : c.code = cc) (hK : va_K D cl tys s) (hI : hp_I D cl S0 w H) (hS : va_S (hp_A S0) H0 H locs) (t0 : Nat) {cA : ClassId} {n : Nat} (f : Nat → Int32) (ha : w a = some (.inl (cA, n, .inl f))) (ht : tys[t0]? = some (cA, .int)) {i : Int32} (j : Nat) {x : Int32} (w2 : (Nat → Int32) → hp_M) (hw2 : ∀ f, hp_set w a (.inl (cA, n, .inl f)) = w2 f) (hij : i = nI j) (hj : j < n) (hn : n < 2 ^ 31) (hdg : decode cc pc = .ok (.iastore, 1))
    (kk : ∀ (H1 : Heap) (locs1 : List Loc) (g : Nat → Int32), g = upd f j x → hp_I D cl S0 (w2 g) H1 → va_S (hp_A S0) H0 H1 locs1 → H1.size = H.size → W p l e R s m args below meth c H1 locs1 cells slots Q (F0 m (pc + 1) ls rest)) : W p l e R s m args below meth c H locs cells slots Q (F0 m pc ls (.int x :: .int i :: .ref a :: rest)) := by
  subst hij
  refine hp_iast hexec hb hK hI hS t0 ha ht (vp_in_nI hj hn) hdg (fun H1 locs1 h1 h2 h3 => ?_)
  rw [nI_clamp (Nat.lt_trans hj hn), hw2] at h1
  exact kk H1 locs1 _ rfl h1 h2 h3
theorem mv_zald (hexec : p.tables.exec = Jvm.exec) (hb : c.code = cc) (hK : va_K D cl tys s) (hI : hp_I D cl S0 w H) (t0 : Nat) {cA : ClassId} {n : Nat} (f : Nat → Int32) (ha : w a = some (.inl (cA, n, .inl f))) (ht : tys[t0]? = some (cA, .boolean)) {i : Int32} (j : Nat) (hij : i = nI j) (hj : j < n) (hn : n < 2 ^ 31) (hdg : decode cc pc = .ok (.baload, 1))
    (kk : W p l e R s m args below meth c H locs cells slots Q (F0 m (pc + 1) ls (.int (f j) :: rest))) : W p l e R s m args below meth c H locs cells slots Q (F0 m pc ls (.int i :: .ref a :: rest)) := by
  subst hij
  refine hp_zald hexec hb hK hI t0 ha ht (vp_in_nI hj hn) hdg ?_
  rw [nI_clamp (Nat.lt_trans hj hn)]
  exact kk
theorem mv_zast (hexec : p.tables.exec = Jvm.exec) (hb : c.code = cc) (hK : va_K D cl tys s) (hI : hp_I D cl S0 w H) (hS : va_S (hp_A S0) H0 H locs) (t0 : Nat) {cA : ClassId} {n : Nat} (f : Nat → Int32) (ha : w a = some (.inl (cA, n, .inl f))) (ht : tys[t0]? = some (cA, .boolean)) {i : Int32} (j : Nat) {x : Int32} (hx01 : x = 0 ∨ x = 1) (w2 : (Nat → Int32) → hp_M) (hw2 : ∀ f, hp_set w a (.inl (cA, n, .inl f)) = w2 f) (hij : i = nI j) (hj : j < n) (hn : n < 2 ^ 31) (hdg : decode cc pc = .ok (.bastore, 1))
    (kk : ∀ (H1 : Heap) (locs1 : List Loc) (g : Nat → Int32), g = upd f j x → hp_I D cl S0 (w2 g) H1 → va_S (hp_A S0) H0 H1 locs1 → H1.size = H.size → W p l e R s m args below meth c H1 locs1 cells slots Q (F0 m (pc + 1) ls rest)) : W p l e R s m args below meth c H locs cells slots Q (F0 m pc ls (.int x :: .int i :: .ref a :: rest)) := by
  subst hij
  refine hp_zast hexec hb hK hI hS t0 ha ht hx01 (vp_in_nI hj hn) hdg (fun H1 locs1 h1 h2 h3 => ?_)
  rw [nI_clamp (Nat.lt_trans hj hn), hw2] at h1
  exact kk H1 locs1 _ rfl h1 h2 h3
theorem mv_dald (hexec : p.tables.exec = Jvm.exec) (hb : c.code = cc) (hK : va_K D cl tys s) (hI : hp_I D cl S0 w H) (t0 : Nat) {cA : ClassId} {n : Nat} (f : Nat → UInt64) (ha : w a = some (.inl (cA, n, .inr (.inr (.inr (.inl f)))))) (ht : tys[t0]? = some (cA, .double)) {i : Int32} (j : Nat) (hij : i = nI j) (hj : j < n) (hn : n < 2 ^ 31) (hdg : decode cc pc = .ok (.daload, 1))
    (kk : W p l e R s m args below meth c H locs cells slots Q (F0 m (pc + 1) ls (.double (f j) :: rest))) : W p l e R s m args below meth c H locs cells slots Q (F0 m pc ls (.int i :: .ref a :: rest)) := by
  subst hij
  refine hp_dald hexec hb hK hI t0 ha ht (vp_in_nI hj hn) hdg ?_
  rw [nI_clamp (Nat.lt_trans hj hn)]
  exact kk
theorem mv_dast (hexec : p.tables.exec = Jvm.exec) (hb : c.code = cc) (hK : va_K D cl tys s) (hI : hp_I D cl S0 w H) (hS : va_S (hp_A S0) H0 H locs) (t0 : Nat) {cA : ClassId} {n : Nat} (f : Nat → UInt64) (ha : w a = some (.inl (cA, n, .inr (.inr (.inr (.inl f)))))) (ht : tys[t0]? = some (cA, .double)) {i : Int32} (j : Nat) {x : UInt64} (w2 : (Nat → UInt64) → hp_M) (hw2 : ∀ f, hp_set w a (.inl (cA, n, .inr (.inr (.inr (.inl f))))) = w2 f) (hij : i = nI j) (hj : j < n) (hn : n < 2 ^ 31) (hdg : decode cc pc = .ok (.dastore, 1))
    (kk : ∀ (H1 : Heap) (locs1 : List Loc) (g : Nat → UInt64), g = vf_upd f j x → hp_I D cl S0 (w2 g) H1 → va_S (hp_A S0) H0 H1 locs1 → H1.size = H.size → W p l e R s m args below meth c H1 locs1 cells slots Q (F0 m (pc + 1) ls rest)) : W p l e R s m args below meth c H locs cells slots Q (F0 m pc ls (.double x :: .int i :: .ref a :: rest)) := by
  subst hij
  refine hp_dast hexec hb hK hI hS t0 ha ht (vp_in_nI hj hn) hdg (fun H1 locs1 h1 h2 h3 => ?_)
  rw [nI_clamp (Nat.lt_trans hj hn), hw2] at h1
  exact kk H1 locs1 _ rfl h1 h2 h3
end MV

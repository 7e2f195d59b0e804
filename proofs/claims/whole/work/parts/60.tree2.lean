/-! trees after node, into, remove; the model's picture after them -/
theorem er_nodup {l : List Nat} (h : l.Nodup) (i : Nat) : (l.eraseIdx i).Nodup := List.Sublist.nodup (List.eraseIdx_sublist l i) h
theorem er_mem {l : List Nat} (h : l.Nodup) {k c : Nat} (hk : k ∈ l) : c ∈ l.eraseIdx (l.idxOf k) ↔ c ∈ l ∧ c ≠ k := by
  have hix : l.idxOf k < l.length := List.idxOf_lt_length_of_mem hk
  have hge : l[l.idxOf k] = k := List.getElem_idxOf hix
  constructor
  · intro hc
    refine ⟨(List.eraseIdx_sublist l _).mem hc, fun e => ?_⟩
    subst e
    obtain ⟨j, hj, ej⟩ := List.getElem_of_mem hc
    rw [List.getElem_eraseIdx] at ej
    rw [List.length_eraseIdx, if_pos hix] at hj
    split at ej
    · have := (List.getElem?_inj (i := j) (j := l.idxOf c) (by omega) h).mp (by rw [List.getElem?_eq_getElem (by omega), List.getElem?_eq_getElem hix, ej, hge])
      omega
    · have := (List.getElem?_inj (i := j + 1) (j := l.idxOf c) (by omega) h).mp (by rw [List.getElem?_eq_getElem (by omega), List.getElem?_eq_getElem hix, ej, hge])
      omega
  · rintro ⟨h1, h2⟩
    obtain ⟨j, hj, ej⟩ := List.getElem_of_mem h1
    have hne : j ≠ l.idxOf k := fun e => h2 (by rw [← ej]; subst e; exact hge)
    have hle : (l.eraseIdx (l.idxOf k)).length = l.length - 1 := by rw [List.length_eraseIdx, if_pos hix]
    rcases Nat.lt_or_ge j (l.idxOf k) with q | q
    · have : (l.eraseIdx (l.idxOf k))[j]'(by omega) = c := by rw [List.getElem_eraseIdx, dif_pos q]; exact ej
      exact this ▸ List.getElem_mem _
    · have : (l.eraseIdx (l.idxOf k))[j - 1]'(by omega) = c := by
        rw [List.getElem_eraseIdx, dif_neg (by omega)]
        simp only [show j - 1 + 1 = j by omega]
        exact ej
      exact this ▸ List.getElem_mem _
theorem rk_some {d : DS} {k gp : Nat} (h : sPa d k = some gp) : rkF d k = (sCh d gp).idxOf k := by unfold rkF; rw [h]
/-- the children when a node has been taken out -/
def cUn (d : DS) (k gp x : Nat) : List Nat := if x = gp then (sCh d gp).eraseIdx ((sCh d gp).idxOf k) else sCh d x
theorem dUn_c {d : DS} {k gp x : Nat} (h : sPa d k = some gp) : sCh (dUn d k gp) x = cUn d k gp x := by
  show fset (sCh d) gp ((sCh d gp).eraseIdx (rkF d k)) x = _
  rw [rk_some h]
  rfl
theorem dUn_p {d : DS} {k gp x : Nat} : sPa (dUn d k gp) x = if x = k then none else sPa d x := rfl
theorem dInto_c {d : DS} {k gp g x : Nat} (h : sPa d k = some gp) : sCh (dInto d k gp g) x = if x = g then cUn d k gp g ++ [k] else cUn d k gp x := by
  show fset (sCh (dUn d k gp)) g (sCh (dUn d k gp) g ++ [k]) x = _
  rw [dUn_c h]
  unfold fset
  by_cases e : x = g
  · rw [if_pos e, if_pos e]
  · rw [if_neg e, if_neg e, dUn_c h]
theorem dInto_p {d : DS} {k gp g x : Nat} : sPa (dInto d k gp g) x = if x = k then some g else sPa d x := by
  show fset (fset (sPa d) k none) k (some g) x = _
  unfold fset
  by_cases e : x = k
  · rw [if_pos e, if_pos e]
  · rw [if_neg e, if_neg e, if_neg e]
theorem inn0 {d : DS} {dp : Nat → Nat} (htr : tOk d dp) {k : Nat} (hk : k ≠ 0) : ¬ inn d 0 k := fun h => by
  rcases (inn_iff d 0 k).mp h with e | ⟨g, e, -⟩
  · exact hk e.symm
  · rw [htr.2.1] at e; cases e
theorem inn_up {d : DS} {c k g : Nat} (hc : c ≠ k) (hp : sPa d c = some g) : inn d c k ↔ inn d g k := by
  rw [inn_iff d c k]
  constructor
  · rintro (e | ⟨g', e1, e2⟩)
    · exact absurd e hc
    · rw [hp] at e1; cases e1; exact e2
  · intro h
    exact Or.inr ⟨g, hp, h⟩
theorem cUn_mem {d : DS} {dp : Nat → Nat} (htr : tOk d dp) {k gp x c : Nat} (hgp : gp < 14) (hgt : sTh d gp = true) (hk : k ∈ sCh d gp) (hx : x < 14) (hxt : sTh d x = true) : c ∈ cUn d k gp x ↔ c ∈ sCh d x ∧ c ≠ k := by
  unfold cUn
  by_cases e : x = gp
  · subst e
    rw [if_pos rfl]
    exact er_mem (htr.2.2.2.2.2.1 x hx hxt).1 hk
  · rw [if_neg e]
    refine ⟨fun h => ⟨h, fun q => ?_⟩, fun h => h.1⟩
    subst q
    have h1 := (htr.child hx hxt h).2.2.1
    rw [(htr.child hgp hgt hk).2.2.1] at h1
    exact e (Option.some.inj h1).symm
theorem cUn_nodup {d : DS} {dp : Nat → Nat} (htr : tOk d dp) {k gp x : Nat} (hx : x < 14) (hxt : sTh d x = true) : (cUn d k gp x).Nodup := by
  unfold cUn
  by_cases e : x = gp
  · subst e
    rw [if_pos rfl]
    exact er_nodup (htr.2.2.2.2.2.1 x hx hxt).1 _
  · rw [if_neg e]
    exact (htr.2.2.2.2.2.1 x hx hxt).1
noncomputable def dpI (d : DS) (dp : Nat → Nat) (k g : Nat) : Nat → Nat := fun c => @ite Nat (inn d c k) (Classical.propDecidable _) (dp c - dp k + (dp g + 1)) (dp c)
theorem dpI_y {d : DS} {dp : Nat → Nat} {k g c : Nat} (h : inn d c k) : dpI d dp k g c = dp c - dp k + (dp g + 1) := if_pos h
theorem dpI_n {d : DS} {dp : Nat → Nat} {k g c : Nat} (h : ¬ inn d c k) : dpI d dp k g c = dp c := if_neg h
theorem tOk.into {d : DS} {dp : Nat → Nat} (htr : tOk d dp) {n gr : Int32} {k g gp : Nat} (hok : okInto d n gr k g gp) (hni : ¬ inn d g k) (h5 : dp g + (mxD d dp k 14 - dp k + 1) ≤ 5) : tOk (dInto d k gp g) (dpI d dp k g) := by
  obtain ⟨hk, -, ht, hk0, hg1, -, hgt, hg0, hgp, hgpt, hpa, hkc⟩ := hok
  refine ⟨htr.1, ?_, htr.2.2.1, ?_, ?_, ?_, ?_⟩
  · rw [dInto_p, if_neg (Ne.symm hk0)]; exact htr.2.1
  · rw [dpI_n (inn0 htr hk0)]; exact htr.2.2.2.1
  · intro c hc hct hc0
    have hct : sTh d c = true := hct
    by_cases e : c = k
    · refine ⟨g, hg1, ?_, hgt, hg0, ?_, ?_⟩
      · rw [dInto_p, if_pos e]
      · rw [e, dpI_y (inn_self d k), dpI_n hni]; omega
      · rw [dInto_c hpa, if_pos rfl, e]; exact List.mem_append_right _ (List.mem_singleton.mpr rfl)
    · obtain ⟨q, q1, q2, q3, q4, q5, q6⟩ := htr.2.2.2.2.1 c hc hct hc0
      refine ⟨q, q1, ?_, q3, q4, ?_, ?_⟩
      · rw [dInto_p, if_neg e]; exact q2
      · have hiu := inn_up e q2
        by_cases hi : inn d c k
        · have h1 := hiu.mp hi
          obtain ⟨jj, hjj⟩ := h1
          have := inn_dp htr jj q q1 q3 hjj
          rw [dpI_y hi, dpI_y (hiu.mp hi)]
          omega
        · rw [dpI_n hi, dpI_n (fun h => hi (hiu.mpr h))]; exact q5
      · have hm := (cUn_mem htr hgp hgpt hkc q1 q3 (c := c)).mpr ⟨q6, e⟩
        rw [dInto_c hpa]
        by_cases e2 : q = g
        · rw [if_pos e2, ← e2]; exact List.mem_append_left _ hm
        · rw [if_neg e2]; exact hm
  · intro x hx hxt
    have hxt : sTh d x = true := hxt
    rw [dInto_c hpa]
    by_cases e : x = g
    · subst e
      rw [if_pos rfl]
      refine ⟨?_, ?_, fun h => absurd hg0 h⟩
      · refine List.nodup_append.mpr ⟨cUn_nodup htr hx hxt, by simp, ?_⟩
        intro a ha b hb e2
        rw [List.mem_singleton] at hb
        exact ((cUn_mem htr hgp hgpt hkc hx hxt).mp ha).2 (e2.trans hb)
      · intro c hc
        rcases List.mem_append.mp hc with q | q
        · obtain ⟨q1, q2⟩ := (cUn_mem htr hgp hgpt hkc hx hxt).mp q
          obtain ⟨r1, r2, r3, -⟩ := htr.child hx hxt q1
          exact ⟨r1, r2, by rw [dInto_p, if_neg q2]; exact r3⟩
        · rw [List.mem_singleton] at q
          rw [q]
          exact ⟨hk, ht, by rw [dInto_p, if_pos rfl]⟩
    · rw [if_neg e]
      refine ⟨cUn_nodup htr hx hxt, ?_, ?_⟩
      · intro c hc
        obtain ⟨q1, q2⟩ := (cUn_mem htr hgp hgpt hkc hx hxt).mp hc
        obtain ⟨r1, r2, r3, -⟩ := htr.child hx hxt q1
        exact ⟨r1, r2, by rw [dInto_p, if_neg q2]; exact r3⟩
      · intro h
        unfold cUn
        have hne : x ≠ gp := fun e2 => by
          obtain ⟨q, q1, q2, q3, q4, q5, q6⟩ := htr.2.2.2.2.1 k hk ht hk0
          rw [hpa] at q2
          cases q2
          rw [e2] at h
          exact h q4
        rw [if_neg hne]
        exact (htr.2.2.2.2.2.1 x hx hxt).2.2 h
  · intro c hc hct
    have hct : sTh d c = true := hct
    by_cases hi : inn d c k
    · rw [dpI_y hi]
      have := mxD_ge (d := d) (dp := dp) (n := k) (k := c) ⟨hct, hi⟩ 14 hc
      omega
    · rw [dpI_n hi]; exact htr.2.2.2.2.2.2 c hc hct
theorem dRem_p {d : DS} {k gp x : Nat} : sPa (dRem d k gp) x = if x = k then none else sPa d x := rfl
theorem dRem_c {d : DS} {k gp x : Nat} (h : sPa d k = some gp) : sCh (dRem d k gp) x = cUn d k gp x := dUn_c h
theorem tOk.rem {d : DS} {dp : Nat → Nat} (htr : tOk d dp) {k gp : Nat} (hk : k < 14) (ht : sTh d k = true) (hk0 : k ≠ 0) (hgp : gp < 14) (hgpt : sTh d gp = true) (hpa : sPa d k = some gp) (hkc : k ∈ sCh d gp) : tOk (dRem d k gp) dp := by
  refine ⟨dRem_t.mpr ⟨htr.1, inn0 htr hk0⟩, ?_, htr.2.2.1, htr.2.2.2.1, ?_, ?_, fun c hc hct => htr.2.2.2.2.2.2 c hc (dRem_t.mp hct).1⟩
  · rw [dRem_p, if_neg (Ne.symm hk0)]; exact htr.2.1
  · intro c hc hct hc0
    obtain ⟨hct, hci⟩ := dRem_t.mp hct
    have e : c ≠ k := fun e => hci (by rw [e]; exact inn_self d k)
    obtain ⟨q, q1, q2, q3, q4, q5, q6⟩ := htr.2.2.2.2.1 c hc hct hc0
    refine ⟨q, q1, ?_, dRem_t.mpr ⟨q3, fun h => hci ((inn_up e q2).mpr h)⟩, q4, q5, ?_⟩
    · rw [dRem_p, if_neg e]; exact q2
    · rw [dRem_c hpa]; exact (cUn_mem htr hgp hgpt hkc q1 q3).mpr ⟨q6, e⟩
  · intro x hx hxt
    obtain ⟨hxt, hxi⟩ := dRem_t.mp hxt
    rw [dRem_c hpa]
    refine ⟨cUn_nodup htr hx hxt, ?_, ?_⟩
    · intro c hc
      obtain ⟨q1, q2⟩ := (cUn_mem htr hgp hgpt hkc hx hxt).mp hc
      obtain ⟨r1, r2, r3, -⟩ := htr.child hx hxt q1
      exact ⟨r1, dRem_t.mpr ⟨r2, fun h => hxi ((inn_up q2 r3).mp h)⟩, by rw [dRem_p, if_neg q2]; exact r3⟩
    · intro h
      unfold cUn
      have hne : x ≠ gp := fun e2 => by
        obtain ⟨q, q1, q2, q3, q4, q5, q6⟩ := htr.2.2.2.2.1 k hk ht hk0
        rw [hpa] at q2
        cases q2
        rw [e2] at h
        exact h q4
      rw [if_neg hne]
      exact (htr.2.2.2.2.2.1 x hx hxt).2.2 h
theorem dNode_c {d : DS} {n g x : Nat} {kd co : Int32} : sCh (dNode d n g kd co) x = if x = g then sCh d g ++ [n] else if x = n then [] else sCh d x := rfl
theorem dNode_p {d : DS} {n g x : Nat} {kd co : Int32} : sPa (dNode d n g kd co) x = if x = n then some g else sPa d x := by
  show fset (fset (sPa d) n none) n (some g) x = _
  unfold fset
  by_cases e : x = n
  · rw [if_pos e, if_pos e]
  · rw [if_neg e, if_neg e, if_neg e]
theorem dNode_t {d : DS} {n g x : Nat} {kd co : Int32} : sTh (dNode d n g kd co) x = if x = n then true else sTh d x := rfl
theorem tOk.node {d : DS} {dp : Nat → Nat} (htr : tOk d dp) {n g : Nat} {kd co : Int32} (hn : n < 14) (hnt : ¬ sTh d n = true) (hg : g < 14) (hgt : sTh d g = true) (hg0 : sNi d g 0 = 0) (h5 : dp g < 5) : tOk (dNode d n g kd co) (fset dp n (dp g + 1)) := by
  have hn0 : n ≠ 0 := fun e => hnt (e ▸ htr.1)
  have hgn : g ≠ n := fun e => hnt (e ▸ hgt)
  have old : ∀ x, sTh d x = true → x ≠ n := fun x h e => hnt (e ▸ h)
  have hni : ∀ x, x ≠ n → sNi (dNode d n g kd co) x = sNi d x := fun x h => fset_ne h
  refine ⟨by rw [dNode_t, if_neg (Ne.symm hn0)]; exact htr.1, by rw [dNode_p, if_neg (Ne.symm hn0)]; exact htr.2.1, by rw [hni 0 (Ne.symm hn0)]; exact htr.2.2.1, by rw [fset_ne (Ne.symm hn0)]; exact htr.2.2.2.1, ?_, ?_, ?_⟩
  · intro c hc hct hc0
    by_cases e : c = n
    · refine ⟨g, hg, by rw [dNode_p, if_pos e], by rw [dNode_t, if_neg hgn]; exact hgt, by rw [hni g hgn]; exact hg0, by rw [e, fset_eq, fset_ne hgn], ?_⟩
      rw [dNode_c, if_pos rfl, e]
      exact List.mem_append_right _ (List.mem_singleton.mpr rfl)
    · rw [dNode_t, if_neg e] at hct
      obtain ⟨q, q1, q2, q3, q4, q5, q6⟩ := htr.2.2.2.2.1 c hc hct hc0
      have hqn := old q q3
      refine ⟨q, q1, by rw [dNode_p, if_neg e]; exact q2, by rw [dNode_t, if_neg hqn]; exact q3, by rw [hni q hqn]; exact q4, by rw [fset_ne e, fset_ne hqn]; exact q5, ?_⟩
      rw [dNode_c]
      by_cases e2 : q = g
      · rw [if_pos e2, ← e2]; exact List.mem_append_left _ q6
      · rw [if_neg e2, if_neg hqn]; exact q6
  · intro x hx hxt
    rw [dNode_c]
    by_cases e : x = g
    · subst e
      rw [if_pos rfl]
      refine ⟨?_, ?_, fun h => absurd (by rw [hni x hgn]; exact hg0) h⟩
      · refine List.nodup_append.mpr ⟨(htr.2.2.2.2.2.1 x hx hgt).1, by simp, ?_⟩
        intro a ha b hb e2
        rw [List.mem_singleton] at hb
        exact old a (htr.child hx hgt ha).2.1 (e2.trans hb)
      · intro c hc
        rcases List.mem_append.mp hc with q | q
        · obtain ⟨r1, r2, r3, -⟩ := htr.child hx hgt q
          exact ⟨r1, by rw [dNode_t, if_neg (old c r2)]; exact r2, by rw [dNode_p, if_neg (old c r2)]; exact r3⟩
        · rw [List.mem_singleton] at q
          rw [q]
          exact ⟨hn, by rw [dNode_t, if_pos rfl], by rw [dNode_p, if_pos rfl]⟩
    · rw [if_neg e]
      by_cases e2 : x = n
      · rw [if_pos e2]
        exact ⟨List.nodup_nil, fun c hc => absurd hc (by simp), fun _ => rfl⟩
      · rw [if_neg e2]
        rw [dNode_t, if_neg e2] at hxt
        obtain ⟨r1, r2, r3⟩ := htr.2.2.2.2.2.1 x hx hxt
        refine ⟨r1, fun c hc => ?_, fun h => r3 (by rw [hni x e2] at h; exact h)⟩
        obtain ⟨s1, s2, s3, -⟩ := htr.child hx hxt hc
        exact ⟨s1, by rw [dNode_t, if_neg (old c s2)]; exact s2, by rw [dNode_p, if_neg (old c s2)]; exact s3⟩
  · intro c hc hct
    by_cases e : c = n
    · rw [e, fset_eq]; omega
    · rw [fset_ne e]
      rw [dNode_t, if_neg e] at hct
      exact htr.2.2.2.2.2.2 c hc hct

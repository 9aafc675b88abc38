/-! Ends, throws, handlers, new objects, Math, nest mates -/
section PWE
variable {l : Launch} {mt y : MT} {d dc mc ms mcc msc N pc i n : Nat} {L : List (Option Value)} {st as rest : List Value} {im : TI} {rm : TP} {lm : TL} {Q Qc : TQ} {X Xc : TX}
theorem pw_ret {ins : Instr} {v : Option Value} (hd : decode mt.2.1 pc = .ok (ins, 1)) (hv : rok mt.2.2.2.1 ins v) (hq : Q N v im rm lm) : PW l mt d mc ms N pc L v.toList im rm lm Q X := by
  intro p e s m args below meth c D A ad cy MC MS Z H locs cells slots ls hF hW hL hc hs hR hT
  have h := hR v N im rm lm ad cy H locs cells slots ls pc ins hq ext.rf hW (by omega) (by omega) hd hv
  have e1 : (v.toList).map (tr ad) = (v.map (tr ad)).toList := by cases v <;> rfl
  rw [e1]
  exact h
theorem pw_iret {x : Int32} (hd : decode mt.2.1 pc = .ok (.ireturn, 1)) (hr : mt.2.2.2.1 = some .int) (hq : Q N (some (.int x)) im rm lm) : PW l mt d mc ms N pc L [.int x] im rm lm Q X :=
  pw_ret (v := some (.int x)) hd (Or.inr (Or.inl ⟨rfl, x, _, hr, rfl, rfl⟩)) hq
theorem pw_zret {x : Int32} (hd : decode mt.2.1 pc = .ok (.ireturn, 1)) (hr : mt.2.2.2.1 = some .boolean) (hn : narrow .boolean (.int x) = .int x) (hq : Q N (some (.int x)) im rm lm) : PW l mt d mc ms N pc L [.int x] im rm lm Q X :=
  pw_ret (v := some (.int x)) hd (Or.inr (Or.inl ⟨rfl, x, _, hr, rfl, hn⟩)) hq
theorem pw_vret (hd : decode mt.2.1 pc = .ok (.return_, 1)) (hr : mt.2.2.2.1 = none) (hq : Q N none im rm lm) : PW l mt d mc ms N pc L [] im rm lm Q X :=
  pw_ret (v := none) hd (Or.inl ⟨rfl, hr, rfl⟩) hq
theorem pw_aret {o : Option Nat} {C : String} (hd : decode mt.2.1 pc = .ok (.areturn, 1)) (hr : mt.2.2.2.1 = some (.object C)) (hq : Q N (some (pv o)) im rm lm) : PW l mt d mc ms N pc L [pv o] im rm lm Q X :=
  pw_ret (v := some (pv o)) hd (Or.inr (Or.inr (Or.inl ⟨rfl, C, o, hr, rfl⟩))) hq
theorem pw_lret {x : Int64} (hd : decode mt.2.1 pc = .ok (.lreturn, 1)) (hr : mt.2.2.2.1 = some .long) (hq : Q N (some (.long x)) im rm lm) : PW l mt d mc ms N pc L [.long x] im rm lm Q X :=
  pw_ret (v := some (.long x)) hd (Or.inr (Or.inr (Or.inr (Or.inl ⟨rfl, x, hr, rfl⟩)))) hq
theorem pw_dret {x : UInt64} (hd : decode mt.2.1 pc = .ok (.dreturn, 1)) (hr : mt.2.2.2.1 = some .double) (hq : Q N (some (.double x)) im rm lm) : PW l mt d mc ms N pc L [.double x] im rm lm Q X :=
  pw_ret (v := some (.double x)) hd (Or.inr (Or.inr (Or.inr (Or.inr ⟨rfl, x, hr, rfl⟩)))) hq
theorem pw_throw {E : String} (hthr : thr mt pc E) (h8 : 8 ≤ d) (hx : X E im rm lm) (hcat : (st.map fun v => v.category).sum ≤ 8) : PW l mt d (1 + mc) (6 + ms) N pc L st im rm lm Q X := by
  intro p e s m args below meth c D A ad cy MC MS Z H locs cells slots ls hF hW hL hc hs hR hT
  exact (hT E im rm lm H locs cells slots ls pc _ hx hW h8).1 (by omega) (by omega) hthr hL.1 (by rw [cat_sum]; exact hcat)
/-- fewer cells than there may be -/
theorem PW.room {mc' ms' : Nat} (h1 : mc' ≤ mc) (h2 : ms' ≤ ms) (k : PW l mt d mc' ms' N pc L st im rm lm Q X) : PW l mt d mc ms N pc L st im rm lm Q X :=
  fun p e s m args below meth c D A ad cy MC MS Z H locs cells slots ls hF hW hL hc hs hR hT => k p e s m args below meth c D A ad cy MC MS Z H locs cells slots ls hF hW hL (by omega) (by omega) hR hT
/-- stores of the locals -/
theorem LH.store1 {ad : Nat → Nat} {ls : Array Slot} {nL i : Nat} {v : Value} (h : LH ad ls nL L) (hi : i < nL) (hc : v.category = 1) (hp : ∀ w j, i = j + 1 → L[j]? = some (some w) → w.category = 1) :
    lv_has ls nL ((List.range L.length).filterMap fun j => (L[j]?.join).map fun w => (j, tr ad w)) ∧ ∀ ls', lv_has ls' nL ((i, tr ad v) :: ((List.range L.length).filterMap fun j => (L[j]?.join).map fun w => (j, tr ad w)).filter (fun q => !(q.1 == i) && !(q.1 + 1 == i && q.2.category == 2))) → LH ad ls' nL (L.set i (some v)) := by
  refine ⟨⟨h.1, h.2.1, fun q hq => ?_⟩, fun ls' h' => ⟨h'.1, h'.2.1, fun j w hj => ?_⟩⟩
  · obtain ⟨j, hj, hq⟩ := List.mem_filterMap.mp hq
    cases hl : L[j]? with
    | none => rw [hl] at hq; cases hq
    | some o =>
      cases o with
      | none => rw [hl] at hq; cases hq
      | some w => rw [hl] at hq; cases hq; exact h.2.2 j w hl
  · by_cases e : j = i
    · subst e
      rw [List.getElem?_set] at hj
      simp only [if_true] at hj
      by_cases hlt : j < L.length
      · rw [if_pos hlt] at hj; cases hj; exact h'.2.2 _ List.mem_cons_self
      · rw [if_neg hlt] at hj; cases hj
    · rw [List.getElem?_set_ne (fun q => e q.symm)] at hj
      refine h'.2.2 (j, tr ad w) (List.mem_cons_of_mem _ (List.mem_filter.mpr ⟨List.mem_filterMap.mpr ⟨j, List.mem_range.mpr (List.getElem?_eq_some_iff.mp hj).1, by rw [hj]; rfl⟩, ?_⟩))
      have e1 : (j == i) = false := by simpa using e
      simp only [e1, Bool.not_false, Bool.true_and]
      by_cases e2 : j + 1 = i
      · have := hp w j e2.symm hj
        rw [tr_cat, this]; simp
      · have : (j + 1 == i) = false := by simpa using e2
        rw [this]; rfl
theorem LH.store2 {ad : Nat → Nat} {ls : Array Slot} {nL i : Nat} {v : Value} (h : LH ad ls nL L) (hi : i + 1 < nL) (hc : v.category = 2) (hp : ∀ w j, i = j + 1 → L[j]? = some (some w) → w.category = 1) :
    lv_has ls nL ((List.range L.length).filterMap fun j => (L[j]?.join).map fun w => (j, tr ad w)) ∧ ∀ ls', lv_has ls' nL ((i, tr ad v) :: ((List.range L.length).filterMap fun j => (L[j]?.join).map fun w => (j, tr ad w)).filter (fun q => !(q.1 == i) && (!(q.1 == i + 1) && !(q.1 + 1 == i && q.2.category == 2)))) → LH ad ls' nL ((L.set i (some v)).set (i + 1) none) := by
  refine ⟨⟨h.1, h.2.1, fun q hq => ?_⟩, fun ls' h' => ⟨h'.1, h'.2.1, fun j w hj => ?_⟩⟩
  · obtain ⟨j, hj, hq⟩ := List.mem_filterMap.mp hq
    cases hl : L[j]? with
    | none => rw [hl] at hq; cases hq
    | some o =>
      cases o with
      | none => rw [hl] at hq; cases hq
      | some w => rw [hl] at hq; cases hq; exact h.2.2 j w hl
  · by_cases e3 : j = i + 1
    · subst e3
      rw [List.getElem?_set] at hj
      simp only [if_true] at hj
      split at hj <;> cases hj
    rw [List.getElem?_set_ne (fun q => e3 q.symm)] at hj
    by_cases e : j = i
    · subst e
      rw [List.getElem?_set] at hj
      simp only [if_true] at hj
      by_cases hlt : j < L.length
      · rw [if_pos hlt] at hj; cases hj; exact h'.2.2 _ List.mem_cons_self
      · rw [if_neg hlt] at hj; cases hj
    · rw [List.getElem?_set_ne (fun q => e q.symm)] at hj
      refine h'.2.2 (j, tr ad w) (List.mem_cons_of_mem _ (List.mem_filter.mpr ⟨List.mem_filterMap.mpr ⟨j, List.mem_range.mpr (List.getElem?_eq_some_iff.mp hj).1, by rw [hj]; rfl⟩, ?_⟩))
      have e1 : (j == i) = false := by simpa using e
      have e4 : (j == i + 1) = false := by simpa using e3
      simp only [e1, e4, Bool.not_false, Bool.true_and]
      by_cases e2 : j + 1 = i
      · have := hp w j e2.symm hj
        rw [tr_cat, this]; simp
      · have : (j + 1 == i) = false := by simpa using e2
        rw [this]; rfl
theorem pw_istore_n {k : Fin 4} {i : Nat} {x : Int32} {L' : List (Option Value)} (hd : decode mt.2.1 pc = .ok (.istore_n k, 1)) (hi : (k : Nat) = i) (hn : i < mt.2.2.1) (hp : ∀ w j, i = j + 1 → L[j]? = some (some w) → w.category = 1) (hL' : (L.set i (some (.int x))) = L') (kk : PW l mt d mc ms N (pc + 1) L' st im rm lm Q X) : PW l mt d mc ms N pc L (.int x :: st) im rm lm Q X := by
  intro p e s m args below meth c D A ad cy MC MS Z H locs cells slots ls hF hW hL hc hs hR hT
  obtain ⟨h1, h2⟩ := hL.store1 (v := .int x) hn rfl hp
  exact lv_istore_n hF.1 hF.2.1 hd hi h1 hn rfl (fun ls' h' => kk p e s m args below meth c D A ad cy MC MS Z H locs cells slots ls' hF hW (by rw [← hL']; exact h2 ls' h') hc hs hR hT)
theorem pw_istore {i : Nat} {x : Int32} {L' : List (Option Value)} (hd : decode mt.2.1 pc = .ok (.istore i, 2)) (hn : i < mt.2.2.1) (hp : ∀ w j, i = j + 1 → L[j]? = some (some w) → w.category = 1) (hL' : (L.set i (some (.int x))) = L') (kk : PW l mt d mc ms N (pc + 2) L' st im rm lm Q X) : PW l mt d mc ms N pc L (.int x :: st) im rm lm Q X := by
  intro p e s m args below meth c D A ad cy MC MS Z H locs cells slots ls hF hW hL hc hs hR hT
  obtain ⟨h1, h2⟩ := hL.store1 (v := .int x) hn rfl hp
  exact lv_istore hF.1 hF.2.1 hd h1 hn rfl (fun ls' h' => kk p e s m args below meth c D A ad cy MC MS Z H locs cells slots ls' hF hW (by rw [← hL']; exact h2 ls' h') hc hs hR hT)
theorem pw_lstore_n {k : Fin 4} {i : Nat} {x : Int64} {L' : List (Option Value)} (hd : decode mt.2.1 pc = .ok (.lstore_n k, 1)) (hi : (k : Nat) = i) (hn : i + 1 < mt.2.2.1) (hp : ∀ w j, i = j + 1 → L[j]? = some (some w) → w.category = 1) (hL' : ((L.set i (some (.long x))).set (i + 1) none) = L') (kk : PW l mt d mc ms N (pc + 1) L' st im rm lm Q X) : PW l mt d mc ms N pc L (.long x :: st) im rm lm Q X := by
  intro p e s m args below meth c D A ad cy MC MS Z H locs cells slots ls hF hW hL hc hs hR hT
  obtain ⟨h1, h2⟩ := hL.store2 (v := .long x) hn rfl hp
  exact lv_lstore_n hF.1 hF.2.1 hd hi h1 hn rfl (fun ls' h' => kk p e s m args below meth c D A ad cy MC MS Z H locs cells slots ls' hF hW (by rw [← hL']; exact h2 ls' h') hc hs hR hT)
theorem pw_lstore {i : Nat} {x : Int64} {L' : List (Option Value)} (hd : decode mt.2.1 pc = .ok (.lstore i, 2)) (hn : i + 1 < mt.2.2.1) (hp : ∀ w j, i = j + 1 → L[j]? = some (some w) → w.category = 1) (hL' : ((L.set i (some (.long x))).set (i + 1) none) = L') (kk : PW l mt d mc ms N (pc + 2) L' st im rm lm Q X) : PW l mt d mc ms N pc L (.long x :: st) im rm lm Q X := by
  intro p e s m args below meth c D A ad cy MC MS Z H locs cells slots ls hF hW hL hc hs hR hT
  obtain ⟨h1, h2⟩ := hL.store2 (v := .long x) hn rfl hp
  exact lv_lstore hF.1 hF.2.1 hd h1 hn rfl (fun ls' h' => kk p e s m args below meth c D A ad cy MC MS Z H locs cells slots ls' hF hW (by rw [← hL']; exact h2 ls' h') hc hs hR hT)
theorem pw_dstore_n {k : Fin 4} {i : Nat} {x : UInt64} {L' : List (Option Value)} (hd : decode mt.2.1 pc = .ok (.dstore_n k, 1)) (hi : (k : Nat) = i) (hn : i + 1 < mt.2.2.1) (hp : ∀ w j, i = j + 1 → L[j]? = some (some w) → w.category = 1) (hL' : ((L.set i (some (.double x))).set (i + 1) none) = L') (kk : PW l mt d mc ms N (pc + 1) L' st im rm lm Q X) : PW l mt d mc ms N pc L (.double x :: st) im rm lm Q X := by
  intro p e s m args below meth c D A ad cy MC MS Z H locs cells slots ls hF hW hL hc hs hR hT
  obtain ⟨h1, h2⟩ := hL.store2 (v := .double x) hn rfl hp
  exact lv_dstore_n hF.1 hF.2.1 hd hi h1 hn rfl (fun ls' h' => kk p e s m args below meth c D A ad cy MC MS Z H locs cells slots ls' hF hW (by rw [← hL']; exact h2 ls' h') hc hs hR hT)
theorem pw_dstore {i : Nat} {x : UInt64} {L' : List (Option Value)} (hd : decode mt.2.1 pc = .ok (.dstore i, 2)) (hn : i + 1 < mt.2.2.1) (hp : ∀ w j, i = j + 1 → L[j]? = some (some w) → w.category = 1) (hL' : ((L.set i (some (.double x))).set (i + 1) none) = L') (kk : PW l mt d mc ms N (pc + 2) L' st im rm lm Q X) : PW l mt d mc ms N pc L (.double x :: st) im rm lm Q X := by
  intro p e s m args below meth c D A ad cy MC MS Z H locs cells slots ls hF hW hL hc hs hR hT
  obtain ⟨h1, h2⟩ := hL.store2 (v := .double x) hn rfl hp
  exact lv_dstore hF.1 hF.2.1 hd h1 hn rfl (fun ls' h' => kk p e s m args below meth c D A ad cy MC MS Z H locs cells slots ls' hF hW (by rw [← hL']; exact h2 ls' h') hc hs hR hT)
theorem pw_astore_n {k : Fin 4} {i : Nat} {x : Option Nat} {L' : List (Option Value)} (hd : decode mt.2.1 pc = .ok (.astore_n k, 1)) (hi : (k : Nat) = i) (hn : i < mt.2.2.1) (hp : ∀ w j, i = j + 1 → L[j]? = some (some w) → w.category = 1) (hL' : (L.set i (some (pv x))) = L') (kk : PW l mt d mc ms N (pc + 1) L' st im rm lm Q X) : PW l mt d mc ms N pc L (pv x :: st) im rm lm Q X := by
  intro p e s m args below meth c D A ad cy MC MS Z H locs cells slots ls hF hW hL hc hs hR hT
  cases x with
  | none =>
    obtain ⟨h1, h2⟩ := hL.store1 (v := .null) hn rfl hp
    exact lv_astore_nN hF.1 hF.2.1 hd hi h1 hn rfl (fun ls' h' => kk p e s m args below meth c D A ad cy MC MS Z H locs cells slots ls' hF hW (by rw [← hL']; exact h2 ls' h') hc hs hR hT)
  | some x =>
    obtain ⟨h1, h2⟩ := hL.store1 (v := .ref x) hn rfl hp
    exact lv_astore_n hF.1 hF.2.1 hd hi h1 hn rfl (fun ls' h' => kk p e s m args below meth c D A ad cy MC MS Z H locs cells slots ls' hF hW (by rw [← hL']; exact h2 ls' h') hc hs hR hT)
theorem pw_astore {i : Nat} {x : Option Nat} {L' : List (Option Value)} (hd : decode mt.2.1 pc = .ok (.astore i, 2)) (hn : i < mt.2.2.1) (hp : ∀ w j, i = j + 1 → L[j]? = some (some w) → w.category = 1) (hL' : (L.set i (some (pv x))) = L') (kk : PW l mt d mc ms N (pc + 2) L' st im rm lm Q X) : PW l mt d mc ms N pc L (pv x :: st) im rm lm Q X := by
  intro p e s m args below meth c D A ad cy MC MS Z H locs cells slots ls hF hW hL hc hs hR hT
  cases x with
  | none =>
    obtain ⟨h1, h2⟩ := hL.store1 (v := .null) hn rfl hp
    exact lv_astoreN hF.1 hF.2.1 hd h1 hn rfl (fun ls' h' => kk p e s m args below meth c D A ad cy MC MS Z H locs cells slots ls' hF hW (by rw [← hL']; exact h2 ls' h') hc hs hR hT)
  | some x =>
    obtain ⟨h1, h2⟩ := hL.store1 (v := .ref x) hn rfl hp
    exact lv_astore hF.1 hF.2.1 hd h1 hn rfl (fun ls' h' => kk p e s m args below meth c D A ad cy MC MS Z H locs cells slots ls' hF hW (by rw [← hL']; exact h2 ls' h') hc hs hR hT)
theorem pw_iinc {i : Nat} {z : Int} {x v : Int32} {L' : List (Option Value)} (hd : decode mt.2.1 pc = .ok (.iinc i z, 3)) (hv : x + Int32.ofInt z = v) (hx : L[i]? = some (some (.int x))) (hn : i < mt.2.2.1) (hp : ∀ w j, i = j + 1 → L[j]? = some (some w) → w.category = 1) (hL' : L.set i (some (.int v)) = L') (kk : PW l mt d mc ms N (pc + 3) L' st im rm lm Q X) : PW l mt d mc ms N pc L st im rm lm Q X := by
  intro p e s m args below meth c D A ad cy MC MS Z H locs cells slots ls hF hW hL hc hs hR hT
  obtain ⟨h1, h2⟩ := hL.store1 (v := .int v) hn rfl hp
  have hmem : (i, Value.int x) ∈ ((List.range L.length).filterMap fun j => (L[j]?.join).map fun w => (j, tr ad w)) := List.mem_filterMap.mpr ⟨i, List.mem_range.mpr (List.getElem?_eq_some_iff.mp hx).1, by rw [hx]; rfl⟩
  obtain ⟨k, hk⟩ := List.getElem?_of_mem hmem
  exact lv_iinc hF.1 hF.2.1 hd h1 hk hv hn rfl (fun ls' h' => kk p e s m args below meth c D A ad cy MC MS Z H locs cells slots ls' hF hW (by rw [← hL']; exact h2 ls' h') hc hs hR hT)
theorem pw_objInit {idx b : Nat} (hml : Cond.methodLink mt.1.cls idx Lib.objectInit ∈ wsAll) (h1d : 1 ≤ d) (hd : decode mt.2.1 pc = .ok (.invokespecial idx, 3)) (hcat : (st.map fun v => v.category).sum ≤ 8) (k : PW l mt d mc ms N (pc + 3) L st im rm lm Q X) : PW l mt d mc ms N pc L (.ref b :: st) im rm lm Q X := by
  intro p e s m args below meth c D A ad cy MC MS Z H locs cells slots ls hF hW hL hc hs hR hT
  have hts := hF.2.2.2.2.2.1
  refine W.objInit hF.1 hF.2.1 hF.2.2.2.2.1 (hts _ hml) (hts _ oi_inst) (hts _ oi_code) rfl (hL.1.trans hF.2.2.1.symm) rfl hd h1d ?_ (k p e s m args below meth c D A ad cy MC MS Z H locs cells slots ls hF hW hL hc hs hR hT)
  show 2 * 0 + ((st.map (tr ad)).map fun v => v.category).sum + 12 ≤ 36 * d + 28
  rw [cat_sum]
  omega
theorem pw_min {idx : Nat} {x y : Int32} (hml : Cond.methodLink mt.1.cls idx Lib.Math.min.name ∈ wsAll) (h1d : 1 ≤ d) (hd : decode mt.2.1 pc = .ok (.invokestatic idx, 3)) (hcat : (st.map fun v => v.category).sum ≤ 8) (k : PW l mt d mc ms N (pc + 3) L (.int (if y < x then y else x) :: st) im rm lm Q X) : PW l mt d mc ms N pc L (.int y :: .int x :: st) im rm lm Q X := by
  intro p e s m args below meth c D A ad cy MC MS Z H locs cells slots ls hF hW hL hc hs hR hT
  have hts := hF.2.2.2.2.2.1
  refine va_mmin hF.1 hF.2.1 (hF.2.2.1.trans hL.1.symm) hF.2.2.2.2.1 (hts _ hml) (hts _ mas_min) (hts _ in_Math) (hts _ mac_min) h1d ?_ (by show cells ≤ MC; omega) (by show slots ≤ MS; omega) hd (k p e s m args below meth c D A ad cy MC MS Z H locs cells slots ls hF hW hL hc hs hR hT)
  show ((st.map (tr ad)).map fun v => v.category).sum + 13 ≤ 36 * d + 28
  rw [cat_sum]
  omega
end PWE

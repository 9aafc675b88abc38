/-! A call that throws, with handlers -/
section HND
variable {l : Launch} {mt y : MT} {d dc pc i h k sz b ci nT : Nat} {C : String} {T : u_T} {ty : Nat → FieldType} {L : List (Option Value)} {as rest st : List Value} {im : TI} {rm : TP} {lm : TL} {Q : TQ} {X Xc : TX} {E0 : String} {hp hs : List (Nat × Nat × Nat × Nat)} {x : Nat × Nat × Nat × Nat}
theorem LH.store0 {ad : Nat → Nat} {ls : Array Slot} {nL i : Nat} (h : LH ad ls nL L) (hi : i < nL) (hp : ∀ w j, i = j + 1 → L[j]? = some (some w) → w.category = 1) {u : Value} :
    lv_has ls nL ((List.range L.length).filterMap fun j => (L[j]?.join).map fun w => (j, tr ad w)) ∧ ∀ ls', lv_has ls' nL ((i, u) :: ((List.range L.length).filterMap fun j => (L[j]?.join).map fun w => (j, tr ad w)).filter (fun q => !(q.1 == i) && !(q.1 + 1 == i && q.2.category == 2))) → LH ad ls' nL (L.set i none) := by
  refine ⟨(h.store1 (v := .null) hi rfl hp).1, fun ls' h' => ⟨h'.1, h'.2.1, fun j w hj => ?_⟩⟩
  by_cases e : j = i
  · subst e
    rw [List.getElem?_set] at hj
    simp only [if_true] at hj
    by_cases hlt : j < L.length
    · rw [if_pos hlt] at hj; cases hj
    · rw [if_neg hlt] at hj; cases hj
  · rw [List.getElem?_set_ne (fun q => e q.symm)] at hj
    refine h'.2.2 (j, tr ad w) (List.mem_cons_of_mem _ (List.mem_filter.mpr ⟨List.mem_filterMap.mpr ⟨j, List.mem_range.mpr (List.getElem?_eq_some_iff.mp hj).1, by rw [hj]; rfl⟩, ?_⟩))
    have e1 : (j == i) = false := by simpa using e
    simp only [e1, Bool.not_false, Bool.true_and]
    by_cases e2 : j + 1 = i
    · have := hp w j e2.symm hj
      rw [tr_cat, this]; simp
    · have : (j + 1 == i) = false := by simpa using e2
      rw [this]; rfl
theorem g_catch (hst : st = as.reverse ++ pv (some b) :: rest) (hC : Con l y dc 1 6 NN (pv (some b) :: as) im rm lm (QG (fun _ _ _ _ => False)) Xc) (hyh : y.2.2.2.2.1 = some []) (hT : FT ci C T nT ty) (hyC : y.1.cls = C)
    (hcw : Cond.code y.1 y.2.1 y.2.2.1 y.2.2.2.1 ∈ wsAll) (hml : Cond.methodLink mt.1.cls i y.1 ∈ wsAll) (hmi : Cond.instanceMethod y.1 ∈ wsAll) (hms : Cond.selects y.1.cls y.1 y.1 ∈ wsAll) (hini : Cond.initialized y.1.cls ∈ wsAll)
    (hok : okC mt y d dc as.length) (hd : decode mt.2.1 pc = .ok (.invokevirtual i, 3)) (hkb : kd b = ci) (hcat : (rest.map fun v => v.category).sum ≤ 8)
    (hE : ∀ E a b c, Xc E a b c → E = E0) (hE0 : E0 ∈ xcL) (hh : mt.2.2.2.2.1 = some (hp ++ x :: hs))
    (hpre : ∀ z ∈ hp, z.2.2.2 ≠ 0 ∧ ∃ nm, nm ∈ xcL ∧ E0 ≠ nm ∧ Cond.classLink mt.1.cls z.2.2.2 nm ∈ wsAll) (hx : x.1 ≤ pc ∧ pc < x.2.1 ∧ x.2.2.1 = h ∧ x.2.2.2 ≠ 0) (hxl : Cond.classLink mt.1.cls x.2.2.2 E0 ∈ wsAll)
    (hst2 : (decode mt.2.1 h = .ok (.astore k, 2) ∧ sz = 2) ∨ (∃ f : Fin 4, decode mt.2.1 h = .ok (.astore_n f, 1) ∧ (f : Nat) = k ∧ sz = 1)) (hkn : k < mt.2.2.1) (hkp : ∀ w j, k = j + 1 → L[j]? = some (some w) → w.category = 1)
    (KH : ∀ a b' c', Xc E0 a b' c' → PW l mt d 0 0 NN (h + sz) (L.set k none) [] a b' c' Q X) : PW l mt d 1 6 NN pc L st im rm lm Q X := by
  subst hst
  intro p e s m args below meth c D A ad cy MC MS Z H locs cells slots ls hF hW hL hc hs2 hR hT2
  obtain ⟨o1, o2, o3, o4, o5⟩ := hok
  have hst : (as.reverse ++ .ref b :: rest).map (tr ad) = (as.map (tr ad)).reverse ++ .ref (ad b) :: rest.map (tr ad) := by simp [tr]
  have hce : cw y = .code y.1 y.2.1 y.2.2.1 y.2.2.2.1 := by unfold cw; rw [hyh]
  have hG : GoodIn wsAll (wsV mt.1.cls i y.1.cls y.1 (cw y :: wsAll)) := by
    refine goodAll_app (by rw [hce]; exact hcw) fun w hw => ?_
    simp only [List.mem_cons, List.not_mem_nil, or_false] at hw
    rcases hw with rfl | rfl | rfl | rfl <;> assumption
  have hbN : b < NN := kd_lt hkb (Nat.le_trans (Nat.le_of_lt hT.2.2.2.1) (by decide))
  have hrun := vx_runV (l := l) (p := p) (e := e) (R := rmd d MC MS) (s := s) (m := m) (args := args) (below := below) (meth := meth) (c := c) (H := H) (locs := locs) (cells := cells) (slots := slots) (As := as.map (tr ad)) (rest := rest.map (tr ad)) (b := ad b) (C := y.1.cls) (g := F0 m pc ls ((as.reverse ++ .ref b :: rest).map (tr ad))) ⟨hF.1, hF.2.1, hF.2.2.1, hF.2.2.2.2.1, hF.2.2.2.2.2.1⟩ (hC D ad cy H.size)
    (cwV as.length hF.2.2.2.2.2.1 hG (by rw [hce]) rfl rfl ⟨rfl, o3, o4, o5⟩ (room_ok o1 o2)) ⟨CP.blind, by rw [hyC]; exact va_recv hF.2.2.2.2.2.2.2.2.1 hW.1 hT.1 (ent_at hbN hkb hT.2.2.2.1), call_pre hF hW (.ref b :: as)⟩ rfl (by simp) hL.1 hst (lv_room (by rw [cat_sum]; exact hcat)) hd ⟨by show cells + 1 ≤ MC; omega, by show slots + 6 ≤ MS; omega⟩
  refine call_core (mc := 0) (ms := 0) (Q := Q) (X := X) hrun (fun N' v i r q hq => absurd hq.2 (fun z => z)) (fun N' v i r q hq => absurd hq.2 (fun z => z)) hF hW hL (by omega) (by omega) ?_ hR hT2
  intro E im' rm' lm' H' locs' ce q hxc hW' hce' hcv hcl
  have hEE := hE _ _ _ _ hxc
  subst hEE
  have hts := hF.2.2.2.2.2.1
  have hSX := hF.2.2.2.2.2.2.2.2.2.2.2.1
  have htb : c.exceptionTable.toList = tableOf (hp ++ x :: hs) := hF.2.2.2.2.2.2.2.2.2.2.2.2.2.1 _ hh
  refine vx_catch (own := mt.1.cls) (name := E) (E := E) hF.2.2.2.2.1 (tableOf hp) ⟨x.1, x.2.1, x.2.2.1, x.2.2.2⟩ (tableOf hs) (by rw [htb]; unfold tableOf; simp) ?_ ?_ hx.2.2.2 (hts _ hxl) (va_Nw.use rfl (hSX.2.1 E hE0).1) hce' hcv hcl ?_
  · intro z hz
    unfold tableOf at hz
    obtain ⟨w, hw, rfl⟩ := List.mem_map.mp hz
    obtain ⟨h1, nm, h2, h3, h4⟩ := hpre w hw
    exact Or.inr ⟨h1, nm, hts _ h4, (hSX.2.1 E hE0).2 nm h2 h3⟩
  · unfold covers
    simp [hx.1, hx.2.1]
  · have hKH := fun ls' (hL' : LH ad ls' mt.2.2.1 (L.set k none)) => KH im' rm' lm' hxc p e s m args below meth c D A ad cy MC MS Z H' locs' (cells + 1) (slots + 6) ls' hF hW' hL' (by omega) (by omega) hR hT2
    obtain ⟨g1, g2⟩ := hL.store0 hkn hkp (u := .ref q)
    show W p l e (rmd d MC MS) s m args below meth c H' locs' (cells + 1) (slots + 6) Z (F0 m x.2.2.1 ls [.ref q])
    rw [hx.2.2.1]
    rcases hst2 with ⟨d1, rfl⟩ | ⟨f, d1, d2, rfl⟩
    · exact lv_astore hF.1 hF.2.1 d1 g1 hkn rfl (fun ls' h' => hKH ls' (g2 ls' h'))
    · exact lv_astore_n hF.1 hF.2.1 d1 d2 g1 hkn rfl (fun ls' h' => hKH ls' (g2 ls' h'))
end HND

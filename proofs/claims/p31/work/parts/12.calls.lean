/-! Calls by contracts -/
section PWC
variable {l : Launch} {mt y : MT} {d dc mc ms mcc msc N pc i n : Nat} {L : List (Option Value)} {as rest : List Value} {im : TI} {rm : TP} {lm : TL} {Q Qc : TQ} {X Xc : TX}
/-- no reference of these moves when ids from N on get addresses -/
def okV (N : Nat) (v : Value) : Prop := match v with
  | .ref k => k < N ∨ 900 ≤ k
  | _ => True
theorem tr_ext {N N' : Nat} {ad ad' : Nat → Nat} {cy cy' : Nat → ClassId} (h : ext N ad cy N' ad' cy') (h9 : N' ≤ 900) {v : Value} (hv : okV N v) : tr ad' v = tr ad v := by
  cases v with
  | ref k => exact congrArg Value.ref (h.2 k (hv.elim Or.inl (fun q => Or.inr (Nat.le_trans h9 q)))).1
  | _ => rfl
/-- what the callee leaves of the caller's own values -/
def okF (N : Nat) (L : List (Option Value)) (rest : List Value) (X : TX) (N' : Nat) : Prop := N' = N ∨ (N' ≤ 900 ∧ (∀ (j : Nat) (v : Value), L[j]? = some (some v) → okV N v) ∧ (∀ v ∈ rest, okV N v) ∧ ∀ E a b c, ¬ X E a b c)
theorem call_core {p : Program} {e : Env} {s : State} {m : MethodId} {args a : Array Value} {below : List Frame} {meth : Method} {c : Code} {D : va_G} {A : Nat → Prop} {ad : Nat → Nat} {cy : Nat → ClassId} {MC MS : Nat} {Z : State → Prop} {H : Heap} {locs : List Loc} {cells slots : Nat} {ls : Array Slot} {st0 : List Value}
    (hr : vx_Run p l e (rmd d MC MS) s m args below meth c H locs cells slots mcc msc (F0 m pc ls st0) (rest.map (tr ad)) (CQ D ad cy H.size N im rm lm Qc a) (CX D ad cy H.size N im rm lm Xc) (va_A (wd ad cy N im rm lm) H.size))
    (hk : ∀ N' v im' rm' lm', Qc N' v im' rm' lm' → okF N L rest X N')
    (K : ∀ N' v im' rm' lm', Qc N' v im' rm' lm' → PW l mt d mc ms N' (pc + 3) L (v.toList ++ rest) im' rm' lm' Q X)
    (hF : FR l mt p s m args meth c D A ad) (hW : WB D A s N ad cy im rm lm H locs) (hL : LH ad ls mt.2.2.1 L) (hc : cells + (mcc + mc) ≤ MC) (hs : slots + (msc + ms) ≤ MS)
    (KX : ∀ E im' rm' lm' (H' : Heap) (locs' : List Loc) (ce : Cell) (q : Addr), Xc E im' rm' lm' → WB D A s N ad cy im' rm' lm' H' locs' → H'[q]? = some ce → ce.vm = .none → s.vm.findClass E = some ce.cls → vx_W p l e (rmd d MC MS) s m args below meth c H' locs' (cells + mcc) (slots + msc) Z (F0 m pc ls (rest.map (tr ad))) q)
    (hR : ∀ (v : Option Value) (N' : Nat) (im' : TI) (rm' : TP) (lm' : TL) (ad' : Nat → Nat) (cy' : Nat → ClassId) (H' : Heap) (locs' : List Loc) (cells' slots' : Nat) (ls' : Array Slot) (pc' : Nat) (i : Instr), Q N' v im' rm' lm' → ext N ad cy N' ad' cy' → WB D A s N' ad' cy' im' rm' lm' H' locs' → cells' ≤ MC → slots' ≤ MS →
      decode mt.2.1 pc' = .ok (i, 1) → rok mt.2.2.2.1 i v → W p l e (rmd d MC MS) s m args below meth c H' locs' cells' slots' Z (F0 m pc' ls' (v.map (tr ad')).toList))
    (hT : ∀ (E : String) (im' : TI) (rm' : TP) (lm' : TL) (H' : Heap) (locs' : List Loc) (cells' slots' : Nat) (ls' : Array Slot) (pc' : Nat) (rest : List Value), X E im' rm' lm' → WB D A s N ad cy im' rm' lm' H' locs' → 8 ≤ d →
      ((cells' + 1 ≤ MC → slots' + 6 ≤ MS → thr mt pc' E → ls'.size = mt.2.2.1 → (rest.map fun v => v.category).sum ≤ 8 → W p l e (rmd d MC MS) s m args below meth c H' locs' cells' slots' Z (F0 m pc' ls' rest)) ∧
       (∀ (ce : Cell) (q : Addr), cells' ≤ MC → slots' ≤ MS → H'[q]? = some ce → ce.vm = .none → s.vm.findClass E = some ce.cls → vx_W p l e (rmd d MC MS) s m args below meth c H' locs' cells' slots' Z (F0 m pc' ls' rest) q))) :
    W p l e (rmd d MC MS) s m args below meth c H locs cells slots Z (F0 m pc ls st0) := by
  have hAw : ∀ q : Nat, va_A (wd ad cy N im rm lm) H.size q → A q := by
    intro q h
    rcases h with ⟨k, x, h⟩ | h
    · exact hW.2.1.2 k _ h
    · exact hF.2.2.2.2.2.2.2.2.2.1 q (Nat.le_trans hW.2.2.1.1 h)
  intro T hTe XX
  rcases hr T hTe XX with ⟨v, st₀, t, T', Lc, h0, X', hLc, e1, e2, ⟨⟨v', N', ad', cy', im', rm', lm', hoc, hq, hext, hP', hD', hKA'⟩, hF'⟩, hgo⟩ | ⟨q, st₀, t, T', Lc, E, ce, h0, X', hLc, e1, e2, ⟨⟨im', rm', lm', hx, hP', hD'⟩, hF'⟩, hce, hcv, hcl, hgo⟩
  · cases hoc
    obtain ⟨k1, k2, k3⟩ := vx_keep h0 e1 hW.2.2.1 (fun q _ => hAw q) hAw hLc hF'
    have hal : s.vm.Alike t.vm := by rw [← e2]; exact X'.warmed.alike
    have hok := hk _ _ _ _ _ hq
    have hV : ∀ u : Value, ((∃ j : Nat, L[j]? = some (some u)) ∨ u ∈ rest) → tr ad' u = tr ad u := by
      intro u hu
      rcases hok with rfl | ⟨h9, hl9, hr9, -⟩
      · rw [hext.eq.1]
      · rcases hu with ⟨j, hj⟩ | hu
        · exact tr_ext hext h9 (hl9 j u hj)
        · exact tr_ext hext h9 (hr9 u hu)
    have had9 : ad' 900 = ad 900 := by
      rcases hok with rfl | ⟨h9, -⟩
      · rw [hext.eq.1]
      · exact (hext.2 900 (Or.inr h9)).1
    have hW' : WB D A s N' ad' cy' im' rm' lm' T'.heap (locs ++ Lc) := ⟨by rw [e1]; exact hP', hD'.weaken (fun k q _ h => hAw q.1 h), k3, KA.moved (u := t) (U := s) hal.symm hKA'⟩
    have hF2 : FR l mt p s m args meth c D A ad' := by
      obtain ⟨f1, f2, f3, f4, f5, f6, f7, f8, f9, f10, f11, f12, f13, f14, f15⟩ := hF
      exact ⟨f1, f2, f3, f4, f5, f6, f7, f8, f9, f10, f11, f12, f13, f14, by rw [had9]; exact f15⟩
    have hL2 : LH ad' ls mt.2.2.1 L := ⟨hL.1, hL.2.1, fun j u hu => by rw [hV u (Or.inl ⟨j, hu⟩)]; exact hL.2.2 j u hu⟩
    have hrest : (v'.toList ++ rest).map (tr ad') = (v'.map (tr ad')).toList ++ rest.map (tr ad) := by
      rw [List.map_append]
      congr 1
      · cases v' <;> rfl
      · exact List.map_congr_left fun u hu => hV u (Or.inr hu)
    have KK := K N' v' im' rm' lm' hq p e s m args below meth c D A ad' cy' MC MS Z T'.heap (locs ++ Lc) (cells + mcc) (slots + msc) ls hF2 hW' hL2 (by omega) (by omega)
      (fun v2 N2 im2 rm2 lm2 ad2 cy2 H2 locs2 cells2 slots2 ls2 pc2 i2 q2 e2 => hR v2 N2 im2 rm2 lm2 ad2 cy2 H2 locs2 cells2 slots2 ls2 pc2 i2 q2 (hext.trans e2))
      (fun E im2 rm2 lm2 H2 locs2 cells2 slots2 ls2 pc2 rest2 hx2 hw2 h8 => by
        rcases hok with rfl | ⟨-, -, -, hno⟩
        · obtain ⟨ea, ec⟩ := hext.eq
          rw [ea, ec] at hw2
          exact hT E im2 rm2 lm2 H2 locs2 cells2 slots2 ls2 pc2 rest2 hx2 hw2 h8
        · exact (hno _ _ _ _ hx2).elim)
    rw [hrest] at KK
    obtain ⟨t2, a1, b1⟩ := KK T' rfl X'
    exact ⟨t2, hgo t2 a1, b1⟩
  · obtain ⟨k1, k2, k3⟩ := vx_keep h0 e1 hW.2.2.1 (fun q _ => hAw q) hAw hLc hF'
    have hW' : WB D A s N ad cy im' rm' lm' T'.heap (locs ++ Lc) := ⟨by rw [e1]; exact hP', hD'.weaken (fun k q _ h => hAw q.1 h), k3, hW.2.2.2⟩
    obtain ⟨t2, a1, b1⟩ := KX E im' rm' lm' T'.heap (locs ++ Lc) ce q hx hW' (by rw [e1]; exact hce) hcv hcl T' rfl X'
    exact ⟨t2, hgo.trans a1, b1⟩
/-- what a callee needs of its start -/
theorem call_pre {p : Program} {s : State} {m : MethodId} {args : Array Value} {meth : Method} {c : Code} {D : va_G} {A : Nat → Prop} {ad : Nat → Nat} {cy : Nat → ClassId} {H : Heap} {locs : List Loc} (hF : FR l mt p s m args meth c D A ad) (hW : WB D A s N ad cy im rm lm H locs) (as : List Value) :
    ∀ U : State, U.heap = H → s.WarmedH U.vm → va_Pc (as.map (tr ad)) (CP D ad cy H.size N im rm lm) (as.map (tr ad)).toArray U := by
  intro U hU hWU
  have hAw : ∀ q : Nat, va_A (wd ad cy N im rm lm) H.size q → A q := by
    intro q h
    rcases h with ⟨k, x, h⟩ | h
    · exact hW.2.1.2 k _ h
    · exact hF.2.2.2.2.2.2.2.2.2.1 q (Nat.le_trans hW.2.2.1.1 h)
  obtain ⟨f1, f2, f3, f4, f5, f6, f7, f8, f9, f10, f11, f12, f13, f14, f15⟩ := hF
  refine ⟨rfl, by rw [hU], by rw [hU]; exact hW.1, hW.2.1.weaken (fun _ _ _ _ => trivial), KA.moved hWU.alike hW.2.2.2, va_K.moved hWU.alike f9, ?_, SX.warm hWU f12⟩
  rw [hU]
  exact ⟨vx_Zq.moved hWU.alike ((f11.1.kept hW.2.2.1.2.1).narrow hAw), vx_Zq.moved hWU.alike ((f11.2.kept hW.2.2.1.2.1).narrow hAw)⟩
/-- the words and the room of a call -/
def okC (mt y : MT) (d dc n : Nat) : Prop := dc + 1 ≤ d ∧ y.2.2.1 ≤ 17 ∧ y.1.cls ≠ "java/lang/invoke/MethodHandle" ∧ y.1.cls ≠ "java/lang/invoke/VarHandle" ∧ (parseMethodDescriptor y.1.desc).map (fun d => d.parameters.length) = some n
theorem room_ok {a b MC MS : Nat} (h : dc + 1 ≤ d) (hl : n ≤ 17) : (rmd dc a b).frames + 1 ≤ (rmd d MC MS).frames ∧ 8 + (n + 11) + (rmd dc a b).locals ≤ (rmd d MC MS).locals := by
  refine ⟨h, ?_⟩
  show 8 + (n + 11) + (36 * dc + 28) ≤ 36 * d + 28
  omega
theorem prop_x (hX : ∀ E a b c, Xc E a b c → X E a b c ∧ 8 ≤ d) {p : Program} {e : Env} {s : State} {m : MethodId} {args : Array Value} {below : List Frame} {meth : Method} {c : Code} {D : va_G} {A : Nat → Prop} {ad : Nat → Nat} {cy : Nat → ClassId} {MC MS : Nat} {Z : State → Prop} {cells slots : Nat} {ls : Array Slot} {rest : List Value} (hc : cells ≤ MC) (hs : slots ≤ MS)
    (hT : ∀ (E : String) (im' : TI) (rm' : TP) (lm' : TL) (H' : Heap) (locs' : List Loc) (cells' slots' : Nat) (ls' : Array Slot) (pc' : Nat) (rest : List Value), X E im' rm' lm' → WB D A s N ad cy im' rm' lm' H' locs' → 8 ≤ d →
      ((cells' + 1 ≤ MC → slots' + 6 ≤ MS → thr mt pc' E → ls'.size = mt.2.2.1 → (rest.map fun v => v.category).sum ≤ 8 → W p l e (rmd d MC MS) s m args below meth c H' locs' cells' slots' Z (F0 m pc' ls' rest)) ∧
       (∀ (ce : Cell) (q : Addr), cells' ≤ MC → slots' ≤ MS → H'[q]? = some ce → ce.vm = .none → s.vm.findClass E = some ce.cls → vx_W p l e (rmd d MC MS) s m args below meth c H' locs' cells' slots' Z (F0 m pc' ls' rest) q))) :
    ∀ E im' rm' lm' (H' : Heap) (locs' : List Loc) (ce : Cell) (q : Addr), Xc E im' rm' lm' → WB D A s N ad cy im' rm' lm' H' locs' → H'[q]? = some ce → ce.vm = .none → s.vm.findClass E = some ce.cls → vx_W p l e (rmd d MC MS) s m args below meth c H' locs' cells slots Z (F0 m pc ls rest) q :=
  fun E im' rm' lm' H' locs' ce q hx hw h1 h2 h3 => (hT E im' rm' lm' H' locs' cells slots ls pc rest (hX _ _ _ _ hx).1 hw (hX _ _ _ _ hx).2).2 ce q hc hs h1 h2 h3
theorem cat_sum (ad : Nat → Nat) (st : List Value) : ((st.map (tr ad)).map fun v => v.category).sum = (st.map fun v => v.category).sum := by
  rw [List.map_map]
  congr 1
  exact List.map_congr_left fun v _ => tr_cat ad v
theorem pw_callV {b ci : Nat} {C : String} {T : u_T} {nT : Nat} {ty : Nat → FieldType} (hC : Con l y dc mcc msc N (.ref b :: as) im rm lm Qc Xc) (hyh : y.2.2.2.2.1 = some []) (hT : FT ci C T nT ty) (hyC : y.1.cls = C)
    (hcw : Cond.code y.1 y.2.1 y.2.2.1 y.2.2.2.1 ∈ wsAll) (hml : Cond.methodLink mt.1.cls i y.1 ∈ wsAll) (hmi : Cond.instanceMethod y.1 ∈ wsAll) (hms : Cond.selects y.1.cls y.1 y.1 ∈ wsAll) (hini : Cond.initialized y.1.cls ∈ wsAll)
    (hok : okC mt y d dc as.length) (hd : decode mt.2.1 pc = .ok (.invokevirtual i, 3)) (hkb : kd b = ci) (hN : b < N) (hcat : (rest.map fun v => v.category).sum ≤ 8)
    (hk : ∀ N' v im' rm' lm', Qc N' v im' rm' lm' → okF N L rest X N') (hX : ∀ E a b c, Xc E a b c → X E a b c ∧ 8 ≤ d)
    (K : ∀ N' v im' rm' lm', Qc N' v im' rm' lm' → PW l mt d mc ms N' (pc + 3) L (v.toList ++ rest) im' rm' lm' Q X) :
    PW l mt d (mcc + mc) (msc + ms) N pc L (as.reverse ++ .ref b :: rest) im rm lm Q X := by
  intro p e s m args below meth c D A ad cy MC MS Z H locs cells slots ls hF hW hL hc hs hR hT2
  obtain ⟨o1, o2, o3, o4, o5⟩ := hok
  have hst : (as.reverse ++ .ref b :: rest).map (tr ad) = (as.map (tr ad)).reverse ++ .ref (ad b) :: rest.map (tr ad) := by simp [tr]
  have hce : cw y = .code y.1 y.2.1 y.2.2.1 y.2.2.2.1 := by unfold cw; rw [hyh]
  have hG : GoodIn wsAll (wsV mt.1.cls i y.1.cls y.1 (cw y :: wsAll)) := by
    refine goodAll_app (by rw [hce]; exact hcw) fun w hw => ?_
    simp only [List.mem_cons, List.not_mem_nil, or_false] at hw
    rcases hw with rfl | rfl | rfl | rfl <;> assumption
  have hrun := vx_runV (l := l) (p := p) (e := e) (R := rmd d MC MS) (s := s) (m := m) (args := args) (below := below) (meth := meth) (c := c) (H := H) (locs := locs) (cells := cells) (slots := slots) (As := as.map (tr ad)) (rest := rest.map (tr ad)) (b := ad b) (C := y.1.cls) (g := F0 m pc ls ((as.reverse ++ .ref b :: rest).map (tr ad))) ⟨hF.1, hF.2.1, hF.2.2.1, hF.2.2.2.2.1, hF.2.2.2.2.2.1⟩ (hC D ad cy H.size)
    (cwV as.length hF.2.2.2.2.2.1 hG (by rw [hce]) rfl rfl ⟨rfl, o3, o4, o5⟩ (room_ok o1 o2)) ⟨CP.blind, by rw [hyC]; exact va_recv hF.2.2.2.2.2.2.2.2.1 hW.1 hT.1 (ent_at hN hkb hT.2.2.2.1), call_pre hF hW (.ref b :: as)⟩ rfl (by simp) hL.1 hst (lv_room (by rw [cat_sum]; exact hcat)) hd ⟨by show cells + mcc ≤ MC; omega, by show slots + msc ≤ MS; omega⟩
  exact call_core hrun hk K hF hW hL hc hs (prop_x hX (by omega) (by omega) hT2) hR hT2
theorem pw_callS (hC : Con l y dc mcc msc N as im rm lm Qc Xc) (hyh : y.2.2.2.2.1 = some [])
    (hcw : Cond.code y.1 y.2.1 y.2.2.1 y.2.2.2.1 ∈ wsAll) (hml : Cond.methodLink mt.1.cls i y.1 ∈ wsAll) (hmi : Cond.static y.1 ∈ wsAll) (hini : Cond.initialized y.1.cls ∈ wsAll)
    (hok : okC mt y d dc as.length) (hd : decode mt.2.1 pc = .ok (.invokestatic i, 3)) (hcat : (rest.map fun v => v.category).sum ≤ 8)
    (hk : ∀ N' v im' rm' lm', Qc N' v im' rm' lm' → okF N L rest X N') (hX : ∀ E a b c, Xc E a b c → X E a b c ∧ 8 ≤ d)
    (K : ∀ N' v im' rm' lm', Qc N' v im' rm' lm' → PW l mt d mc ms N' (pc + 3) L (v.toList ++ rest) im' rm' lm' Q X) :
    PW l mt d (mcc + mc) (msc + ms) N pc L (as.reverse ++ rest) im rm lm Q X := by
  intro p e s m args below meth c D A ad cy MC MS Z H locs cells slots ls hF hW hL hc hs hR hT2
  obtain ⟨o1, o2, o3, o4, o5⟩ := hok
  have hst : (as.reverse ++ rest).map (tr ad) = (as.map (tr ad)).reverse ++ rest.map (tr ad) := by simp
  have hce : cw y = .code y.1 y.2.1 y.2.2.1 y.2.2.2.1 := by unfold cw; rw [hyh]
  have hG : GoodIn wsAll (va_wsS mt.1.cls i y.1 (cw y :: wsAll)) := by
    refine goodAll_app (by rw [hce]; exact hcw) fun w hw => ?_
    simp only [List.mem_cons, List.not_mem_nil, or_false] at hw
    rcases hw with rfl | rfl | rfl <;> assumption
  have hrun := vx_runS (l := l) (p := p) (e := e) (R := rmd d MC MS) (s := s) (m := m) (args := args) (below := below) (meth := meth) (c := c) (H := H) (locs := locs) (cells := cells) (slots := slots) (As := as.map (tr ad)) (rest := rest.map (tr ad)) (g := F0 m pc ls ((as.reverse ++ rest).map (tr ad))) ⟨hF.1, hF.2.1, hF.2.2.1, hF.2.2.2.2.1, hF.2.2.2.2.2.1⟩ (hC D ad cy H.size)
    (va_cwS as.length hF.2.2.2.2.2.1 hG (by rw [hce]) rfl rfl ⟨o3, o4, o5⟩ (room_ok o1 o2)) ⟨CP.blind, call_pre hF hW as⟩ rfl (by simp) hL.1 hst (lv_room (by rw [cat_sum]; exact hcat)) hd ⟨by show cells + mcc ≤ MC; omega, by show slots + msc ≤ MS; omega⟩
  exact call_core hrun hk K hF hW hL hc hs (prop_x hX (by omega) (by omega) hT2) hR hT2
/-- a constructor -/
theorem pw_callI {b : Nat} (hC : Con l y dc mcc msc N (.ref b :: as) im rm lm Qc Xc) (hyh : y.2.2.2.2.1 = some []) (hret : y.2.2.2.1 = none) (hin : y.1.name = "<init>")
    (hcw : Cond.code y.1 y.2.1 y.2.2.1 y.2.2.2.1 ∈ wsAll) (hml : Cond.methodLink mt.1.cls i y.1 ∈ wsAll) (hmi : Cond.instanceMethod y.1 ∈ wsAll) (hini : Cond.initialized y.1.cls ∈ wsAll)
    (hok : okC mt y d dc as.length) (hd : decode mt.2.1 pc = .ok (.invokespecial i, 3)) (hcat : (rest.map fun v => v.category).sum ≤ 8)
    (hk : ∀ N' v im' rm' lm', Qc N' v im' rm' lm' → okF N L rest X N') (hX : ∀ E a b c, Xc E a b c → X E a b c ∧ 8 ≤ d)
    (K : ∀ N' v im' rm' lm', Qc N' v im' rm' lm' → PW l mt d mc ms N' (pc + 3) L (v.toList ++ rest) im' rm' lm' Q X) :
    PW l mt d (mcc + mc) (msc + ms) N pc L (as.reverse ++ .ref b :: rest) im rm lm Q X := by
  intro p e s m args below meth c D A ad cy MC MS Z H locs cells slots ls hF hW hL hc hs hR hT2
  obtain ⟨o1, o2, o3, o4, o5⟩ := hok
  have hst : (as.reverse ++ .ref b :: rest).map (tr ad) = (as.map (tr ad)).reverse ++ .ref (ad b) :: rest.map (tr ad) := by simp [tr]
  have hce : cw y = .code y.1 y.2.1 y.2.2.1 none := by unfold cw; rw [hyh, hret]
  have hG : GoodIn wsAll (cw y :: wsAll) := goodAll (by rw [hce, ← hret]; exact hcw)
  have hts := hF.2.2.2.2.2.1
  have hrun := vx_runI (l := l) (p := p) (e := e) (R := rmd d MC MS) (s := s) (m := m) (args := args) (below := below) (meth := meth) (c := c) (H := H) (locs := locs) (cells := cells) (slots := slots) (As := as.map (tr ad)) (rest := rest.map (tr ad)) (b := ad b) (g := F0 m pc ls ((as.reverse ++ .ref b :: rest).map (tr ad))) ⟨hF.1, hF.2.1, hF.2.2.1, hF.2.2.2.2.1, hF.2.2.2.2.2.1⟩ (hC D ad cy H.size)
    (cwI as.length hts hG (by rw [hce]) rfl rfl (hts _ hini) (hts _ hml) (hts _ hmi) hin ⟨o3, o4, o5⟩ (room_ok o1 o2)) ⟨CP.blind, call_pre hF hW (.ref b :: as)⟩ rfl (by simp) hL.1 hst (lv_room (by rw [cat_sum]; exact hcat)) hd ⟨by show cells + mcc ≤ MC; omega, by show slots + msc ≤ MS; omega⟩
  exact call_core hrun hk K hF hW hL hc hs (prop_x hX (by omega) (by omega) hT2) hR hT2
end PWC

/-! a private constructor of a nest mate (pasted from the kit's laws) -/
section IN_callIN
variable {p : Program} {l : Launch} {e : Env} {R : Room} {s : State} {m : MethodId} {args : Array Value} {below : List Frame} {meth : Method} {c : Code} {T : State} {locs : List Loc} {cells slots : Nat}
theorem vx_callIN (X : Stand p l e R s m args below meth c T locs cells slots) (hexec : p.tables.exec = Jvm.exec) {own : String} {index : Nat} {host : String} {y : MethodName} {bytes : ByteArray} {maxL : Nat}
    (hown : s.vm.findClass own = some m.cls) (hy1 : y.name = "<init>") (hlink : (Cond.methodLinkNest own index y host).before args s = true) (hinst : (Cond.instanceMethod y).before args s = true)
    (hcode : (Cond.code y bytes maxL none).before args s = true) (hy : y.cls ≠ "java/lang/invoke/MethodHandle" ∧ y.cls ≠ "java/lang/invoke/VarHandle")
    {W9 : Nat} {Pre : Pt → Array Value → Prop} {Post : Pt → Array Value → Option Value → Pt → Prop} {PostX : Pt → Array Value → Addr → Pt → Prop} (hK : vx_Back l R p e below s args y 3 W9 Pre Post PostX)
    {g : JFrame} (hg : g.method = m) (hsize : g.locals.size = c.maxLocals) {a : Addr} {argsL rest : List Value} (hlen : ∀ sig, parseMethodDescriptor y.desc = some sig → argsL.length = sig.parameters.length)
    (hstack : g.stack = argsL.reverse ++ .ref a :: rest) (hW : 2 * g.monitorRoom + (rest.map fun v => v.category).sum ≤ W9) (hdg : decode c.code g.pc = .ok (.invokespecial index, 3))
    (hpre : ∀ vm₁, s.WarmedH vm₁ → Pre ⟨T.setVm vm₁, locs, cells, slots⟩ (Value.ref a :: argsL).toArray) :
    (∃ (v : Option Value) (vm₁ : Vm) (B : Pt), s.WarmedH vm₁ ∧ Stand p l e R s m args below meth c B.U B.locs B.cells B.slots ∧ Post ⟨T.setVm vm₁, locs, cells, slots⟩ (Value.ref a :: argsL).toArray v B ∧
      ∀ target, Steps p.tables e below (B.U.setTop { g with pc := g.pc + 3, stack := v.toList ++ rest }) target → Steps p.tables e below (T.setTop g) target) ∨
    (∃ (q : Addr) (vm₁ : Vm) (B : Pt), s.WarmedH vm₁ ∧ Stand p l e R s m args below meth c B.U B.locs B.cells B.slots ∧ PostX ⟨T.setVm vm₁, locs, cells, slots⟩ (Value.ref a :: argsL).toArray q B ∧
      Steps p.tables e below (T.setTop g) ((B.U.setTop { g with stack := rest }).pushFrame (.throwing q))) := by
  subst hg
  have hpl : e.platform.magicAccessors = ({} : Platform).magicAccessors := by rw [X.admits.platform]
  obtain ⟨mk, methM, cM, kP, vm₁, hnamed, hmethM, hcodeM, -, hlocalsM, -, hkP, -, hW₁, hstep₁⟩ := Steps.initColdArgsNest (e := e) X.here hexec X.warmed hpl hown hy1 hy hlink hinst hcode (f := g) rfl hlen hstack hdg
  have X₁ := X.noted hW₁
  rcases hK g.method meth c ⟨T.setVm vm₁, locs, cells, slots⟩ { g with stack := rest } (.invokespecial index) mk (Value.ref a :: argsL).toArray X₁ rfl hsize hdg hW (X₁.named hnamed) (hpre vm₁ X₁.warmed) with ⟨v, B, X', hpost, hsteps⟩ | ⟨q, B, X', hpost, hsteps⟩
  · exact Or.inl ⟨v, vm₁, B, X₁.warmed, X', hpost, fun target h => hstep₁ _ fun acts => by rw [doInvoke_state]; exact hsteps.trans h⟩
  · exact Or.inr ⟨q, vm₁, B, X₁.warmed, X', hpost, hstep₁ _ fun acts => by rw [doInvoke_state]; exact hsteps⟩
end IN_callIN
section IN_runIN
variable {p : Program} {l : Launch} {e : Env} {R : Room} {s : State} {m : MethodId} {args : Array Value} {below : List Frame} {meth : Method} {c : Code} {H : Heap} {locs : List Loc} {cells slots : Nat}
theorem vx_runIN {y : MethodName} {bytes cc : ByteArray} {maxL nL mc ms n index : Nat} {ws : List Cond} {rm : Room} {Pc : Array Value → State → Prop} {Qc : Array Value → State → Outcome → State → Prop} {XC : String → State → State → Prop} {free : Addr → Prop} {Ts : List Cond} {own host : String} {b : Addr} {As rest : List Value} {g : JFrame}
    (S : CallFix p m c cc nL s args Ts own) (hM : vx_Met l y ws rm Pc Qc XC mc ms free) (cw : va_CN R s args own index y host bytes maxL none ws rm mc ms n ∧ y.name = "<init>" ∧ (Cond.instanceMethod y).before args s = true) (hp : PreS s H Pc (.ref b :: As))
    (hg : g.method = m) (hn : As.length = n) (hsize : g.locals.size = nL) (hstack : g.stack = As.reverse ++ .ref b :: rest) (hW : 2 * g.monitorRoom + (rest.map fun v => v.category).sum ≤ 8) (hdg : decode cc g.pc = .ok (.invokespecial index, 3)) (hf : cells + mc ≤ R.cells ∧ slots + ms ≤ R.slots) :
    vx_Run p l e R s m args below meth c H locs cells slots mc ms g rest (Qc (Value.ref b :: As).toArray) XC free := by
  obtain ⟨⟨⟨hrc, hrs, hfr, hlo, hws, hcw⟩, hcode, hini, hy, hlen, hl⟩, hx1, hx2⟩ := cw
  have hK : vx_Back l R p e below s args y 3 8 (PreOf R mc ms Pc) (PostOf Qc mc ms free) (vx_Post XC mc ms free) := vx_back (bytes := bytes) (maxL := maxL) (ret := none) hM hp.1 hrc hrs hfr hlo hws hcw (fun a' U hW => word_at hW (Or.inl (by first | rfl | simp [Cond.onTables, Cond.keeps, Cond.steady])) hini)
  obtain ⟨hx, hb, hml, ho, -⟩ := S
  have hPc := hp.2
  intro T hT X
  rcases vx_callIN X hx (bytes := bytes) (maxL := maxL) ho hx1 hl hx2 hcode hy hK hg (hsize.trans hml.symm) (a := b) (argsL := As) (rest := rest) (fun sig h => hn.trans (hlen sig h)) hstack hW (by rw [hb]; exact hdg)
    (fun vm₁ hW₁ => ⟨hf.1, hf.2, hPc (T.setVm vm₁) hT hW₁⟩) with ⟨v, vm₁, ⟨U', l2, c2, s2⟩, hW₁, X', ⟨g', mk, t, L, e1, e2, hq, h1, hL, h2, h3⟩, st⟩ | ⟨q, vm₁, ⟨U', l2, c2, s2⟩, hW₁, X', ⟨g', mk, t, L, E, ce, e1, e2, hq, hce, hcv, hcl, h1, hL, h2, h3⟩, st⟩
  · dsimp only [Pt.U, Pt.locs, Pt.cells, Pt.slots] at X' e1 e2 h1 h2 h3 st
    subst h1; subst h2; subst h3
    exact Or.inl ⟨v, (T.setVm vm₁).calling g' mk (Value.ref b :: As).toArray, t, U', L, hT, X', hL, e1, e2, hq, st⟩
  · dsimp only [Pt.U, Pt.locs, Pt.cells, Pt.slots] at X' e1 e2 h1 h2 h3 st hcl
    subst h1; subst h2; subst h3
    exact Or.inr ⟨q, (T.setVm vm₁).calling g' mk (Value.ref b :: As).toArray, t, U', L, E, ce, hT, X', hL, e1, e2, hq, hce, hcv, vx_cls hW₁ hcl, st⟩
end IN_runIN
section CIN
variable {l : Launch} {mt : MT} {d dc mc ms mcc msc N pc : Nat} {L : List (Option Value)} {rest : List Value} {im : TI} {rm : TP} {lm : TL} {Q Qc : TQ} {X Xc : TX}
/-- the reader's constructor, from its nest's host -/
theorem pw_callIN {b : Nat} (hC : Con l m_X3_init dc mcc msc N [.ref b] im rm lm Qc Xc) (hcl : mt.1.cls = "TideMills") (hok : dc + 1 ≤ d) (hd : decode mt.2.1 pc = .ok (.invokespecial 43, 3)) (hcat : (rest.map fun v => v.category).sum ≤ 8)
    (hk : ∀ N' v im' rm' lm', Qc N' v im' rm' lm' → okF N L rest X N') (hX : ∀ E a b c, Xc E a b c → X E a b c ∧ 8 ≤ d)
    (K : ∀ N' v im' rm' lm', Qc N' v im' rm' lm' → PW l mt d mc ms N' (pc + 3) L (v.toList ++ rest) im' rm' lm' Q X) : PW l mt d (mcc + mc) (msc + ms) N pc L (.ref b :: rest) im rm lm Q X := by
  intro p e s m args below meth c D A ad cy MC MS Z H locs cells slots ls hF hW hL hc hs hR hT2
  have hG : GoodIn wsAll (cw m_X3_init :: wsAll) := goodAll mc_X3_init
  have hts := hF.2.2.2.2.2.1
  have hSX := hF.2.2.2.2.2.2.2.2.2.2.2.1
  have hown : s.vm.findClass "TideMills" = some m.cls := by rw [← hcl]; exact hF.2.2.2.2.1
  have hrun := vx_runIN (l := l) (p := p) (e := e) (R := rmd d MC MS) (s := s) (m := m) (args := args) (below := below) (meth := meth) (c := c) (H := H) (locs := locs) (cells := cells) (slots := slots) (As := []) (rest := rest.map (tr ad)) (b := ad b) (g := F0 m pc ls ((.ref b :: rest).map (tr ad))) ⟨hF.1, hF.2.1, hF.2.2.1, hown, hts⟩ (hC D ad cy H.size)
    ⟨va_cnB 0 hts hG rfl rfl rfl hSX.2.2.2.1 (hts _ in_X3) ⟨by decide, by decide, by decide +kernel⟩ (room_ok hok (by decide)), rfl, hts _ mi_X3_init⟩ ⟨CP.blind, call_pre hF hW [.ref b]⟩ rfl rfl hL.1 rfl (lv_room (by rw [cat_sum]; exact hcat)) hd ⟨by show cells + mcc ≤ MC; omega, by show slots + msc ≤ MS; omega⟩
  exact call_core hrun hk K hF hW hL hc hs (prop_x hX (by omega) (by omega) hT2) hR hT2
end CIN
theorem FS.ui {N o k : Nat} {v : Int32} {im : TI} {rm : TP} {lm : TL} (h : FS N im rm lm) (ho : o < N) : FS N (ui im o k v) rm lm := ⟨fun q hq => ⟨by rw [ui_ne (by omega)]; exact (h.1 q hq).1, (h.1 q hq).2⟩, h.2⟩
theorem ur_ap {f : TP} {o k o' k' : Nat} {v : Option Nat} : ur f o k v o' k' = if o' = o ∧ k' = k then v else f o' k' := by
  unfold ur
  by_cases h : o' = o
  · subst h; simp [va_up]
  · simp [h]
theorem FS.ur {N o k : Nat} {v : Option Nat} {im : TI} {rm : TP} {lm : TL} (h : FS N im rm lm) (ho : o < N) (hv : ∀ z, v = some z → z < N) : FS N im (ur rm o k v) lm := by
  refine ⟨fun q hq => ⟨(h.1 q hq).1, by rw [ur_ne (by omega)]; exact (h.1 q hq).2.1, (h.1 q hq).2.2⟩, fun a b z hz => ?_⟩
  rw [ur_ap] at hz
  split at hz
  · exact hv z hz
  · exact h.2 a b z hz
theorem FS.up {N N2 : Nat} {im : TI} {rm : TP} {lm : TL} (h : FS N im rm lm) (hN : N ≤ N2) : FS N2 im rm lm := ⟨fun q hq => h.1 q (by omega), fun a b z hz => by have := h.2 a b z hz; omega⟩
theorem okL_z {N : Nat} : ∀ (j : Nat) (v : Value), ([] : List (Option Value))[j]? = some (some v) → okV N v := fun j v h => by simp at h
theorem okL_n {N : Nat} {L : List (Option Value)} (h : ∀ (j : Nat) (v : Value), L[j]? = some (some v) → okV N v) : ∀ (j : Nat) (v : Value), (none :: L)[j]? = some (some v) → okV N v := fun j v hv => by
  cases j with
  | zero => simp at hv
  | succ j => exact h j v (by simpa using hv)
theorem okL_s {N : Nat} {w : Value} {L : List (Option Value)} (hw : okV N w) (h : ∀ (j : Nat) (v : Value), L[j]? = some (some v) → okV N v) : ∀ (j : Nat) (v : Value), (some w :: L)[j]? = some (some v) → okV N v := fun j v hv => by
  cases j with
  | zero => simp at hv; rw [← hv]; exact hw
  | succ j => exact h j v (by simpa using hv)
theorem okS_z {N : Nat} : ∀ v ∈ ([] : List Value), okV N v := fun v h => by simp at h
theorem okS_c {N : Nat} {w : Value} {st : List Value} (hw : okV N w) (h : ∀ v ∈ st, okV N v) : ∀ v ∈ w :: st, okV N v := fun v hv => by
  rcases List.mem_cons.mp hv with e | e
  · rw [e]; exact hw
  · exact h v e
theorem okr {N k : Nat} (h : k < N) : okV N (pv (some k)) := Or.inl h
theorem oko {N : Nat} {o : Option Nat} (h : ∀ k, o = some k → k < N) : okV N (pv o) := by
  cases o with
  | none => trivial
  | some k => exact Or.inl (h k rfl)
theorem noXe : ∀ E a b c, ¬ noX E a b c := fun _ _ _ _ h => h

/-! PW: a weakest precondition over the machine's own W, for the pure memory -/
/-- a method: name, code, locals, answer, its exception table, the script that it reads -/
abbrev MT : Type := MethodName × ByteArray × Nat × Option FieldType × Option (List (Nat × Nat × Nat × Nat)) × Option (Nat × (Nat → Int32))
def rmd (d mc ms : Nat) : Room := { frames := d, cells := mc, slots := ms, locals := 36 * d + 28 }
def strL : List (String × Nat × String) := [("TideMills", 93, "no such setting"), ("TideMills", 259, "no such mill"), ("TideMills", 261, "no mill has such a sack"), ("TideMills", 263, "out of range"), ("TideMills", 265, "below 0"), ("TideMills", 267, "not in this state")]
def EX (A : Nat → Prop) (U : State) (H : Heap) : Prop := vx_Zq Bundle.tN "UNASSIGNED_STACK" Bundle.steD A U H ∧ vx_Zq Bundle.tN "SUPPRESSED_SENTINEL" Bundle.listD A U H
def xcL : List String := [xcI, xcA, xcS]
def dcL : List String := ["java/lang/RuntimeException", "java/lang/Exception", Bundle.tN]
def SX (U : State) : Prop := (∀ q ∈ strL, ∃ sa, vk_R q.1 q.2.1 q.2.2 sa U) ∧ (∀ E ∈ xcL, va_Nw (.castable E E) U ∧ True) ∧ (∀ Y ∈ dcL, va_Nw (.declares (Bundle.initS Y)) U) ∧ va_Nw (.methodLinkNest "TideMills" 43 yX3_init "TideMills") U ∧ va_Nw (.methodLinkNest "TideMills$Creek" 123 yX4_numberOrNone "TideMills") U ∧ va_AO "TideMills$Creek" U
theorem SX.warm {s U : State} (hW : s.WarmedH U.vm) (h : SX s) : SX U :=
  ⟨fun q hq => (h.1 q hq).elim fun sa k => ⟨sa, vk_R.warm hW k⟩, fun E hE => ⟨va_Nw.warmC hW (h.2.1 E hE).1, trivial⟩, fun Y hY => va_Nw.warmD hW (h.2.2.1 Y hY), va_Nw.warmM hW h.2.2.2.1, va_Nw.warmM hW h.2.2.2.2.1, va_AO.moved hW.alike h.2.2.2.2.2⟩
theorem SX.same {u U : State} (hv : U.vm = u.vm) (h : SX u) : SX U :=
  ⟨fun q hq => (h.1 q hq).elim fun sa k => ⟨sa, vk_R.same hv k⟩, fun E hE => ⟨va_Nw.same rfl hv.symm (h.2.1 E hE).1, trivial⟩, fun Y hY => va_Nw.same rfl hv.symm (h.2.2.1 Y hY), va_Nw.same rfl hv.symm h.2.2.2.1, va_Nw.same rfl hv.symm h.2.2.2.2.1, va_AO.moved (by rw [hv]; exact Vm.Alike.refl _) h.2.2.2.2.2⟩
def KA (s : State) (cy : Nat → ClassId) (N : Nat) : Prop := ∀ k, k < N → 6 ≤ kd k → ArrOfT s (cy k) (aty (kd k)) ∧ va_RA s (cy k) (aty (kd k))
theorem KA.moved {u U : State} {cy : Nat → ClassId} {N : Nat} (hvm : u.vm.Alike U.vm) (h : KA u cy N) : KA U cy N := fun k h1 h2 => ⟨arrOfT_moved hvm (h k h1 h2).1, va_RA.moved hvm (h k h1 h2).2⟩
def ext (N : Nat) (ad : Nat → Nat) (cy : Nat → ClassId) (N' : Nat) (ad' : Nat → Nat) (cy' : Nat → ClassId) : Prop := N ≤ N' ∧ (∀ k, k < N ∨ N' ≤ k → ad' k = ad k ∧ cy' k = cy k)
theorem ext.rf {N : Nat} {ad : Nat → Nat} {cy : Nat → ClassId} : ext N ad cy N ad cy := ⟨Nat.le_refl _, fun _ _ => ⟨rfl, rfl⟩⟩
theorem ext.eq {N : Nat} {ad ad' : Nat → Nat} {cy cy' : Nat → ClassId} (h : ext N ad cy N ad' cy') : ad' = ad ∧ cy' = cy := ⟨funext fun k => (h.2 k (Nat.lt_or_ge k N)).1, funext fun k => (h.2 k (Nat.lt_or_ge k N)).2⟩
theorem ext.trans {N N1 N2 : Nat} {ad a1 a2 : Nat → Nat} {cy c1 c2 : Nat → ClassId} (h : ext N ad cy N1 a1 c1) (g : ext N1 a1 c1 N2 a2 c2) : ext N ad cy N2 a2 c2 := by
  refine ⟨Nat.le_trans h.1 g.1, fun k hk => ?_⟩
  have q := g.2 k (hk.elim (fun x => Or.inl (Nat.lt_of_lt_of_le x h.1)) Or.inr)
  have r := h.2 k (hk.elim Or.inl (fun x => Or.inr (Nat.le_trans g.1 x)))
  exact ⟨q.1.trans r.1, q.2.trans r.2⟩
/-- what holds of the frame that runs -/
def FR (l : Launch) (mt : MT) (p : Program) (s : State) (m : MethodId) (args : Array Value) (meth : Method) (c : Code) (D : va_G) (A : Nat → Prop) (ad : Nat → Nat) : Prop :=
  p.tables.exec = Jvm.exec ∧ c.code = mt.2.1 ∧ c.maxLocals = mt.2.2.1 ∧ meth.sig.returnType = mt.2.2.2.1 ∧ s.vm.findClass mt.1.cls = some m.cls ∧ (∀ w ∈ wsAll, w.before args s = true) ∧ meth.locks = false ∧ (mt.1.name = "<init>" → meth.name = "<init>") ∧
  va_K D vwCl [] s ∧ (∀ q, s.heap.size ≤ q → A q) ∧ EX A s s.heap ∧ SX s ∧ l.stackTraces = false ∧ (∀ hh, mt.2.2.2.2.1 = some hh → c.exceptionTable.toList = tableOf hh) ∧ ∀ Lx xs, mt.2.2.2.2.2 = some (Lx, xs) → va_X (ad 900) Lx xs s s.heap ∧ ad 900 < s.heap.size ∧ ¬ A (ad 900)
/-- the world of the pure memory in the heap -/
def WB (D : va_G) (A : Nat → Prop) (s : State) (N : Nat) (ad : Nat → Nat) (cy : Nat → ClassId) (im : TI) (rm : TP) (lm : TL) (H : Heap) (locs : List Loc) : Prop :=
  va_P D vwCl (wd ad cy N im rm lm) H ∧ va_D A (wd ad cy N im rm lm) ∧ va_S A s.heap H locs ∧ KA s cy N
def LH (ad : Nat → Nat) (ls : Array Slot) (n : Nat) (L : List (Option Value)) : Prop := ls.size = n ∧ lv_wf ls ∧ ∀ (i : Nat) (v : Value), L[i]? = some (some v) → ls[i]? = some (Slot.val (tr ad v))
/-- a return: its instruction, its value -/
def rok (ret : Option FieldType) (i : Instr) (v : Option Value) : Prop :=
  (i = .return_ ∧ ret = none ∧ v = none) ∨ (i = .ireturn ∧ ∃ x ty, ret = some ty ∧ v = some (.int x) ∧ narrow ty (.int x) = .int x) ∨ (i = .areturn ∧ ∃ C o, ret = some (.object C) ∧ v = some (pv o)) ∨ (i = .lreturn ∧ ∃ x, ret = some .long ∧ v = some (.long x)) ∨ (i = .dreturn ∧ ∃ x, ret = some .double ∧ v = some (.double x))
/-- a place that throws: new E; dup; ldc text; <init>; athrow -/
def thr (mt : MT) (pc : Nat) (E : String) : Prop := ∃ (ik is ic : Nat) (text : String), (mt.1.cls, is, text) ∈ strL ∧ Cond.classLink mt.1.cls ik E ∈ wsAll ∧ Cond.initialized E ∈ wsAll ∧ (mt.1.cls = "TideMills" ∧ ((E = xcI ∧ ic = 95) ∨ (E = xcA ∧ ic = 171) ∨ (E = xcS ∧ ic = 158))) ∧
  decode mt.2.1 pc = .ok (.new ik, 3) ∧ decode mt.2.1 (pc + 3) = .ok (.dup, 1) ∧
  ((decode mt.2.1 (pc + 4) = .ok (.ldc is, 2) ∧ decode mt.2.1 (pc + 6) = .ok (.invokespecial ic, 3) ∧ decode mt.2.1 (pc + 9) = .ok (.athrow, 1)) ∨ (decode mt.2.1 (pc + 4) = .ok (.ldc_w is, 3) ∧ decode mt.2.1 (pc + 7) = .ok (.invokespecial ic, 3) ∧ decode mt.2.1 (pc + 10) = .ok (.athrow, 1)))
def PW (l : Launch) (mt : MT) (d mc ms N pc : Nat) (L : List (Option Value)) (st : List Value) (im : TI) (rm : TP) (lm : TL) (Q : TQ) (X : TX) : Prop :=
  ∀ (p : Program) (e : Env) (s : State) (m : MethodId) (args : Array Value) (below : List Frame) (meth : Method) (c : Code) (D : va_G) (A : Nat → Prop) (ad : Nat → Nat) (cy : Nat → ClassId) (MC MS : Nat) (Z : State → Prop) (H : Heap) (locs : List Loc) (cells slots : Nat) (ls : Array Slot),
  FR l mt p s m args meth c D A ad → WB D A s N ad cy im rm lm H locs → LH ad ls mt.2.2.1 L → cells + mc ≤ MC → slots + ms ≤ MS →
  (∀ (v : Option Value) (N' : Nat) (im' : TI) (rm' : TP) (lm' : TL) (ad' : Nat → Nat) (cy' : Nat → ClassId) (H' : Heap) (locs' : List Loc) (cells' slots' : Nat) (ls' : Array Slot) (pc' : Nat) (i : Instr), Q N' v im' rm' lm' → ext N ad cy N' ad' cy' → WB D A s N' ad' cy' im' rm' lm' H' locs' → cells' ≤ MC → slots' ≤ MS →
    decode mt.2.1 pc' = .ok (i, 1) → rok mt.2.2.2.1 i v → W p l e (rmd d MC MS) s m args below meth c H' locs' cells' slots' Z (F0 m pc' ls' (v.map (tr ad')).toList)) →
  (∀ (E : String) (im' : TI) (rm' : TP) (lm' : TL) (H' : Heap) (locs' : List Loc) (cells' slots' : Nat) (ls' : Array Slot) (pc' : Nat) (rest : List Value), X E im' rm' lm' → WB D A s N ad cy im' rm' lm' H' locs' → 8 ≤ d →
    ((cells' + 1 ≤ MC → slots' + 6 ≤ MS → thr mt pc' E → ls'.size = mt.2.2.1 → (rest.map fun v => v.category).sum ≤ 8 → W p l e (rmd d MC MS) s m args below meth c H' locs' cells' slots' Z (F0 m pc' ls' rest)) ∧
     (∀ (ce : Cell) (q : Addr), cells' ≤ MC → slots' ≤ MS → H'[q]? = some ce → ce.vm = .none → s.vm.findClass E = some ce.cls → vx_W p l e (rmd d MC MS) s m args below meth c H' locs' cells' slots' Z (F0 m pc' ls' rest) q))) →
  W p l e (rmd d MC MS) s m args below meth c H locs cells slots Z (F0 m pc ls (st.map (tr ad)))
theorem PW.mono {l : Launch} {mt : MT} {d mc ms N pc : Nat} {L : List (Option Value)} {st : List Value} {im : TI} {rm : TP} {lm : TL} {Q Q' : TQ} {X X' : TX} (h : PW l mt d mc ms N pc L st im rm lm Q X) (hQ : ∀ N v a b c, Q N v a b c → Q' N v a b c) (hX : ∀ E a b c, X E a b c → X' E a b c) : PW l mt d mc ms N pc L st im rm lm Q' X' :=
  fun p e s m args below meth c D A ad cy MC MS Z H locs cells slots ls hF hW hL hc hs hR hT => h p e s m args below meth c D A ad cy MC MS Z H locs cells slots ls hF hW hL hc hs
    (fun v N' im' rm' lm' ad' cy' H' locs' cells' slots' ls' pc' i q => hR v N' im' rm' lm' ad' cy' H' locs' cells' slots' ls' pc' i (hQ _ _ _ _ _ q))
    (fun E im' rm' lm' H' locs' cells' slots' ls' pc' rest x => hT E im' rm' lm' H' locs' cells' slots' ls' pc' rest (hX _ _ _ _ x))
/-- fewer locals -/
theorem PW.less {l : Launch} {mt : MT} {d mc ms N pc : Nat} {L L' : List (Option Value)} {st : List Value} {im : TI} {rm : TP} {lm : TL} {Q : TQ} {X : TX} (hL : ∀ (i : Nat) (v : Value), L'[i]? = some (some v) → L[i]? = some (some v)) (h : PW l mt d mc ms N pc L' st im rm lm Q X) : PW l mt d mc ms N pc L st im rm lm Q X :=
  fun p e s m args below meth c D A ad cy MC MS Z H locs cells slots ls hF hW hLL hc hs hR hT => h p e s m args below meth c D A ad cy MC MS Z H locs cells slots ls hF hW ⟨hLL.1, hLL.2.1, fun i v q => hLL.2.2 i v (hL i v q)⟩ hc hs hR hT

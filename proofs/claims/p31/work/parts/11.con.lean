/-! Contracts over the pure memory, and calls -/
def cw (mt : MT) : Cond := match mt.2.2.2.2.1 with
  | some (x :: r) => .codeWith mt.1 mt.2.1 mt.2.2.1 mt.2.2.2.1 (x :: r)
  | _ => .code mt.1 mt.2.1 mt.2.2.1 mt.2.2.2.1
def CP (D : va_G) (ad : Nat → Nat) (cy : Nat → ClassId) (sz N : Nat) (im : TI) (rm : TP) (lm : TL) : State → Prop := fun U =>
  U.heap.size = sz ∧ va_P D vwCl (wd ad cy N im rm lm) U.heap ∧ va_D (fun _ => True) (wd ad cy N im rm lm) ∧ KA U cy N ∧ va_K D vwCl [] U ∧ EX (va_A (wd ad cy N im rm lm) sz) U U.heap ∧ SX U
def CQ (D : va_G) (ad : Nat → Nat) (cy : Nat → ClassId) (sz N : Nat) (im : TI) (rm : TP) (lm : TL) (Q : TQ) : Array Value → State → Outcome → State → Prop := fun _ st oc t =>
  (∃ (v : Option Value) (N' : Nat) (ad' : Nat → Nat) (cy' : Nat → ClassId) (im' : TI) (rm' : TP) (lm' : TL), oc = .returned (v.map (tr ad')) ∧ Q N' v im' rm' lm' ∧ ext N ad cy N' ad' cy' ∧ va_P D vwCl (wd ad' cy' N' im' rm' lm') t.heap ∧ va_D (va_A (wd ad cy N im rm lm) sz) (wd ad' cy' N' im' rm' lm') ∧ KA t cy' N') ∧ va_F (va_A (wd ad cy N im rm lm) sz) st t
def CX (D : va_G) (ad : Nat → Nat) (cy : Nat → ClassId) (sz N : Nat) (im : TI) (rm : TP) (lm : TL) (X : TX) : String → State → State → Prop := fun E st t =>
  (∃ (im' : TI) (rm' : TP) (lm' : TL), X E im' rm' lm' ∧ va_P D vwCl (wd ad cy N im' rm' lm') t.heap ∧ va_D (va_A (wd ad cy N im rm lm) sz) (wd ad cy N im' rm' lm')) ∧ va_F (va_A (wd ad cy N im rm lm) sz) st t
/-- a method's contract -/
def Con (l : Launch) (mt : MT) (d mc ms N : Nat) (as : List Value) (im : TI) (rm : TP) (lm : TL) (Q : TQ) (X : TX) : Prop :=
  ∀ (D : va_G) (ad : Nat → Nat) (cy : Nat → ClassId) (sz : Nat), vx_Met l mt.1 (cw mt :: wsAll) (rmd d mc ms) (va_Pc (as.map (tr ad)) (CP D ad cy sz N im rm lm)) (CQ D ad cy sz N im rm lm Q) (CX D ad cy sz N im rm lm X) mc ms (va_A (wd ad cy N im rm lm) sz)
theorem wsAll_good {w : Cond} (h : w ∈ wsAll) : goodWord w = true := (List.mem_filter.mp h).2
theorem goodAll {w0 : Cond} (h0 : w0 ∈ wsAll) : GoodIn wsAll (w0 :: wsAll) := fun w hw => by
  have h : w ∈ wsAll := by
    rcases List.mem_cons.mp hw with e | e
    · rw [e]; exact h0
    · exact e
  exact ⟨h, good_of_word (wsAll_good h)⟩
theorem goodAll_app {w0 : Cond} {ys : List Cond} (h0 : w0 ∈ wsAll) (hy : ∀ w ∈ ys, w ∈ wsAll) : GoodIn wsAll (ys ++ (w0 :: wsAll)) := fun w hw => by
  rcases List.mem_append.mp hw with h | h
  · exact ⟨hy w h, good_of_word (wsAll_good (hy w h))⟩
  · exact goodAll h0 w h
theorem CP.blind {D : va_G} {ad : Nat → Nat} {cy : Nat → ClassId} {sz N : Nat} {im : TI} {rm : TP} {lm : TL} {av : List Value} : FrameBlind (va_Pc av (CP D ad cy sz N im rm lm)) := by
  intro a U g mk h
  obtain ⟨h0, h1, h2, h3, h4, h5, h6, h7⟩ := h
  exact ⟨h0, h1, h2, h3, KA.moved (u := U) (U := U.calling g mk a) (Vm.Alike.refl U.vm) h4, va_K.moved (u := U) (U := U.calling g mk a) (Vm.Alike.refl U.vm) h5, ⟨vx_Zq.moved (u := U) (U := U.calling g mk a) (Vm.Alike.refl U.vm) h6.1, vx_Zq.moved (u := U) (U := U.calling g mk a) (Vm.Alike.refl U.vm) h6.2⟩, SX.same (u := U) (U := U.calling g mk a) rfl h7⟩
/-- the start's locals -/
def en (as : List Value) : List (Option Value) := as.flatMap fun v => if v.category = 2 then [some v, none] else [some v]
theorem en_args (ad : Nat → Nat) : ∀ (as : List Value) (i0 i : Nat) (v : Value), (en as)[i]? = some (some v) → (i0 + i, tr ad v) ∈ lv_args i0 (as.map (tr ad)) := by
  intro as
  induction as with
  | nil => intro i0 i v h; simp [en] at h
  | cons a as ih =>
    intro i0 i v h
    show _ ∈ (i0, tr ad a) :: lv_args (if (tr ad a).category = 2 then i0 + 2 else i0 + 1) (as.map (tr ad))
    rw [tr_cat]
    have he : en (a :: as) = (if a.category = 2 then [some a, none] else [some a]) ++ en as := by simp [en]
    rw [he] at h
    by_cases hc : a.category = 2
    · rw [if_pos hc] at h ⊢
      match i, h with
      | 0, h => simp at h; subst h; exact List.mem_cons_self
      | 1, h => simp at h
      | i + 2, h =>
        have h' : (en as)[i]? = some (some v) := by simpa using h
        have := ih (i0 + 2) i v h'
        exact List.mem_cons_of_mem _ (by rw [show i0 + (i + 2) = i0 + 2 + i by omega]; exact this)
    · rw [if_neg hc] at h ⊢
      match i, h with
      | 0, h => simp at h; subst h; exact List.mem_cons_self
      | i + 1, h =>
        have h' : (en as)[i]? = some (some v) := by simpa using h
        have := ih (i0 + 1) i v h'
        exact List.mem_cons_of_mem _ (by rw [show i0 + (i + 1) = i0 + 1 + i by omega]; exact this)
theorem LH.entry {as : List Value} {ad : Nat → Nat} {n : Nat} (h : (lg_sl (as.map (tr ad))).length ≤ n) : LH ad ((lg_sl (as.map (tr ad)) ++ List.replicate (n - (lg_sl (as.map (tr ad))).length) Slot.unset).toArray) n (en as) := by
  obtain ⟨h1, h2, h3⟩ := lv_entry (as.map (tr ad)) h
  refine ⟨h1, h2, fun i v hv => ?_⟩
  have := h3 _ (en_args ad as 0 i v hv)
  simpa using this
theorem lg_sl_len (ad : Nat → Nat) (as : List Value) : (lg_sl (as.map (tr ad))).length = (en as).length := by
  induction as with
  | nil => rfl
  | cons a as ih =>
    simp only [lg_sl, en, List.map_cons, List.flatMap_cons, List.length_append] at ih ⊢
    rw [ih, tr_cat]
    by_cases h : a.category = 2 <;> simp [h]
theorem va_F.rest {D : va_G} {ad : Nat → Nat} {cy : Nat → ClassId} {N : Nat} {im : TI} {rm : TP} {lm : TL} {H t : Heap} (h : va_P D vwCl (wd ad cy N im rm lm) H) (hq : ∀ q : Nat, q < H.size → t[q]? = H[q]?) : va_P D vwCl (wd ad cy N im rm lm) t := fun k q hk => (h k q hk).kept (hq q.1 (h k q hk).lt)
def xnames : List String := ["java/lang/RuntimeException", "java/lang/Exception"]
theorem hat_I : ∀ w ∈ (vx_atS "TideMills" 95 xcI xnames).filter goodWord, w ∈ wsAll := by decide +kernel
theorem hat_A : ∀ w ∈ (vx_atS "TideMills" 171 xcA xnames).filter goodWord, w ∈ wsAll := by decide +kernel
theorem hat_S : ∀ w ∈ (vx_atS "TideMills" 158 xcS xnames).filter goodWord, w ∈ wsAll := by decide +kernel
theorem hbad_I : ∀ w ∈ (vx_atS "TideMills" 95 xcI xnames).filter (fun w => !goodWord w), w ∈ [Cond.castable xcI xcI, Cond.declares (Bundle.initS "java/lang/RuntimeException"), Cond.declares (Bundle.initS "java/lang/Exception"), Cond.declares (Bundle.initS Bundle.tN)] := by decide +kernel
theorem hbad_A : ∀ w ∈ (vx_atS "TideMills" 171 xcA xnames).filter (fun w => !goodWord w), w ∈ [Cond.castable xcA xcA, Cond.declares (Bundle.initS "java/lang/RuntimeException"), Cond.declares (Bundle.initS "java/lang/Exception"), Cond.declares (Bundle.initS Bundle.tN)] := by decide +kernel
theorem hbad_S : ∀ w ∈ (vx_atS "TideMills" 158 xcS xnames).filter (fun w => !goodWord w), w ∈ [Cond.castable xcS xcS, Cond.declares (Bundle.initS "java/lang/RuntimeException"), Cond.declares (Bundle.initS "java/lang/Exception"), Cond.declares (Bundle.initS Bundle.tN)] := by decide +kernel
theorem hot_I : ∀ w ∈ vx_atS "TideMills" 95 xcI xnames, vx_ot w = true := by decide +kernel
theorem hot_A : ∀ w ∈ vx_atS "TideMills" 171 xcA xnames, vx_ot w = true := by decide +kernel
theorem hot_S : ∀ w ∈ vx_atS "TideMills" 158 xcS xnames, vx_ot w = true := by decide +kernel
theorem thr_words {E : String} {ic : Nat} {args : Array Value} {s : State} (hi : (E = xcI ∧ ic = 95) ∨ (E = xcA ∧ ic = 171) ∨ (E = xcS ∧ ic = 158)) (hts : ∀ w ∈ wsAll, w.before args s = true) (hS : SX s) :
    (∀ w ∈ vx_atS "TideMills" ic E xnames, w.before args s = true) ∧ (∀ w ∈ vx_atS "TideMills" ic E xnames, vx_ot w = true) ∧ Bundle.fit E = true := by
  rcases hi with ⟨rfl, rfl⟩ | ⟨rfl, rfl⟩ | ⟨rfl, rfl⟩
  · exact ⟨vx_hat (fun w hw => hts w (hat_I w hw)) hbad_I (vx_c (va_Nw.use rfl (hS.2.1 xcI (by decide)).1) (vx_c (va_Nw.use rfl (hS.2.2.1 _ (by decide))) (vx_c (va_Nw.use rfl (hS.2.2.1 _ (by decide))) (vx_c (va_Nw.use rfl (hS.2.2.1 _ (by decide))) vx_n)))), hot_I, by decide +kernel⟩
  · exact ⟨vx_hat (fun w hw => hts w (hat_A w hw)) hbad_A (vx_c (va_Nw.use rfl (hS.2.1 xcA (by decide)).1) (vx_c (va_Nw.use rfl (hS.2.2.1 _ (by decide))) (vx_c (va_Nw.use rfl (hS.2.2.1 _ (by decide))) (vx_c (va_Nw.use rfl (hS.2.2.1 _ (by decide))) vx_n)))), hot_A, by decide +kernel⟩
  · exact ⟨vx_hat (fun w hw => hts w (hat_S w hw)) hbad_S (vx_c (va_Nw.use rfl (hS.2.1 xcS (by decide)).1) (vx_c (va_Nw.use rfl (hS.2.2.1 _ (by decide))) (vx_c (va_Nw.use rfl (hS.2.2.1 _ (by decide))) (vx_c (va_Nw.use rfl (hS.2.2.1 _ (by decide))) vx_n)))), hot_S, by decide +kernel⟩
theorem good_ot {w : Cond} (h : goodWord w = true) : vx_ot w = true := by unfold vx_ot; rw [h]; simp
/-- a return, at a contract's end -/
theorem ret_end {p : Program} {l : Launch} {e : Env} {s : State} {m : MethodId} {args : Array Value} {below : List Frame} {meth : Method} {c : Code} {H : Heap} {locs : List Loc} {cells slots mc ms : Nat} {R : Room} {Qc : Array Value → State → Outcome → State → Prop} {XC : String → State → State → Prop} {free : Addr → Prop} {cc : ByteArray} {ret : Option FieldType} {pc : Nat} {ls : Array Slot} {i : Instr} {v : Option Value} {ad : Nat → Nat}
    (hx : p.tables.exec = Jvm.exec) (hb : c.code = cc) (hr : meth.sig.returnType = ret) (hlocks : meth.locks = false) (hd : decode cc pc = .ok (i, 1)) (hv : rok ret i v) (hc : cells ≤ mc) (hs : slots ≤ ms)
    (hq : ∀ t : State, t.heap = H → s.WarmedH t.vm → Qc args s (.returned (v.map (tr ad))) t) (hf : ∀ q ∈ locs, free q.base) :
    W p l e R s m args below meth c H locs cells slots (vx_MQ below Qc XC args s mc ms free) (F0 m pc ls (v.map (tr ad)).toList) := by
  refine vx_ret (W.widen hc hs ?_)
  rcases hv with ⟨rfl, rfl, rfl⟩ | ⟨rfl, x, ty, rfl, rfl, hn⟩ | ⟨rfl, C, o, rfl, rfl⟩ | ⟨rfl, x, rfl, rfl⟩ | ⟨rfl, x, rfl, rfl⟩
  · exact W.vret hx hb hr hq hf hd hlocks
  · exact W.zret hx hb hr hn hq hf hd hlocks
  · exact W.aret (v := tr ad (pv o)) (rt := .object C) hx hb hr (Or.inl ⟨C, rfl⟩) (by cases o; exact Or.inl rfl; exact Or.inr ⟨_, rfl⟩) hq hf hd hlocks
  · exact W.lret hx hb hr hq hf hd hlocks
  · exact W.dret hx hb hr hq hf hd hlocks
section CON
variable {l : Launch} {mt : MT} {d mc ms N : Nat} {as : List Value} {im : TI} {rm : TP} {lm : TL} {Q : TQ} {X : TX}
/-- the two ends that a contract's body owes: over any frame of it -/
theorem con_body (hlt : l.stackTraces = false) (hscr : mt.2.2.2.2.2 = none) (hcls : (∃ E a b c, X E a b c) → mt.1.cls = "TideMills") (hlen : (en as).length ≤ mt.2.2.1) (K : PW l mt d mc ms N 0 (en as) [] im rm lm Q X) {D : va_G} {ad : Nat → Nat} {cy : Nat → ClassId} {sz : Nat}
    {p : Program} {e : Env} {s : State} {m : MethodId} {args : Array Value} {below : List Frame} {meth : Method} {c : Code}
    (hx : p.tables.exec = Jvm.exec) (hb : c.code = mt.2.1) (hml : c.maxLocals = mt.2.2.1) (hr : meth.sig.returnType = mt.2.2.2.1) (hown : s.vm.findClass mt.1.cls = some m.cls) (hts : ∀ w ∈ wsAll, w.before args s = true) (hlocks : meth.locks = false) (hnm : meth.name = mt.1.name)
    (htb : ∀ hh, mt.2.2.2.2.1 = some hh → c.exceptionTable.toList = tableOf hh) (htb2 : (∃ E a b c, X E a b c) → ∀ x ∈ c.exceptionTable.toList, False) (hP : va_Pc (as.map (tr ad)) (CP D ad cy sz N im rm lm) args s) :
    W p l e (rmd d mc ms) s m args below meth c s.heap [] 0 0 (vx_MQ below (CQ D ad cy sz N im rm lm Q) (CX D ad cy sz N im rm lm X) args s mc ms (va_A (wd ad cy N im rm lm) sz)) (entryFrame m args mt.2.2.1) := by
  obtain ⟨rfl, hsz, hP, hD, hKA, hK, hEX, hSX⟩ := hP
  subst hsz
  rw [lg_entry_eq]
  have hA : ∀ q : Nat, s.heap.size ≤ q → va_A (wd ad cy N im rm lm) s.heap.size q := fun q h => Or.inr h
  have hD' : va_D (va_A (wd ad cy N im rm lm) s.heap.size) (wd ad cy N im rm lm) := hD.self
  have hF : FR l mt p s m (as.map (tr ad)).toArray meth c D (va_A (wd ad cy N im rm lm) s.heap.size) ad :=
    ⟨hx, hb, hml, hr, hown, hts, hlocks, fun h => hnm.trans h, hK, hA, hEX, hSX, hlt, htb, fun Lx xs h => by rw [hscr] at h; cases h⟩
  have hL := LH.entry (as := as) (ad := ad) (n := mt.2.2.1) (by rw [lg_sl_len]; exact hlen)
  refine K p e s m _ below meth c D _ ad cy mc ms _ s.heap [] 0 0 _ hF ⟨hP, hD', va_S.rf, hKA⟩ hL (by omega) (by omega) ?_ ?_
  · intro v N' im' rm' lm' ad' cy' H' locs' cells' slots' ls' pc' i hq hext hW' hc' hs' hd hv
    refine ret_end (ad := ad') hx hb hr hlocks hd hv hc' hs' (fun t ht hWt => ?_) hW'.2.2.1.2.2
    refine ⟨⟨v, N', ad', cy', im', rm', lm', rfl, hq, hext, by rw [ht]; exact hW'.1, hW'.2.1, KA.moved hWt.alike hW'.2.2.2⟩, hW'.2.2.1.F ht⟩
  · intro E im' rm' lm' H' locs' cells' slots' ls' pc' rest hX hW' h8
    have hcl := hcls ⟨E, im', rm', lm', hX⟩
    have hno := htb2 ⟨E, im', rm', lm', hX⟩
    have hxc : ∀ t : State, s.vm.Alike t.vm → H'.size ≤ t.heap.size → (∀ q : Nat, q < H'.size → t.heap[q]? = H'[q]?) → CX D ad cy s.heap.size N im rm lm X E s t := fun t _ h1 h2 =>
      ⟨⟨im', rm', lm', hX, va_F.rest hW'.1 h2, hW'.2.1⟩, Nat.le_trans hW'.2.2.1.1 h1, fun q hq hn => by rw [h2 q (Nat.lt_of_lt_of_le hq hW'.2.2.1.1)]; exact hW'.2.2.1.2.1 q hq hn⟩
    refine ⟨fun hc' hs' hthr hls hrest => ?_, fun ce q hc' hs' hcell hvm hfc => ?_⟩
    · obtain ⟨ik, is, ic, text, hstr, hk, hini, ⟨-, hic⟩, d0, d3, hd⟩ := hthr
      obtain ⟨hw1, hw2, hfit⟩ := thr_words hic hts hSX
      obtain ⟨sa, hsa⟩ := hSX.1 _ hstr
      have hgood : ∀ w ∈ Cond.classLink mt.1.cls ik E :: Cond.initialized E :: vx_atS mt.1.cls ic E xnames, vx_ot w = true := by
        intro w hw
        rcases List.mem_cons.mp hw with h | hw
        · rw [h]; exact good_ot (wsAll_good hk)
        rcases List.mem_cons.mp hw with h | hw
        · rw [h]; exact good_ot (wsAll_good hini)
        · rw [hcl] at hw; exact hw2 w hw
      have hat : ∀ w ∈ vx_atS mt.1.cls ic E xnames, w.before (as.map (tr ad)).toArray s = true := by rw [hcl]; exact hw1
      rcases hd with ⟨d4, d6, d9⟩ | ⟨d4, d7, d10⟩
      · refine vx_throwS (own := mt.1.cls) (names := xnames) hx hb hlt hown hfit (by decide +kernel) (hts _ hk) (hts _ hini) hsa hat hgood hEX.1 hEX.2 hW'.2.2.1 (hls.trans hml.symm) d0 d3 d4 d6 d9 (fun x hx => (hno x hx).elim) ?_ ?_ hc' hs' hlocks hxc hW'.2.2.1.2.2 hc' hs'
        · show 2 + 3 < d; omega
        · show _ + (13 * (2 + 1) + 43) ≤ 36 * d + 28; omega
      · refine vx_throwSW (own := mt.1.cls) (names := xnames) hx hb hlt hown hfit (by decide +kernel) (hts _ hk) (hts _ hini) hsa hat hgood hEX.1 hEX.2 hW'.2.2.1 (hls.trans hml.symm) d0 d3 d4 d7 d10 (fun x hx => (hno x hx).elim) ?_ ?_ hc' hs' hlocks hxc hW'.2.2.1.2.2 hc' hs'
        · show 2 + 3 < d; omega
        · show _ + (13 * (2 + 1) + 43) ≤ 36 * d + 28; omega
    · exact vx_out (fun x hx => (hno x hx).elim) hlocks hcell hvm hfc (fun t ht hal => hxc t hal (by rw [ht]; exact Nat.le_refl _) (fun q _ => by rw [ht])) hW'.2.2.1.2.2 hc' hs'
/-- a method without handlers -/
theorem Con.of (hlt : l.stackTraces = false) (hy : plainName mt.1.cls = true) (hh : mt.2.2.2.2.1 = some []) (hscr : mt.2.2.2.2.2 = none) (hcls : (∃ E a b c, X E a b c) → mt.1.cls = "TideMills") (hlen : (en as).length ≤ mt.2.2.1) (K : PW l mt d mc ms N 0 (en as) [] im rm lm Q X) : Con l mt d mc ms N as im rm lm Q X := by
  intro D ad cy sz
  have hcw : cw mt = .code mt.1 mt.2.1 mt.2.2.1 mt.2.2.2.1 := by unfold cw; rw [hh]
  refine vx_ofW (cc := mt.2.1) (maxL := mt.2.2.1) (ret := mt.2.2.2.1) hy (by rw [hcw]) ?_
  intro p e s m args below meth c s₁ B hml htb hP
  have hts := atoms_spec (ws := cw mt :: wsAll) B.pre
  have htb' : c.exceptionTable.toList = [] := List.eq_nil_iff_forall_not_mem.mpr fun x hx => htb x hx
  exact con_body hlt hscr hcls hlen K B.exec B.bytes hml B.returns (findClass_of_methodNamed B.named) (fun w hw => hts w (List.mem_cons_of_mem _ hw)) B.notSynchronized (name_of_methodNamed B.named B.method).1 (fun h e => by rw [hh] at e; cases e; rw [htb']; rfl) (fun _ x hx => htb x hx) hP
/-- a method with handlers, that throws nothing -/
theorem Con.ofH {x : Nat × Nat × Nat × Nat} {r : List (Nat × Nat × Nat × Nat)} (hlt : l.stackTraces = false) (hy : plainName mt.1.cls = true) (hh : mt.2.2.2.2.1 = some (x :: r)) (hscr : mt.2.2.2.2.2 = none) (hX : ∀ E a b c, ¬ X E a b c) (hlen : (en as).length ≤ mt.2.2.1) (K : PW l mt d mc ms N 0 (en as) [] im rm lm Q X) : Con l mt d mc ms N as im rm lm Q X := by
  intro D ad cy sz
  have hcw : cw mt = .codeWith mt.1 mt.2.1 mt.2.2.1 mt.2.2.2.1 (x :: r) := by unfold cw; rw [hh]
  refine vx_ofWH (cc := mt.2.1) (maxL := mt.2.2.1) (ret := mt.2.2.2.1) (hh := x :: r) hy (by rw [hcw]) ?_
  intro p e s m args below meth c s₁ B hml hP
  have hts := atoms_spec (ws := cw mt :: wsAll) B.pre
  have htb : c.exceptionTable.toList = tableOf (x :: r) := vx_table (x := mt.1) (y := mt.1) (bytes := mt.2.1) (maxL' := mt.2.2.1) (ret' := mt.2.2.2.1) B (by rw [← hcw]; exact hts _ List.mem_cons_self)
  exact con_body hlt hscr (fun ⟨E, a, b, q, h⟩ => (hX E a b q h).elim) hlen K B.exec B.bytes hml B.returns (findClass_of_methodNamed B.named) (fun w hw => hts w (List.mem_cons_of_mem _ hw)) B.notSynchronized (name_of_methodNamed B.named B.method).1 (fun h e => by rw [hh] at e; cases e; exact htb) (fun ⟨E, a, b, q, h⟩ => (hX E a b q h).elim) hP
end CON

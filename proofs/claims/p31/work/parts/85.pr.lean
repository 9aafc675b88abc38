/-! What the law wants beside: shifts, its own arrays, a wider world, the script's cells -/
section PRL
variable {l : Launch} {mt y : MT} {d dc mc ms mcc msc N pc i : Nat} {L : List (Option Value)} {st as rest : List Value} {im : TI} {rm : TP} {lm : TL} {Q Qc : TQ} {X Xc : TX}
theorem pw_ior {x y : Int32} (hd : decode mt.2.1 pc = .ok (.ior, 1)) (k : PW l mt d mc ms N (pc + 1) L (.int (x ||| y) :: st) im rm lm Q X) : PW l mt d mc ms N pc L (.int y :: .int x :: st) im rm lm Q X := by
  intro p e s m args below meth c D A ad cy MC MS Z H locs cells slots ls hF hW hL hc hs hR hT
  exact lv_ior hF.1 hF.2.1 hd (k p e s m args below meth c D A ad cy MC MS Z H locs cells slots ls hF hW hL hc hs hR hT)
theorem pw_ishl {x y : Int32} (hd : decode mt.2.1 pc = .ok (.ishl, 1)) (k : PW l mt d mc ms N (pc + 1) L (.int (x <<< (y &&& 31)) :: st) im rm lm Q X) : PW l mt d mc ms N pc L (.int y :: .int x :: st) im rm lm Q X := by
  intro p e s m args below meth c D A ad cy MC MS Z H locs cells slots ls hF hW hL hc hs hR hT
  exact lv_ishl hF.1 hF.2.1 hd (k p e s m args below meth c D A ad cy MC MS Z H locs cells slots ls hF hW hL hc hs hR hT)
theorem pw_ishr {x y : Int32} (hd : decode mt.2.1 pc = .ok (.ishr, 1)) (k : PW l mt d mc ms N (pc + 1) L (.int (x >>> (y &&& 31)) :: st) im rm lm Q X) : PW l mt d mc ms N pc L (.int y :: .int x :: st) im rm lm Q X := by
  intro p e s m args below meth c D A ad cy MC MS Z H locs cells slots ls hF hW hL hc hs hR hT
  exact lv_ishr hF.1 hF.2.1 hd (k p e s m args below meth c D A ad cy MC MS Z H locs cells slots ls hF hW hL hc hs hR hT)
theorem ent_a9 {ad : Nat → Nat} {cy : Nat → ClassId} {k : Nat} (hN : k < N) (hk : kd k = 9) : (wd ad cy N im rm lm)[k]? = some (ad k, .inl (cy k, al k, .inl (im k))) := by
  rw [wd_get hN, hk, ent_9]
theorem pw_iald9 {i : Int32} {k : Nat} (hd : decode mt.2.1 pc = .ok (.iaload, 1)) (hk : kd k = 9) (hN : k < N) (hin : vp_in i (al k)) (K : PW l mt d mc ms N (pc + 1) L (.int (im k i.toNatClampNeg) :: st) im rm lm Q X) : PW l mt d mc ms N pc L (.int i :: pv (some k) :: st) im rm lm Q X := by
  intro p e s m args below meth c D A ad cy MC MS Z H locs cells slots ls hF hW hL hc hs hR hT
  have ha := hW.2.2.2 k hN (by omega)
  rw [hk] at ha
  exact va_iald hF.1 hF.2.1 (va_K_nil hF.2.2.2.2.2.2.2.2.1 ha.1 ha.2) hW.1 k 0 (ent_a9 hN hk) rfl hin hd (K p e s m args below meth c D A ad cy MC MS Z H locs cells slots ls hF hW hL hc hs hR hT)
theorem pw_iast9 {i x : Int32} {k : Nat} (hd : decode mt.2.1 pc = .ok (.iastore, 1)) (hk : kd k = 9) (hN : k < N) (hin : vp_in i (al k)) (K : PW l mt d mc ms N (pc + 1) L st (ui im k i.toNatClampNeg x) rm lm Q X) : PW l mt d mc ms N pc L (.int x :: .int i :: pv (some k) :: st) im rm lm Q X := by
  intro p e s m args below meth c D A ad cy MC MS Z H locs cells slots ls hF hW hL hc hs hR hT
  have ha := hW.2.2.2 k hN (by omega)
  rw [hk] at ha
  refine va_iast hF.1 hF.2.1 (va_K_nil hF.2.2.2.2.2.2.2.2.1 ha.1 ha.2) hW.1 hW.2.1 hW.2.2.1 k 0 (ent_a9 hN hk) rfl hin hd fun H1 locs1 a1 a2 a3 => ?_
  rw [wd_ai9 hN hk] at a1 a2
  exact K p e s m args below meth c D A ad cy MC MS Z H1 locs1 cells slots ls hF ⟨a1, a2, a3, hW.2.2.2⟩ hL hc hs hR hT
theorem wd_at {ad : Nat → Nat} {cy : Nat → ClassId} {k : Nat} {q : Nat × va_E} (h : (wd ad cy N im rm lm)[k]? = some q) : k < N ∧ q = (ad k, ent ad (cy k) (kd k) (al k) (im k) (rm k) (lm k)) := by
  by_cases e : k < N
  · rw [wd_get e] at h
    exact ⟨e, (Option.some.inj h).symm⟩
  · rw [List.getElem?_eq_none (by simpa [wd] using Nat.le_of_not_lt e)] at h
    cases h
theorem wd_down {ad : Nat → Nat} {cy : Nat → ClassId} {N0 k : Nat} {q : Nat × va_E} (hN : N0 ≤ N) (h : (wd ad cy N0 im rm lm)[k]? = some q) : (wd ad cy N im rm lm)[k]? = some q := by
  obtain ⟨a, rfl⟩ := wd_at h
  exact wd_get (Nat.lt_of_lt_of_le a hN)
/-- a contract of the finished world, in a wider one -/
theorem Con.grow (hN : NN ≤ N) (h : Con l y d mc ms NN as im rm lm Q noX) (hQ : ∀ N' v i r q, Q N' v i r q → N' = NN ∧ ∀ k, NN ≤ k → i k = im k ∧ r k = rm k ∧ q k = lm k) : Con l y d mc ms N as im rm lm (fun N' v i r q => N' = N ∧ Q NN v i r q) noX := by
  intro D ad cy sz p e hadm hcas hclk s m args below hf happ hP hrest
  have hA : ∀ q, va_A (wd ad cy NN im rm lm) sz q → va_A (wd ad cy N im rm lm) sz q := fun q hq => hq.elim (fun ⟨k, x, hk⟩ => Or.inl ⟨k, x, wd_down hN hk⟩) Or.inr
  obtain ⟨ha, hsz, hP1, hD1, hKA, hK, hEX, hSX⟩ := hP
  obtain ⟨k, o, h1, h2, h3, h4⟩ := h D ad cy sz p e hadm hcas hclk s m args below hf happ ⟨ha, hsz, fun k q hk => hP1 k q (wd_down hN hk), ⟨fun i j p q hi hj => hD1.1 i j p q (wd_down hN hi) (wd_down hN hj), fun _ _ _ => trivial⟩, fun k hk => hKA k (Nat.lt_of_lt_of_le hk hN), hK, ⟨hEX.1.narrow hA, hEX.2.narrow hA⟩, hSX⟩ hrest
  refine ⟨k, o, h1, h2, h3, ?_⟩
  rcases h4 with ⟨⟨⟨v, N', ad', cy', im', rm', lm', e1, e2, e3, e4, e5, e6⟩, e7⟩, Lc, e8, e9⟩ | ⟨q, e1, E, ce, Lx, ⟨⟨_, _, _, z, _⟩, _⟩, _⟩
  · obtain ⟨rfl, hrow⟩ := hQ _ _ _ _ _ e2
    obtain ⟨ea, ec⟩ := e3.eq
    rw [ea] at e1
    rw [ea, ec] at e4
    rw [ec] at e6
    refine Or.inl ⟨⟨⟨v, N, ad, cy, im', rm', lm', e1, ⟨rfl, e2⟩, ext.rf, ?_, ?_, ?_⟩, e7.1, fun q hq hn => e7.2 q hq (fun z => hn (hA q z))⟩, Lc, e8, fun q hq => hA _ (e9 q hq)⟩
    · intro k q hk
      obtain ⟨hk1, rfl⟩ := wd_at hk
      by_cases hk2 : k < NN
      · exact e4 k _ (wd_get hk2)
      · have row := hrow k (Nat.le_of_not_lt hk2)
        rw [row.1, row.2.1, row.2.2]
        have hat := hP1 k _ (wd_get hk1)
        refine hat.kept (e7.2 (ad k) hat.lt ?_)
        rintro (⟨j, x, hj⟩ | hge)
        · obtain ⟨hj1, hj2⟩ := wd_at hj
          have := hD1.1 j k _ _ (wd_down hN hj) (wd_get hk1) rfl
          omega
        · have := hat.lt
          rw [hsz] at this
          exact absurd hge (Nat.not_le.mpr this)
    · refine ⟨fun i j p q hi hj he => ?_, fun k q hk => ?_⟩
      · obtain ⟨a1, rfl⟩ := wd_at hi
        obtain ⟨b1, rfl⟩ := wd_at hj
        exact hD1.1 i j _ _ (wd_get a1) (wd_get b1) he
      · obtain ⟨a1, rfl⟩ := wd_at hk
        exact Or.inl ⟨k, _, wd_get a1⟩
    · intro k hk h6
      by_cases hk2 : k < NN
      · exact e6 k hk2 h6
      · exact (KA.moved e8.2.1.alike hKA) k hk h6
  · exact z.elim
/-- row 80 as far as it reaches -/
def nrm (r : TP) : TP := fun k j => if k = 80 ∧ 6 ≤ j then none else r k j
theorem nrm_ne {r : TP} {k : Nat} (h : k ≠ 80) : nrm r k = r k := funext fun j => if_neg fun z => h z.1
theorem nrm_lt {r : TP} {k j : Nat} (h : j < 6) : nrm r k j = r k j := if_neg fun z => absurd z.2 (Nat.not_le.mpr h)
theorem sv_cg {ad ad' : Nat → Nat} {c j : Nat} {f : Nat → Int32} {g : Nat → Option Nat} {h : Nat → Int64} (hg : (g j).map ad' = (g j).map ad) : sv ad' c f g h j = sv ad c f g h j := by
  unfold sv rf
  rw [hg]
theorem ent_cg {ad ad' : Nat → Nat} {cc : ClassId} {c n : Nat} {f : Nat → Int32} {g : Nat → Option Nat} {h : Nat → Int64} (hg : ∀ j, (g j).map ad' = (g j).map ad) : ent ad' cc c n f g h = ent ad cc c n f g h := by
  unfold ent
  split
  · rw [List.map_congr_left fun j _ => sv_cg (hg j)]
  · split
    · rfl
    · split
      · rw [show (fun j => (g j).map ad') = fun j => (g j).map ad from funext hg]
      · rfl
theorem arr_cg {cc : ClassId} {n : Nat} {f g : Nat → Value} (h : ∀ j, j < n → f j = g j) : arrV cc n f = arrV cc n g := by
  unfold arrV
  congr 1
  exact congrArg _ (funext fun j => h j.val j.isLt)
/-- the entries of two worlds, as far as no reference goes above -/
theorem at_cg {D : va_G} {ad ad' : Nat → Nat} {cc : ClassId} {k : Nat} {f : Nat → Int32} {h : Nat → Int64} {r : TP} {H : Heap} (hr : ∀ k, k ≠ 80 → ∀ j o, r k j = some o → o < NN) (h8 : ∀ j, j < 6 → ∀ o, r 80 j = some o → o < NN) (he : ∀ o, o < NN → ad' o = ad o)
    (g : va_at D vwCl (ad k, ent ad' cc (kd k) (al k) f (r k) h) H) : va_at D vwCl (ad k, ent ad cc (kd k) (al k) f (nrm r k) h) H := by
  by_cases e : k = 80
  · subst e
    rw [kd80, al80, ent_r] at g ⊢
    show H[ad 80]? = some (vp_cell cc (6, _))
    have g' : H[ad 80]? = some (vp_cell cc (6, .inr (.inr (.inr (.inr fun j => (r 80 j).map ad'))))) := g
    rw [g', vp_cell_q, vp_cell_q]
    congr 1
    refine arr_cg fun j hj => ?_
    rw [nrm_lt hj]
    congr 1
    cases ho : r 80 j with
    | none => rfl
    | some o => exact congrArg some (he o (h8 j hj o ho))
  · rw [nrm_ne e]
    rw [ent_cg (ad := ad) (ad' := ad')] at g
    · exact g
    · intro j
      cases ho : r k j with
      | none => rfl
      | some o => exact congrArg some (he o (hr k e j o ho))
theorem PW.nrm (hr : ∀ k, k ≠ 80 → ∀ j o, rm k j = some o → o < NN) (h8 : ∀ j, j < 6 → ∀ o, rm 80 j = some o → o < NN) (K : PW l mt d mc ms NN pc L st im (nrm rm) lm Q X) : PW l mt d mc ms NN pc L st im rm lm Q X := by
  intro p e s m args below meth c D A ad cy MC MS Z H locs cells slots ls hF hW hL hc hs hR hT
  refine K p e s m args below meth c D A ad cy MC MS Z H locs cells slots ls hF ⟨fun k q hk => ?_, ⟨fun i j p q hi hj he => ?_, fun k q hk => ?_⟩, hW.2.2.1, hW.2.2.2⟩ hL hc hs hR hT
  · obtain ⟨a1, rfl⟩ := wd_at hk
    exact at_cg hr h8 (fun _ _ => rfl) (hW.1 k _ (wd_get a1))
  · obtain ⟨a1, rfl⟩ := wd_at hi
    obtain ⟨b1, rfl⟩ := wd_at hj
    exact hW.2.1.1 i j _ _ (wd_get a1) (wd_get b1) he
  · obtain ⟨a1, rfl⟩ := wd_at hk
    have g := hW.2.1.2 k (ad k, ent ad (cy k) (kd k) (al k) (im k) (rm k) (lm k)) (wd_get a1)
    exact g
def cutI (i : TI) : TI := fun k => if k < NN then i k else fun _ => 0
def cutR (r : TP) : TP := fun k => if k < NN then nrm r k else fun _ => none
/-- what was made beside the finished world is forgotten -/
theorem Con.shrink (h : Con l y d mc ms NN as im rm lm Q noX) (hQ : ∀ N' v i r q, Q N' v i r q → NN ≤ N' ∧ (∃ x, v = some (.int x)) ∧ (∀ k, k ≠ 80 → ∀ j o, r k j = some o → o < NN) ∧ (∀ j, j < 6 → ∀ o, r 80 j = some o → o < NN) ∧ Qc NN v (cutI i) (cutR r) q) : Con l y d mc ms NN as im rm lm Qc noX := by
  intro D ad cy sz p e hadm hcas hclk s m args below hf happ hP hrest
  obtain ⟨k, o, h1, h2, h3, h4⟩ := h D ad cy sz p e hadm hcas hclk s m args below hf happ hP hrest
  refine ⟨k, o, h1, h2, h3, ?_⟩
  rcases h4 with ⟨⟨⟨v, N', ad', cy', im', rm', lm', e1, e2, e3, e4, e5, e6⟩, e7⟩, Lc, e8, e9⟩ | ⟨q, e1, E, ce, Lx, ⟨⟨_, _, _, z, _⟩, _⟩, _⟩
  · obtain ⟨hN, ⟨x, rfl⟩, hr, h8, hq⟩ := hQ _ _ _ _ _ e2
    have had : ∀ o, o < NN → ad' o = ad o := fun o ho => (e3.2 o (Or.inl ho)).1
    have hcy : ∀ o, o < NN → cy' o = cy o := fun o ho => (e3.2 o (Or.inl ho)).2
    refine Or.inl ⟨⟨⟨some (.int x), NN, ad, cy, cutI im', cutR rm', lm', e1, hq, ext.rf, ?_, ?_, ?_⟩, e7⟩, Lc, e8, e9⟩
    · intro k q hk
      obtain ⟨a1, rfl⟩ := wd_at hk
      have g := e4 k _ (wd_get (Nat.lt_of_lt_of_le a1 hN))
      rw [had k a1, hcy k a1] at g
      rw [show cutI im' k = im' k from if_pos a1, show cutR rm' k = nrm rm' k from if_pos a1]
      exact at_cg hr h8 had g
    · refine ⟨fun i j p q hi hj he => ?_, fun k q hk => ?_⟩
      · obtain ⟨a1, rfl⟩ := wd_at hi
        obtain ⟨b1, rfl⟩ := wd_at hj
        exact hP.2.2.2.1.1 i j _ _ (wd_get a1) (wd_get b1) he
      · obtain ⟨a1, rfl⟩ := wd_at hk
        exact Or.inl ⟨k, _, wd_get a1⟩
    · intro k hk h6
      have := e6 k (Nat.lt_of_lt_of_le hk hN) h6
      rw [hcy k hk] at this
      exact this
  · exact z.elim
end PRL
/-! The script's cells, read by a helper -/
abbrev m_L_law (Lx : Nat) (xs : Nat → Int32) : MT := (yL_law, cL_law, 3, some .boolean, none, some (Lx, xs))
abbrev m_S_cell (Lx : Nat) (xs : Nat → Int32) : MT := (yL_cell, cL_cell, 2, some .int, some [], some (Lx, xs))
def CPs (D : va_G) (ad : Nat → Nat) (cy : Nat → ClassId) (sz N : Nat) (im : TI) (rm : TP) (lm : TL) (Lx : Nat) (xs : Nat → Int32) : State → Prop := fun U => CP D ad cy sz N im rm lm U ∧ va_X (ad 900) Lx xs U U.heap ∧ ad 900 < U.heap.size ∧ ¬ va_A (wd ad cy N im rm lm) sz (ad 900)
theorem CPs.blind {D : va_G} {ad : Nat → Nat} {cy : Nat → ClassId} {sz N : Nat} {im : TI} {rm : TP} {lm : TL} {Lx : Nat} {xs : Nat → Int32} {av : List Value} : FrameBlind (va_Pc av (CPs D ad cy sz N im rm lm Lx xs)) := by
  intro a U g mk h
  obtain ⟨h0, h1, h2, h3, h4⟩ := h
  exact ⟨h0, (CP.blind (av := av) a U g mk ⟨h0, h1⟩).2, va_X.moved (u := U) (U := U.calling g mk a) (Vm.Alike.refl U.vm) h2, h3, h4⟩
def ConS (l : Launch) (mt : MT) (d N : Nat) (as : List Value) (im : TI) (rm : TP) (lm : TL) (Lx : Nat) (xs : Nat → Int32) (Q : TQ) : Prop :=
  ∀ (D : va_G) (ad : Nat → Nat) (cy : Nat → ClassId) (sz : Nat), vx_Met l mt.1 (cw mt :: wsAll) (rmd d 0 0) (va_Pc (as.map (tr ad)) (CPs D ad cy sz N im rm lm Lx xs)) (CQ D ad cy sz N im rm lm Q) (CX D ad cy sz N im rm lm noX) 0 0 (va_A (wd ad cy N im rm lm) sz)
section PRS
variable {l : Launch} {mt y : MT} {d dc mc ms N pc i : Nat} {L : List (Option Value)} {st as rest : List Value} {im : TI} {rm : TP} {lm : TL} {Q Qc : TQ} {X : TX} {Lx : Nat} {xs : Nat → Int32}
theorem ConS.of (hlt : l.stackTraces = false) (hy : plainName mt.1.cls = true) (hh : mt.2.2.2.2.1 = some []) (hscr : mt.2.2.2.2.2 = some (Lx, xs)) (hlen : (en as).length ≤ mt.2.2.1) (K : PW l mt d 0 0 N 0 (en as) [] im rm lm Q noX) : ConS l mt d N as im rm lm Lx xs Q := by
  intro D ad cy sz
  have hcw : cw mt = .code mt.1 mt.2.1 mt.2.2.1 mt.2.2.2.1 := by unfold cw; rw [hh]
  refine vx_ofW (cc := mt.2.1) (maxL := mt.2.2.1) (ret := mt.2.2.2.1) hy (by rw [hcw]) ?_
  intro p e s m args below meth c s₁ B hml htb hP
  have hts := fun w hw => atoms_spec (ws := cw mt :: wsAll) B.pre w (List.mem_cons_of_mem _ hw)
  have htb' : c.exceptionTable.toList = [] := List.eq_nil_iff_forall_not_mem.mpr fun x hx => htb x hx
  obtain ⟨rfl, ⟨hsz, hP, hD, hKA, hK, hEX, hSX⟩, hXX, hX9, hXA⟩ := hP
  subst hsz
  rw [lg_entry_eq]
  have hA : ∀ q : Nat, s.heap.size ≤ q → va_A (wd ad cy N im rm lm) s.heap.size q := fun q h => Or.inr h
  have hD' : va_D (va_A (wd ad cy N im rm lm) s.heap.size) (wd ad cy N im rm lm) := hD.self
  have hF : FR l mt p s m (as.map (tr ad)).toArray meth c D (va_A (wd ad cy N im rm lm) s.heap.size) ad :=
    ⟨B.exec, B.bytes, hml, B.returns, findClass_of_methodNamed B.named, hts, B.notSynchronized, fun h => (name_of_methodNamed B.named B.method).1.trans h, hK, hA, hEX, hSX, hlt, fun h e => (by rw [hh] at e; cases e; rw [htb']; rfl), fun L2 x2 h => by rw [hscr] at h; cases h; exact ⟨hXX, hX9, hXA⟩⟩
  have hL := LH.entry (as := as) (ad := ad) (n := mt.2.2.1) (by rw [lg_sl_len]; exact hlen)
  refine K p e s m _ below meth c D _ ad cy 0 0 _ s.heap [] 0 0 _ hF ⟨hP, hD', va_S.rf, hKA⟩ hL (by omega) (by omega) ?_ ?_
  · intro v N' im' rm' lm' ad' cy' H' locs' cells' slots' ls' pc' i hq hext hW' hc' hs' hd hv
    refine ret_end (ad := ad') B.exec B.bytes B.returns B.notSynchronized hd hv hc' hs' (fun t ht hWt => ?_) hW'.2.2.1.2.2
    refine ⟨⟨v, N', ad', cy', im', rm', lm', rfl, hq, hext, by rw [ht]; exact hW'.1, hW'.2.1, KA.moved hWt.alike hW'.2.2.2⟩, hW'.2.2.1.F ht⟩
  · intro E im' rm' lm' H' locs' cells' slots' ls' pc' rest hX
    exact hX.elim
/-- a call of a helper that reads the script -/
theorem pw_callSS {x : Value} (hsc : mt.2.2.2.2.2 = some (Lx, xs)) (hC : ConS l y dc NN as im rm lm Lx xs (QP x im rm lm)) (hyh : y.2.2.2.2.1 = some [])
    (hcw : Cond.code y.1 y.2.1 y.2.2.1 y.2.2.2.1 ∈ wsAll) (hml : Cond.methodLink mt.1.cls i y.1 ∈ wsAll) (hmi : Cond.static y.1 ∈ wsAll) (hini : Cond.initialized y.1.cls ∈ wsAll)
    (hok : okC mt y d dc as.length) (hd : decode mt.2.1 pc = .ok (.invokestatic i, 3)) (hcat : (rest.map fun v => v.category).sum ≤ 8)
    (K : PW l mt d mc ms NN (pc + 3) L (x :: rest) im rm lm Q X) : PW l mt d mc ms NN pc L (as.reverse ++ rest) im rm lm Q X := by
  intro p e s m args below meth c D A ad cy MC MS Z H locs cells slots ls hF hW hL hc hs hR hT2
  obtain ⟨o1, o2, o3, o4, o5⟩ := hok
  have hst : (as.reverse ++ rest).map (tr ad) = (as.map (tr ad)).reverse ++ rest.map (tr ad) := by simp
  have hce : cw y = .code y.1 y.2.1 y.2.2.1 y.2.2.2.1 := by unfold cw; rw [hyh]
  have hG : GoodIn wsAll (va_wsS mt.1.cls i y.1 (cw y :: wsAll)) := by
    refine goodAll_app (by rw [hce]; exact hcw) fun w hw => ?_
    simp only [List.mem_cons, List.not_mem_nil, or_false] at hw
    rcases hw with rfl | rfl | rfl <;> assumption
  obtain ⟨x1, x2, x3⟩ := hF.2.2.2.2.2.2.2.2.2.2.2.2.2.2 _ _ hsc
  have hAw : ∀ q : Nat, va_A (wd ad cy NN im rm lm) H.size q → A q := by
    intro q h
    rcases h with ⟨k, x, h⟩ | h
    · exact hW.2.1.2 k _ h
    · exact hF.2.2.2.2.2.2.2.2.2.1 q (Nat.le_trans hW.2.2.1.1 h)
  have hpre : ∀ U : State, U.heap = H → s.WarmedH U.vm → va_Pc (as.map (tr ad)) (CPs D ad cy H.size NN im rm lm Lx xs) (as.map (tr ad)).toArray U := fun U hU hWU => by
    have h := call_pre hF hW as U hU hWU
    refine ⟨h.1, h.2, ?_, ?_, fun z => x3 (hAw _ z)⟩
    · rw [hU]; exact va_X.moved hWU.alike (x1.kept (hW.2.2.1.2.1 _ x2 x3))
    · rw [hU]; exact Nat.lt_of_lt_of_le x2 hW.2.2.1.1
  have hrun := vx_runS (l := l) (p := p) (e := e) (R := rmd d MC MS) (s := s) (m := m) (args := args) (below := below) (meth := meth) (c := c) (H := H) (locs := locs) (cells := cells) (slots := slots) (As := as.map (tr ad)) (rest := rest.map (tr ad)) (g := F0 m pc ls ((as.reverse ++ rest).map (tr ad))) ⟨hF.1, hF.2.1, hF.2.2.1, hF.2.2.2.2.1, hF.2.2.2.2.2.1⟩ (hC D ad cy H.size)
    (va_cwS as.length hF.2.2.2.2.2.1 hG (by rw [hce]) rfl rfl ⟨o3, o4, o5⟩ (room_ok o1 o2)) ⟨CPs.blind, hpre⟩ rfl (by simp) hL.1 hst (lv_room (by rw [cat_sum]; exact hcat)) hd ⟨by show cells + 0 ≤ MC; omega, by show slots + 0 ≤ MS; omega⟩
  exact call_core (mc := mc) (ms := ms) hrun (fun N v i r q h => Or.inl h.1) (fun N v i r q h => by obtain ⟨rfl, rfl, rfl, rfl, rfl⟩ := h; exact K) hF hW hL (by omega) (by omega) (prop_x (fun _ _ _ _ h => h.elim) (by omega) (by omega) hT2) hR hT2
end PRS

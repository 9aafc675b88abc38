/-! PW: the rules that read and write the memory -/
section PWM
variable {l : Launch} {mt : MT} {d mc ms N pc : Nat} {L : List (Option Value)} {st : List Value} {im : TI} {rm : TP} {lm : TL} {Q : TQ} {X : TX}
theorem va_K_nil {D : va_G} {s : State} (h : va_K D vwCl [] s) {cc : ClassId} {ty : FieldType} (h1 : ArrOfT s cc ty) (h2 : va_RA s cc ty) : va_K D vwCl [(cc, ty)] s :=
  ⟨h.1, fun k q hq => by
    match k, hq with
    | 0, hq => cases hq; exact ⟨h1, h2⟩
    | k + 1, hq => simp at hq⟩
theorem ent_at {ad : Nat → Nat} {cy : Nat → ClassId} {k c : Nat} (hN : k < N) (hk : kd k = c) (hc : c < 6) : (wd ad cy N im rm lm)[k]? = some (ad k, .inr (c, (List.range (nf c)).map (sv ad c (im k) (rm k) (lm k)))) := by
  rw [wd_get hN, hk, ent_o hc]
theorem ent_ai {ad : Nat → Nat} {cy : Nat → ClassId} {k : Nat} (hN : k < N) (hk : kd k = 6) : (wd ad cy N im rm lm)[k]? = some (ad k, .inl (cy k, al k, .inl (im k))) := by
  rw [wd_get hN, hk, ent_i]
theorem ent_ar {ad : Nat → Nat} {cy : Nat → ClassId} {k : Nat} (hN : k < N) (hk : kd k = 7) : (wd ad cy N im rm lm)[k]? = some (ad k, .inl (cy k, al k, .inr (.inr (.inr (.inr fun j => (rm k j).map ad))))) := by
  rw [wd_get hN, hk, ent_r]
theorem ent_al {ad : Nat → Nat} {cy : Nat → ClassId} {k : Nat} (hN : k < N) (hk : kd k = 8) : (wd ad cy N im rm lm)[k]? = some (ad k, .inl (cy k, al k, .inr (.inl (lm k)))) := by
  rw [wd_get hN, hk, ent_l]
/-- the fields of a class, as its tables have them -/
def FT (ci : Nat) (C : String) (T : u_T) (n : Nat) (ty : Nat → FieldType) : Prop := vwCl[ci]? = some (C, T, n) ∧ (∀ w ∈ u_ws C T n, w ∈ wsAll) ∧ n = nf ci ∧ ci < 6 ∧ (∀ k, k < n → parseFieldDescriptor (T k).2.2.1 = some (ty k)) ∧ ∀ a, a < n → ∀ b, b < n → a ≠ b → (T a).2.1 ≠ (T b).2.1
theorem ft0 : FT 0 RX0 TX0 13 tyX0 := ⟨rfl, lay_X0, rfl, by decide, tyX0_ok, nmX0⟩
theorem ft1 : FT 1 RX1 TX1 2 tyX1 := ⟨rfl, lay_X1, rfl, by decide, tyX1_ok, nmX1⟩
theorem ft2 : FT 2 RX2 TX2 16 tyX2 := ⟨rfl, lay_X2, rfl, by decide, tyX2_ok, nmX2⟩
theorem ft3 : FT 3 RX3 TX3 4 tyX3 := ⟨rfl, lay_X3, rfl, by decide, tyX3_ok, nmX3⟩
theorem ft4 : FT 4 RX4 TX4 8 tyX4 := ⟨rfl, lay_X4, rfl, by decide, tyX4_ok, nmX4⟩
theorem pw_get {i ci j k n : Nat} {C : String} {T : u_T} {ty : Nat → FieldType} {v : Value} (hT : FT ci C T n ty) (hw : Cond.fieldLink mt.1.cls i (T j).1 (T j).2.1 (T j).2.2.1 ∈ wsAll) (hj : j < n) (hv : ∀ ad : Nat → Nat, sv ad ci (im k) (rm k) (lm k) j = tr ad v) (hd : decode mt.2.1 pc = .ok (.getfield i, 3)) (hk : kd k = ci) (hN : k < N)
    (K : PW l mt d mc ms N (pc + 3) L (v :: st) im rm lm Q X) : PW l mt d mc ms N pc L (.ref k :: st) im rm lm Q X := by
  intro p e s m args below meth c D A ad cy MC MS Z H locs cells slots ls hF hW hL hc hs hR hT2
  obtain ⟨h1, h2, h3, h4, -, -⟩ := hT
  refine va_get (ci := ci) (C := C) (T := T) (N := n) hF.1 hF.2.1 hF.2.2.2.2.2.1 h2 hF.2.2.2.2.1 hF.2.2.2.2.2.2.2.2.1 hW.1 k (ent_at hN hk h4) h1 j hj (hF.2.2.2.2.2.1 _ hw) (fun _ h => h) (v := tr ad v) ?_ hd ?_
  · rw [sv_at (by rw [← h3]; exact hj), hv ad]
  · exact K p e s m args below meth c D A ad cy MC MS Z H locs cells slots ls hF hW hL hc hs hR hT2
theorem pw_geti {i ci j k n : Nat} {C : String} {T : u_T} {ty : Nat → FieldType} (hT : FT ci C T n ty) (hw : Cond.fieldLink mt.1.cls i (T j).1 (T j).2.1 (T j).2.2.1 ∈ wsAll) (hj : j < n) (hs : sty ci j = 0) (hd : decode mt.2.1 pc = .ok (.getfield i, 3)) (hk : kd k = ci) (hN : k < N)
    (K : PW l mt d mc ms N (pc + 3) L (.int (im k j) :: st) im rm lm Q X) : PW l mt d mc ms N pc L (.ref k :: st) im rm lm Q X := pw_get hT hw hj (fun _ => sv_i hs) hd hk hN K
theorem pw_getl {i ci j k n : Nat} {C : String} {T : u_T} {ty : Nat → FieldType} (hT : FT ci C T n ty) (hw : Cond.fieldLink mt.1.cls i (T j).1 (T j).2.1 (T j).2.2.1 ∈ wsAll) (hj : j < n) (hs : sty ci j = 2) (hd : decode mt.2.1 pc = .ok (.getfield i, 3)) (hk : kd k = ci) (hN : k < N)
    (K : PW l mt d mc ms N (pc + 3) L (.long (lm k j) :: st) im rm lm Q X) : PW l mt d mc ms N pc L (.ref k :: st) im rm lm Q X := pw_get hT hw hj (fun _ => sv_l hs) hd hk hN K
theorem pw_getr {i ci j k n : Nat} {C : String} {T : u_T} {ty : Nat → FieldType} {o : Option Nat} (hT : FT ci C T n ty) (hw : Cond.fieldLink mt.1.cls i (T j).1 (T j).2.1 (T j).2.2.1 ∈ wsAll) (hj : j < n) (hs : sty ci j = 1) (hd : decode mt.2.1 pc = .ok (.getfield i, 3)) (hk : kd k = ci) (hN : k < N) (ho : rm k j = o)
    (K : PW l mt d mc ms N (pc + 3) L (pv o :: st) im rm lm Q X) : PW l mt d mc ms N pc L (.ref k :: st) im rm lm Q X := pw_get hT hw hj (fun _ => by rw [sv_r hs, tr_pv, ho]) hd hk hN K
theorem pw_put {i ci j k n : Nat} {C : String} {T : u_T} {ty : Nat → FieldType} {v : Value} {im' : TI} {rm' : TP} {lm' : TL} (hT : FT ci C T n ty) (hw : Cond.fieldLink mt.1.cls i (T j).1 (T j).2.1 (T j).2.2.1 ∈ wsAll) (hj : j < n) (hf : (T j).2.2.2 = false ∨ ((T j).1 = mt.1.cls ∧ mt.1.name = "<init>"))
    (hn : ∀ ad : Nat → Nat, narrow (ty j) (tr ad v) = tr ad v ∧ fits (ty j) (tr ad v) = true) (hd : decode mt.2.1 pc = .ok (.putfield i, 3)) (hk : kd k = ci) (hN : k < N)
    (hset : ∀ (ad : Nat → Nat) (cy : Nat → ClassId), (wd ad cy N im rm lm).set k (ad k, .inr (ci, ((List.range (nf ci)).map (sv ad ci (im k) (rm k) (lm k))).set j (tr ad v))) = wd ad cy N im' rm' lm')
    (K : PW l mt d mc ms N (pc + 3) L st im' rm' lm' Q X) : PW l mt d mc ms N pc L (v :: .ref k :: st) im rm lm Q X := by
  intro p e s m args below meth c D A ad cy MC MS Z H locs cells slots ls hF hW hL hc hs hR hT2
  obtain ⟨h1, h2, h3, h4, h5, h6⟩ := hT
  obtain ⟨hn1, hn2⟩ := hn ad
  have hlen : j < ((List.range (nf ci)).map (sv ad ci (im k) (rm k) (lm k))).length := by simpa using (by rw [← h3]; exact hj : j < nf ci)
  have fin : ∀ (H1 : Heap) (locs1 : List Loc), va_P D vwCl ((wd ad cy N im rm lm).set k (ad k, .inr (ci, ((List.range (nf ci)).map (sv ad ci (im k) (rm k) (lm k))).set j (tr ad v)))) H1 → va_D A ((wd ad cy N im rm lm).set k (ad k, .inr (ci, ((List.range (nf ci)).map (sv ad ci (im k) (rm k) (lm k))).set j (tr ad v)))) → va_S A s.heap H1 locs1 → W p l e (rmd d MC MS) s m args below meth c H1 locs1 cells slots Z (F0 m (pc + 3) ls (st.map (tr ad))) := by
    intro H1 locs1 a1 a2 a3
    rw [hset ad cy] at a1 a2
    exact K p e s m args below meth c D A ad cy MC MS Z H1 locs1 cells slots ls hF ⟨a1, a2, a3, hW.2.2.2⟩ hL hc hs hR hT2
  by_cases hfin : (T j).2.2.2 = false
  · exact va_put (ci := ci) (C := C) (T := T) (N := n) (v := tr ad v) hF.1 hF.2.1 hF.2.2.2.2.2.1 h2 ty h5 h6 hF.2.2.2.2.1 hF.2.2.2.2.2.2.2.2.1 hW.1 hW.2.1 hW.2.2.1 k (ent_at hN hk h4) h1 j hj (hF.2.2.2.2.2.1 _ hw) (fun _ h => h) hfin (h5 j hj) hn1 hn2 hlen hd fin
  · obtain ⟨hc1, hc2⟩ := hf.resolve_left hfin
    exact va_putF (ci := ci) (C := C) (T := T) (N := n) (v := tr ad v) hF.1 hF.2.1 hF.2.2.2.2.2.1 h2 ty h5 h6 hF.2.2.2.2.1 hF.2.2.2.2.2.2.2.2.1 hW.1 hW.2.1 hW.2.2.1 k (ent_at hN hk h4) h1 j hj (hF.2.2.2.2.2.1 _ hw) (fun _ h => h) (by simpa using hfin) (hF.2.2.2.2.2.2.2.1 hc2) hc1 (h5 j hj) hn1 hn2 hlen hd fin
theorem pw_puti {i ci j k n : Nat} {C : String} {T : u_T} {ty : Nat → FieldType} {x : Int32} (hT : FT ci C T n ty) (hw : Cond.fieldLink mt.1.cls i (T j).1 (T j).2.1 (T j).2.2.1 ∈ wsAll) (hj : j < n) (hs : sty ci j = 0) (hf : (T j).2.2.2 = false ∨ ((T j).1 = mt.1.cls ∧ mt.1.name = "<init>"))
    (hn : narrow (ty j) (.int x) = .int x ∧ fits (ty j) (.int x) = true) (hd : decode mt.2.1 pc = .ok (.putfield i, 3)) (hk : kd k = ci) (hN : k < N)
    (K : PW l mt d mc ms N (pc + 3) L st (ui im k j x) rm lm Q X) : PW l mt d mc ms N pc L (.int x :: .ref k :: st) im rm lm Q X :=
  pw_put hT hw hj hf (fun _ => hn) hd hk hN (fun _ _ => wd_ui hN hk hT.2.2.2.1 hs (by rw [← hT.2.2.1]; exact hj)) K
theorem pw_putl {i ci j k n : Nat} {C : String} {T : u_T} {ty : Nat → FieldType} {x : Int64} (hT : FT ci C T n ty) (hw : Cond.fieldLink mt.1.cls i (T j).1 (T j).2.1 (T j).2.2.1 ∈ wsAll) (hj : j < n) (hs : sty ci j = 2) (hf : (T j).2.2.2 = false ∨ ((T j).1 = mt.1.cls ∧ mt.1.name = "<init>"))
    (hn : narrow (ty j) (.long x) = .long x ∧ fits (ty j) (.long x) = true) (hd : decode mt.2.1 pc = .ok (.putfield i, 3)) (hk : kd k = ci) (hN : k < N)
    (K : PW l mt d mc ms N (pc + 3) L st im rm (ul lm k j x) Q X) : PW l mt d mc ms N pc L (.long x :: .ref k :: st) im rm lm Q X :=
  pw_put hT hw hj hf (fun _ => hn) hd hk hN (fun _ _ => wd_ul hN hk hT.2.2.2.1 hs (by rw [← hT.2.2.1]; exact hj)) K
theorem pw_putr {i ci j k n : Nat} {C C2 : String} {T : u_T} {ty : Nat → FieldType} {o : Option Nat} (hT : FT ci C T n ty) (hw : Cond.fieldLink mt.1.cls i (T j).1 (T j).2.1 (T j).2.2.1 ∈ wsAll) (hj : j < n) (hs : sty ci j = 1) (hf : (T j).2.2.2 = false ∨ ((T j).1 = mt.1.cls ∧ mt.1.name = "<init>"))
    (hty : ty j = .object C2 ∨ ∃ t, ty j = .array t) (hd : decode mt.2.1 pc = .ok (.putfield i, 3)) (hk : kd k = ci) (hN : k < N)
    (K : PW l mt d mc ms N (pc + 3) L st im (ur rm k j o) lm Q X) : PW l mt d mc ms N pc L (pv o :: .ref k :: st) im rm lm Q X :=
  pw_put hT hw hj hf (fun ad => by rw [tr_pv]; rcases hty with h | ⟨t, h⟩ <;> rw [h] <;> cases o <;> exact ⟨rfl, rfl⟩) hd hk hN (fun ad _ => by rw [tr_pv]; exact wd_ur hN hk hT.2.2.2.1 hs (by rw [← hT.2.2.1]; exact hj)) K
theorem pw_iald {i : Int32} {k : Nat} (hd : decode mt.2.1 pc = .ok (.iaload, 1)) (hk : kd k = 6) (hN : k < N) (hin : vp_in i (al k)) (K : PW l mt d mc ms N (pc + 1) L (.int (im k i.toNatClampNeg) :: st) im rm lm Q X) : PW l mt d mc ms N pc L (.int i :: .ref k :: st) im rm lm Q X := by
  intro p e s m args below meth c D A ad cy MC MS Z H locs cells slots ls hF hW hL hc hs hR hT
  have ha := hW.2.2.2 k hN (by omega)
  rw [hk] at ha
  exact va_iald hF.1 hF.2.1 (va_K_nil hF.2.2.2.2.2.2.2.2.1 ha.1 ha.2) hW.1 k 0 (ent_ai hN hk) rfl hin hd (K p e s m args below meth c D A ad cy MC MS Z H locs cells slots ls hF hW hL hc hs hR hT)
theorem pw_iast {i x : Int32} {k : Nat} (hd : decode mt.2.1 pc = .ok (.iastore, 1)) (hk : kd k = 6) (hN : k < N) (hin : vp_in i (al k)) (K : PW l mt d mc ms N (pc + 1) L st (ui im k i.toNatClampNeg x) rm lm Q X) : PW l mt d mc ms N pc L (.int x :: .int i :: .ref k :: st) im rm lm Q X := by
  intro p e s m args below meth c D A ad cy MC MS Z H locs cells slots ls hF hW hL hc hs hR hT
  have ha := hW.2.2.2 k hN (by omega)
  rw [hk] at ha
  refine va_iast hF.1 hF.2.1 (va_K_nil hF.2.2.2.2.2.2.2.2.1 ha.1 ha.2) hW.1 hW.2.1 hW.2.2.1 k 0 (ent_ai hN hk) rfl hin hd fun H1 locs1 a1 a2 a3 => ?_
  rw [wd_ai hN hk] at a1 a2
  exact K p e s m args below meth c D A ad cy MC MS Z H1 locs1 cells slots ls hF ⟨a1, a2, a3, hW.2.2.2⟩ hL hc hs hR hT
theorem pw_lald {i : Int32} {k : Nat} (hd : decode mt.2.1 pc = .ok (.laload, 1)) (hk : kd k = 8) (hN : k < N) (hin : vp_in i (al k)) (K : PW l mt d mc ms N (pc + 1) L (.long (lm k i.toNatClampNeg) :: st) im rm lm Q X) : PW l mt d mc ms N pc L (.int i :: .ref k :: st) im rm lm Q X := by
  intro p e s m args below meth c D A ad cy MC MS Z H locs cells slots ls hF hW hL hc hs hR hT
  have ha := hW.2.2.2 k hN (by omega)
  rw [hk] at ha
  exact va_lald hF.1 hF.2.1 (va_K_nil hF.2.2.2.2.2.2.2.2.1 ha.1 ha.2) hW.1 k 0 (ent_al hN hk) rfl hin hd (K p e s m args below meth c D A ad cy MC MS Z H locs cells slots ls hF hW hL hc hs hR hT)
theorem pw_last {i : Int32} {x : Int64} {k : Nat} (hd : decode mt.2.1 pc = .ok (.lastore, 1)) (hk : kd k = 8) (hN : k < N) (hin : vp_in i (al k)) (K : PW l mt d mc ms N (pc + 1) L st im rm (ul lm k i.toNatClampNeg x) Q X) : PW l mt d mc ms N pc L (.long x :: .int i :: .ref k :: st) im rm lm Q X := by
  intro p e s m args below meth c D A ad cy MC MS Z H locs cells slots ls hF hW hL hc hs hR hT
  have ha := hW.2.2.2 k hN (by omega)
  rw [hk] at ha
  refine va_last hF.1 hF.2.1 (va_K_nil hF.2.2.2.2.2.2.2.2.1 ha.1 ha.2) hW.1 hW.2.1 hW.2.2.1 k 0 (ent_al hN hk) rfl hin hd fun H1 locs1 a1 a2 a3 => ?_
  rw [wd_al hN hk] at a1 a2
  exact K p e s m args below meth c D A ad cy MC MS Z H1 locs1 cells slots ls hF ⟨a1, a2, a3, hW.2.2.2⟩ hL hc hs hR hT
theorem pw_aald {i : Int32} {k : Nat} {o : Option Nat} (hd : decode mt.2.1 pc = .ok (.aaload, 1)) (hk : kd k = 7) (hN : k < N) (hin : vp_in i (al k)) (ho : rm k i.toNatClampNeg = o) (K : PW l mt d mc ms N (pc + 1) L (pv o :: st) im rm lm Q X) : PW l mt d mc ms N pc L (.int i :: .ref k :: st) im rm lm Q X := by
  intro p e s m args below meth c D A ad cy MC MS Z H locs cells slots ls hF hW hL hc hs hR hT
  have ha := hW.2.2.2 k hN (by omega)
  rw [hk] at ha
  refine va_aldq (C := "TideMills$Creek") hF.1 hF.2.1 (va_K_nil hF.2.2.2.2.2.2.2.2.1 ha.1 ha.2) hW.1 k 0 (ent_ar hN hk) rfl hin hd ?_
  have h := K p e s m args below meth c D A ad cy MC MS Z H locs cells slots ls hF hW hL hc hs hR hT
  rw [List.map_cons, tr_pv, ← ho] at h
  exact h
theorem pw_aast {i : Int32} {k x : Nat} (hd : decode mt.2.1 pc = .ok (.aastore, 1)) (hk : kd k = 7) (hN : k < N) (hx : kd x = 0) (hxN : x < N) (hin : vp_in i (al k)) (K : PW l mt d mc ms N (pc + 1) L st im (ur rm k i.toNatClampNeg (some x)) lm Q X) : PW l mt d mc ms N pc L (.ref x :: .int i :: .ref k :: st) im rm lm Q X := by
  intro p e s m args below meth c D A ad cy MC MS Z H locs cells slots ls hF hW hL hc hs hR hT
  have ha := hW.2.2.2 k hN (by omega)
  rw [hk] at ha
  refine va_astq (r := (RX0, TX0, 13)) hF.1 hF.2.1 (va_K_nil hF.2.2.2.2.2.2.2.2.1 ha.1 ha.2) hW.1 hW.2.1 hW.2.2.1 k 0 x 0 (ent_ar hN hk) rfl (ent_at hxN hx (by decide)) rfl hin hd fun H1 locs1 a1 a2 a3 => ?_
  rw [wd_ar hN hk] at a1 a2
  exact K p e s m args below meth c D A ad cy MC MS Z H1 locs1 cells slots ls hF ⟨a1, a2, a3, hW.2.2.2⟩ hL hc hs hR hT
theorem pw_alen {k : Nat} {v : Int32} (hd : decode mt.2.1 pc = .ok (.arraylength, 1)) (hk : kd k = 6) (hN : k < N) (hv : Int32.ofNat (al k) = v) (K : PW l mt d mc ms N (pc + 1) L (.int v :: st) im rm lm Q X) : PW l mt d mc ms N pc L (.ref k :: st) im rm lm Q X := by
  intro p e s m args below meth c D A ad cy MC MS Z H locs cells slots ls hF hW hL hc hs hR hT
  have ha := hW.2.2.2 k hN (by omega)
  rw [hk] at ha
  exact va_alen hF.1 hF.2.1 (va_K_nil hF.2.2.2.2.2.2.2.2.1 ha.1 ha.2) hW.1 k 0 (ent_ai hN hk) rfl hv hd (K p e s m args below meth c D A ad cy MC MS Z H locs cells slots ls hF hW hL hc hs hR hT)
/-- the law's own script -/
theorem pw_sld {i : Int32} {Lx : Nat} {xs : Nat → Int32} (hsc : mt.2.2.2.2.2 = some (Lx, xs)) (hin : vp_in i Lx) (hd : decode mt.2.1 pc = .ok (.iaload, 1)) (K : PW l mt d mc ms N (pc + 1) L (.int (xs i.toNatClampNeg) :: st) im rm lm Q X) : PW l mt d mc ms N pc L (.int i :: .ref 900 :: st) im rm lm Q X := by
  intro p e s m args below meth c D A ad cy MC MS Z H locs cells slots ls hF hW hL hc hs hR hT
  obtain ⟨h1, h2, h3⟩ := hF.2.2.2.2.2.2.2.2.2.2.2.2.2.2 _ _ hsc
  exact va_sld hF.1 hF.2.1 h1 h2 h3 hW.2.2.1 hin hd (K p e s m args below meth c D A ad cy MC MS Z H locs cells slots ls hF hW hL hc hs hR hT)
theorem pw_slen {Lx : Nat} {xs : Nat → Int32} (hsc : mt.2.2.2.2.2 = some (Lx, xs)) (hd : decode mt.2.1 pc = .ok (.arraylength, 1)) (K : PW l mt d mc ms N (pc + 1) L (.int (nI Lx) :: st) im rm lm Q X) : PW l mt d mc ms N pc L (.ref 900 :: st) im rm lm Q X := by
  intro p e s m args below meth c D A ad cy MC MS Z H locs cells slots ls hF hW hL hc hs hR hT
  obtain ⟨h1, h2, h3⟩ := hF.2.2.2.2.2.2.2.2.2.2.2.2.2.2 _ _ hsc
  exact va_slen hF.1 hF.2.1 h1 h2 h3 hW.2.2.1 hd (K p e s m args below meth c D A ad cy MC MS Z H locs cells slots ls hF hW hL hc hs hR hT)
end PWM

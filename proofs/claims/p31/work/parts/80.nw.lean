/-! New objects and arrays -/
/-- nothing is written or known of the ids that are still to come -/
def FS (N : Nat) (im : TI) (rm : TP) (lm : TL) : Prop := (∀ k, N ≤ k → im k = (fun _ => 0) ∧ rm k = (fun _ => none) ∧ lm k = fun _ => 0) ∧ ∀ k j o, rm k j = some o → o < N
section NEW
variable {l : Launch} {mt : MT} {d mc ms N pc : Nat} {L : List (Option Value)} {st : List Value} {im : TI} {rm : TP} {lm : TL} {Q : TQ} {X : TX}
theorem ext1 {N : Nat} {ad : Nat → Nat} {cy : Nat → ClassId} {q : Nat} {cA : ClassId} : ext N ad cy (N + 1) (va_up ad N q) (va_up cy N cA) := ⟨Nat.le_succ _, fun k hk => ⟨va_up_ne _ _ (by omega), va_up_ne _ _ (by omega)⟩⟩
theorem ext1' {N : Nat} {ad : Nat → Nat} {cy : Nat → ClassId} {q : Nat} : ext N ad cy (N + 1) (va_up ad N q) cy := ⟨Nat.le_succ _, fun k hk => ⟨va_up_ne _ _ (by omega), rfl⟩⟩
theorem sv_mv {ad : Nat → Nat} {N q c j : Nat} {f : Nat → Int32} {g : Nat → Option Nat} {h : Nat → Int64} (hg : ∀ o, g j = some o → o ≠ N) : sv (va_up ad N q) c f g h j = sv ad c f g h j := by
  unfold sv rf
  split
  · rfl
  · split
    · cases e : g j with
      | none => rfl
      | some o => simp only [Option.map_some]; rw [va_up_ne _ _ (hg o e)]
    · rfl
theorem ent_mv {ad : Nat → Nat} {cc : ClassId} {N q c n : Nat} {f : Nat → Int32} {g : Nat → Option Nat} {h : Nat → Int64} (hg : ∀ j o, g j = some o → o ≠ N) : ent (va_up ad N q) cc c n f g h = ent ad cc c n f g h := by
  unfold ent
  split
  · rw [List.map_congr_left fun j _ => sv_mv (hg j)]
  · split
    · rfl
    · split
      · congr 7
        funext j
        cases e : g j with
        | none => rfl
        | some o => simp only [Option.map_some]; rw [va_up_ne _ _ (hg j o e)]
      · rfl
theorem wd_new {ad : Nat → Nat} {cy cy' : Nat → ClassId} {N q : Nat} {im : TI} {rm : TP} {lm : TL} {e : va_E} (hF : FS N im rm lm) (hc : ∀ k, k < N → cy' k = cy k) (he : ent ad (cy' N) (kd N) (al N) (im N) (rm N) (lm N) = e) : wd ad cy N im rm lm ++ [(q, e)] = wd (va_up ad N q) cy' (N + 1) im rm lm := by
  unfold wd
  rw [List.range_succ, List.map_append]
  congr 1
  · refine List.map_congr_left fun k hk => ?_
    have hk := List.mem_range.mp hk
    rw [va_up_ne _ _ (by omega), ent_mv (fun j o h => by have := hF.2 k j o h; omega), hc k hk]
  · show [(q, e)] = [(va_up ad N q N, ent (va_up ad N q) (cy' N) (kd N) (al N) (im N) (rm N) (lm N))]
    rw [va_up_self, ent_mv (fun j o h => by have := hF.2 N j o h; omega), he]
theorem fr_mv {p : Program} {s : State} {m : MethodId} {args : Array Value} {meth : Method} {c : Code} {D : va_G} {A : Nat → Prop} {ad : Nat → Nat} {q : Nat} (h : FR l mt p s m args meth c D A ad) (hN : N < 900) : FR l mt p s m args meth c D A (va_up ad N q) := by
  obtain ⟨f1, f2, f3, f4, f5, f6, f7, f8, f9, f10, f11, f12, f13, f14, f15⟩ := h
  exact ⟨f1, f2, f3, f4, f5, f6, f7, f8, f9, f10, f11, f12, f13, f14, by rw [va_up_ne _ _ (by omega)]; exact f15⟩
theorem pw_new {i ci n : Nat} {C : String} {T : u_T} {ty : Nat → FieldType} (hT : FT ci C T n ty) (hcl : Cond.classLink mt.1.cls i C ∈ wsAll) (hinst : Cond.instantiable C n ∈ wsAll) (hini : Cond.initialized C ∈ wsAll) (hdf : ∀ j, j < n → defaultValue (ty j) = (if sty ci j = 0 then .int 0 else if sty ci j = 1 then .null else .long 0))
    (hd : decode mt.2.1 pc = .ok (.new i, 3)) (hk : kd N = ci) (hN9 : N + 1 ≤ 900) (hF0 : FS N im rm lm) (hX : ∀ E a b c, ¬ X E a b c) (hL0 : ∀ (j : Nat) (v : Value), L[j]? = some (some v) → okV N v) (hS0 : ∀ v ∈ st, okV N v)
    (K : PW l mt d mc ms (N + 1) (pc + 3) L (.ref N :: st) im rm lm Q X) : PW l mt d (mc + 1) (ms + n) N pc L st im rm lm Q X := by
  intro p e s m args below meth c D A ad cy MC MS Z H locs cells slots ls hF hW hL hc hs hR hT2
  have hts := hF.2.2.2.2.2.1
  have hn := hT.2.2.1
  obtain ⟨z1, z2, z3⟩ := hF0.1 N (Nat.le_refl _)
  refine va_new (cl := vwCl) (tys := []) (ci := ci) (C := C) (T := T) (N := n) (own := mt.1.cls) (index := i) (fs := (List.range (nf ci)).map (sv ad ci (im N) (rm N) (lm N))) (A := A) (H0 := s.heap) hF.1 hF.2.1 hts hT.2.1 ty hT.2.2.2.2.1 hF.2.2.2.2.1 (hts _ hcl) (hts _ hinst) (hts _ hini) hF.2.2.2.2.2.2.2.2.1 hW.1 hW.2.1 hW.2.2.1 hF.2.2.2.2.2.2.2.2.2.1 hT.1 (fun j hj => ?_) (by show cells + 1 ≤ MC; omega) (by show slots + n ≤ MS; omega) hd ?_
  · rw [hdf j hj]
    unfold vp_V
    rw [List.getD_eq_getElem?_getD, sv_at (by rw [← hn]; exact hj), z1, z2, z3]
    unfold sv rf
    split
    · rfl
    · split <;> rfl
  · intro q H1 hP1 hD1 hS1
    have he : wd ad cy N im rm lm ++ [(q, .inr (ci, (List.range (nf ci)).map (sv ad ci (im N) (rm N) (lm N))))] = wd (va_up ad N q) cy (N + 1) im rm lm := wd_new hF0 (fun _ _ => rfl) (by rw [hk, ent_o hT.2.2.2.1])
    rw [he] at hP1 hD1
    have hv : ∀ v, okV N v → tr (va_up ad N q) v = tr ad v := fun v h => tr_ext (ext1' (cy := cy)) hN9 h
    have hst : (Value.ref N :: st).map (tr (va_up ad N q)) = .ref q :: st.map (tr ad) := by
      rw [List.map_cons]
      congr 1
      · show Value.ref (va_up ad N q N) = _
        rw [va_up_self]
      · exact List.map_congr_left fun v h => hv v (hS0 v h)
    have := K p e s m args below meth c D A (va_up ad N q) cy MC MS Z H1 locs (cells + 1) (slots + n) ls (fr_mv hF (by omega)) ⟨hP1, hD1, hS1, fun k h1 h2 => by
        by_cases e : k = N
        · rw [e, hk] at h2; have := hT.2.2.2.1; omega
        · exact hW.2.2.2 k (by omega) h2⟩ ⟨hL.1, hL.2.1, fun j v h => by rw [hv v (hL0 j v h)]; exact hL.2.2 j v h⟩ (by omega) (by omega)
      (fun v N' im' rm' lm' ad' cy' H' locs' cells' slots' ls' pc' i hq hx => hR v N' im' rm' lm' ad' cy' H' locs' cells' slots' ls' pc' i hq (ext1'.trans hx)) (fun E a b c' _ _ _ _ _ _ _ hx => (hX E a b c' hx).elim)
    rw [hst] at this
    exact this
/-- an array of ints -/
theorem pw_newi {n : Int32} (hd : decode mt.2.1 pc = .ok (.newarray .int, 2)) (hk : kd N = 6) (hn : ¬ n < 0) (hal : n.toNatClampNeg = al N) (hb : al N ≤ 134217728) (hN9 : N + 1 ≤ 900) (hF0 : FS N im rm lm) (hX : ∀ E a b c, ¬ X E a b c) (hL0 : ∀ (j : Nat) (v : Value), L[j]? = some (some v) → okV N v) (hS0 : ∀ v ∈ st, okV N v)
    (K : PW l mt d mc ms (N + 1) (pc + 2) L (.ref N :: st) im rm lm Q X) : PW l mt d (mc + 1) (ms + al N) N pc L (.int n :: st) im rm lm Q X := by
  intro p e s m args below meth c D A ad cy MC MS Z H locs cells slots ls hF hW hL hc hs hR hT2
  have hts := hF.2.2.2.2.2.1
  obtain ⟨z1, z2, z3⟩ := hF0.1 N (Nat.le_refl _)
  refine va_newa (cl := vwCl) (tys := []) (A := A) (H0 := s.heap) (atype := .int) (ty := .int) (a0 := (al N, .inl (fun _ => 0))) (N' := al N) hF.1 hF.2.1 (hts _ ac_int) rfl hF.2.2.2.2.2.2.2.2.1 hW.1 hW.2.1 hW.2.2.1 hF.2.2.2.2.2.2.2.2.2.1 (fun cA => rfl) hn hal (by show al N * 4 ≤ 536870912; omega) (by show cells + 1 ≤ MC; omega) (by show slots + al N ≤ MS; omega) hd ?_
  intro q cA H1 hK1 hP1 hD1 hS1
  have he : wd ad cy N im rm lm ++ [(q, .inl (cA, (al N, .inl (fun _ => 0))))] = wd (va_up ad N q) (va_up cy N cA) (N + 1) im rm lm := wd_new hF0 (fun k h => va_up_ne _ _ (by omega)) (by rw [hk, z1, va_up_self]; rfl)
  rw [he] at hP1 hD1
  have hv : ∀ v, okV N v → tr (va_up ad N q) v = tr ad v := fun v h => tr_ext (ext1' (cy := cy)) hN9 h
  have hst : (Value.ref N :: st).map (tr (va_up ad N q)) = .ref q :: st.map (tr ad) := by
    rw [List.map_cons]
    congr 1
    · show Value.ref (va_up ad N q N) = _
      rw [va_up_self]
    · exact List.map_congr_left fun v h => hv v (hS0 v h)
  have hk1 := hK1.2 0 _ rfl
  have := K p e s m args below meth c D A (va_up ad N q) (va_up cy N cA) MC MS Z H1 locs (cells + 1) (slots + al N) ls (fr_mv hF (by omega)) ⟨hP1, hD1, hS1, fun k h1 h2 => by
      by_cases e : k = N
      · rw [e, va_up_self, hk]; exact hk1
      · rw [va_up_ne _ _ e]; exact hW.2.2.2 k (by omega) h2⟩ ⟨hL.1, hL.2.1, fun j v h => by rw [hv v (hL0 j v h)]; exact hL.2.2 j v h⟩ (by omega) (by omega)
    (fun v N' im' rm' lm' ad' cy' H' locs' cells' slots' ls' pc' i hq hx => hR v N' im' rm' lm' ad' cy' H' locs' cells' slots' ls' pc' i hq (ext1.trans hx)) (fun E a b c' _ _ _ _ _ _ _ hx => (hX E a b c' hx).elim)
  rw [hst] at this
  exact this
/-- an array of the law -/
theorem pw_newi9 {n : Int32} (hd : decode mt.2.1 pc = .ok (.newarray .int, 2)) (hk : kd N = 9) (hn : ¬ n < 0) (hal : n.toNatClampNeg = al N) (hb : al N ≤ 134217728) (hN9 : N + 1 ≤ 900) (hF0 : FS N im rm lm) (hX : ∀ E a b c, ¬ X E a b c) (hL0 : ∀ (j : Nat) (v : Value), L[j]? = some (some v) → okV N v) (hS0 : ∀ v ∈ st, okV N v)
    (K : PW l mt d mc ms (N + 1) (pc + 2) L (.ref N :: st) im rm lm Q X) : PW l mt d (mc + 1) (ms + al N) N pc L (.int n :: st) im rm lm Q X := by
  intro p e s m args below meth c D A ad cy MC MS Z H locs cells slots ls hF hW hL hc hs hR hT2
  have hts := hF.2.2.2.2.2.1
  obtain ⟨z1, z2, z3⟩ := hF0.1 N (Nat.le_refl _)
  refine va_newa (cl := vwCl) (tys := []) (A := A) (H0 := s.heap) (atype := .int) (ty := .int) (a0 := (al N, .inl (fun _ => 0))) (N' := al N) hF.1 hF.2.1 (hts _ ac_int) rfl hF.2.2.2.2.2.2.2.2.1 hW.1 hW.2.1 hW.2.2.1 hF.2.2.2.2.2.2.2.2.2.1 (fun cA => rfl) hn hal (by show al N * 4 ≤ 536870912; omega) (by show cells + 1 ≤ MC; omega) (by show slots + al N ≤ MS; omega) hd ?_
  intro q cA H1 hK1 hP1 hD1 hS1
  have he : wd ad cy N im rm lm ++ [(q, .inl (cA, (al N, .inl (fun _ => 0))))] = wd (va_up ad N q) (va_up cy N cA) (N + 1) im rm lm := wd_new hF0 (fun k h => va_up_ne _ _ (by omega)) (by rw [hk, z1, va_up_self]; rfl)
  rw [he] at hP1 hD1
  have hv : ∀ v, okV N v → tr (va_up ad N q) v = tr ad v := fun v h => tr_ext (ext1' (cy := cy)) hN9 h
  have hst : (Value.ref N :: st).map (tr (va_up ad N q)) = .ref q :: st.map (tr ad) := by
    rw [List.map_cons]
    congr 1
    · show Value.ref (va_up ad N q N) = _
      rw [va_up_self]
    · exact List.map_congr_left fun v h => hv v (hS0 v h)
  have hk1 := hK1.2 0 _ rfl
  have := K p e s m args below meth c D A (va_up ad N q) (va_up cy N cA) MC MS Z H1 locs (cells + 1) (slots + al N) ls (fr_mv hF (by omega)) ⟨hP1, hD1, hS1, fun k h1 h2 => by
      by_cases e : k = N
      · rw [e, va_up_self, hk]; exact hk1
      · rw [va_up_ne _ _ e]; exact hW.2.2.2 k (by omega) h2⟩ ⟨hL.1, hL.2.1, fun j v h => by rw [hv v (hL0 j v h)]; exact hL.2.2 j v h⟩ (by omega) (by omega)
    (fun v N' im' rm' lm' ad' cy' H' locs' cells' slots' ls' pc' i hq hx => hR v N' im' rm' lm' ad' cy' H' locs' cells' slots' ls' pc' i hq (ext1.trans hx)) (fun E a b c' _ _ _ _ _ _ _ hx => (hX E a b c' hx).elim)
  rw [hst] at this
  exact this
/-- the array of the saved creeks -/
theorem pw_newq {n : Int32} {i : Nat} (hcl : Cond.classLink mt.1.cls i "TideMills$Creek" ∈ wsAll) (hd : decode mt.2.1 pc = .ok (.anewarray i, 3)) (hk : kd N = 7) (hn : ¬ n < 0) (hal : n.toNatClampNeg = al N) (hb : al N ≤ 134217728) (hN9 : N + 1 ≤ 900) (hF0 : FS N im rm lm) (hX : ∀ E a b c, ¬ X E a b c) (hL0 : ∀ (j : Nat) (v : Value), L[j]? = some (some v) → okV N v) (hS0 : ∀ v ∈ st, okV N v)
    (K : PW l mt d mc ms (N + 1) (pc + 3) L (.ref N :: st) im rm lm Q X) : PW l mt d (mc + 1) (ms + al N) N pc L (.int n :: st) im rm lm Q X := by
  intro p e s m args below meth c D A ad cy MC MS Z H locs cells slots ls hF hW hL hc hs hR hT2
  have hts := hF.2.2.2.2.2.1
  have hSX := hF.2.2.2.2.2.2.2.2.2.2.2.1
  obtain ⟨z1, z2, z3⟩ := hF0.1 N (Nat.le_refl _)
  refine va_newq (cl := vwCl) (tys := []) (A := A) (H0 := s.heap) (C := "TideMills$Creek") (own := mt.1.cls) (index := i) (N' := al N) hF.1 hF.2.1 hF.2.2.2.2.1 (hts _ hcl) hSX.2.2.2.2.2 hF.2.2.2.2.2.2.2.2.1 hW.1 hW.2.1 hW.2.2.1 hF.2.2.2.2.2.2.2.2.2.1 hn hal (by omega) (by show cells + 1 ≤ MC; omega) (by show slots + al N ≤ MS; omega) hd ?_
  intro q cA H1 hK1 hP1 hD1 hS1
  have he : wd ad cy N im rm lm ++ [(q, .inl (cA, al N, .inr (.inr (.inr (.inr (fun _ => none))))))] = wd (va_up ad N q) (va_up cy N cA) (N + 1) im rm lm := wd_new hF0 (fun k h => va_up_ne _ _ (by omega)) (by rw [hk, z2, va_up_self]; rfl)
  rw [he] at hP1 hD1
  have hv : ∀ v, okV N v → tr (va_up ad N q) v = tr ad v := fun v h => tr_ext (ext1' (cy := cy)) hN9 h
  have hst : (Value.ref N :: st).map (tr (va_up ad N q)) = .ref q :: st.map (tr ad) := by
    rw [List.map_cons]
    congr 1
    · show Value.ref (va_up ad N q N) = _
      rw [va_up_self]
    · exact List.map_congr_left fun v h => hv v (hS0 v h)
  have hk1 := hK1.2 0 _ rfl
  have := K p e s m args below meth c D A (va_up ad N q) (va_up cy N cA) MC MS Z H1 locs (cells + 1) (slots + al N) ls (fr_mv hF (by omega)) ⟨hP1, hD1, hS1, fun k h1 h2 => by
      by_cases e : k = N
      · rw [e, va_up_self, hk]; exact hk1
      · rw [va_up_ne _ _ e]; exact hW.2.2.2 k (by omega) h2⟩ ⟨hL.1, hL.2.1, fun j v h => by rw [hv v (hL0 j v h)]; exact hL.2.2 j v h⟩ (by omega) (by omega)
    (fun v N' im' rm' lm' ad' cy' H' locs' cells' slots' ls' pc' i hq hx => hR v N' im' rm' lm' ad' cy' H' locs' cells' slots' ls' pc' i hq (ext1.trans hx)) (fun E a b c' _ _ _ _ _ _ _ hx => (hX E a b c' hx).elim)
  rw [hst] at this
  exact this
end NEW

/-! The pure memory: object ids, ints, references, longs; what the heap holds of it -/
abbrev TI : Type := Nat → Nat → Int32
abbrev TP : Type := Nat → Nat → Option Nat
abbrev TL : Type := Nat → Nat → Int64
abbrev TQ : Type := Nat → Option Value → TI → TP → TL → Prop
abbrev TX : Type := String → TI → TP → TL → Prop
def xcI : String := "java/lang/IndexOutOfBoundsException"
def xcA : String := "java/lang/IllegalArgumentException"
def xcS : String := "java/lang/IllegalStateException"
def noT : u_T := fun _ => ("", "", "", false)
abbrev vwX : List vw_C := vwCl ++ [(xcI, noT, 0), (xcA, noT, 0), (xcS, noT, 0)]
def crK : List Nat := [0, 2, 6, 6, 6, 6, 2, 6, 6, 6, 6, 2, 6, 6, 6, 6, 2, 6, 6, 6, 6, 2, 6, 6, 6, 6]
def kdl : List Nat := 4 :: (crK ++ crK ++ crK ++ [1, 7] ++ crK ++ crK ++ crK ++ crK ++ crK ++ crK ++ [6, 3, 6])
def kd0 (k : Nat) : Nat := if 240 ≤ k ∧ k < 243 then 9 else kdl.getD k 99
def al0 (k : Nat) : Nat := if k = 237 then 60 else if k = 239 then 3 else if k = 240 ∨ k = 241 then 5 else if k = 242 then 4 else 6
/-- the kinds and lengths, under a name that doesn't unfold -/
theorem kd_ex : ∃ f : Nat → Nat, f = kd0 := ⟨_, rfl⟩
theorem al_ex : ∃ f : Nat → Nat, f = al0 := ⟨_, rfl⟩
noncomputable def kd : Nat → Nat := Classical.choose kd_ex
noncomputable def al : Nat → Nat := Classical.choose al_ex
theorem kd_eq : kd = kd0 := Classical.choose_spec kd_ex
theorem al_eq : al = al0 := Classical.choose_spec al_ex
def styl : List (List Nat) := [[1, 0, 0, 0, 0, 0, 0, 0, 0, 0, 0, 0, 0], [1, 0], [0, 1, 0, 0, 0, 0, 0, 0, 0, 0, 0, 0, 1, 1, 1, 1], [0, 1, 0, 0], [1, 1, 1, 0, 1, 1, 0, 1], [1, 1, 0, 1, 0, 1, 1, 0, 0, 0, 0, 1, 0, 2]]
def sty (c j : Nat) : Nat := (styl.getD c []).getD j 9
def nf (c : Nat) : Nat := (styl.getD c []).length
def aty (c : Nat) : FieldType := if c = 6 then .int else if c = 7 then .object "TideMills$Creek" else if c = 9 then .int else .long
def rf (ad : Nat → Nat) (o : Option Nat) : Value := va_rf (o.map ad)
def tr (ad : Nat → Nat) (v : Value) : Value := match v with
  | .ref k => .ref (ad k)
  | .int x => .int x
  | .long x => .long x
  | .float x => .float x
  | .double x => .double x
  | v => v
def pv (o : Option Nat) : Value := match o with
  | none => .null
  | some k => .ref k
def sv (ad : Nat → Nat) (c : Nat) (f : Nat → Int32) (g : Nat → Option Nat) (h : Nat → Int64) (j : Nat) : Value := if sty c j = 0 then .int (f j) else if sty c j = 1 then rf ad (g j) else .long (h j)
def ent (ad : Nat → Nat) (cc : ClassId) (c n : Nat) (f : Nat → Int32) (g : Nat → Option Nat) (h : Nat → Int64) : va_E :=
  if c < 6 then .inr (c, (List.range (nf c)).map (sv ad c f g h)) else if c = 6 then .inl (cc, n, .inl f) else if c = 7 then .inl (cc, n, .inr (.inr (.inr (.inr fun j => (g j).map ad)))) else if c = 9 then .inl (cc, n, .inl f) else .inl (cc, n, .inr (.inl h))
noncomputable def wd (ad : Nat → Nat) (cy : Nat → ClassId) (N : Nat) (im : TI) (rm : TP) (lm : TL) : va_W := (List.range N).map fun k => (ad k, ent ad (cy k) (kd k) (al k) (im k) (rm k) (lm k))
def ui (f : TI) (o k : Nat) (v : Int32) : TI := fun q => if q = o then upd (f o) k v else f q
def ur (f : TP) (o k : Nat) (v : Option Nat) : TP := fun q => if q = o then va_up (f o) k v else f q
def ul (f : TL) (o k : Nat) (v : Int64) : TL := fun q => if q = o then vp_updL (f o) k v else f q
theorem tr_pv (ad : Nat → Nat) (o : Option Nat) : tr ad (pv o) = rf ad o := by cases o <;> rfl
theorem tr_cat (ad : Nat → Nat) (v : Value) : (tr ad v).category = v.category := by cases v <;> rfl
theorem wd_get {ad : Nat → Nat} {cy : Nat → ClassId} {N : Nat} {im : TI} {rm : TP} {lm : TL} {k : Nat} (hk : k < N) : (wd ad cy N im rm lm)[k]? = some (ad k, ent ad (cy k) (kd k) (al k) (im k) (rm k) (lm k)) := by
  unfold wd
  rw [List.getElem?_map, List.getElem?_range hk]
  rfl
theorem wd_set {ad : Nat → Nat} {cy : Nat → ClassId} {N : Nat} {im im' : TI} {rm rm' : TP} {lm lm' : TL} {k : Nat} (hk : k < N) {e : va_E} (he : ent ad (cy k) (kd k) (al k) (im' k) (rm' k) (lm' k) = e)
    (hi : ∀ q, q ≠ k → im' q = im q) (hr : ∀ q, q ≠ k → rm' q = rm q) (hl : ∀ q, q ≠ k → lm' q = lm q) : (wd ad cy N im rm lm).set k (ad k, e) = wd ad cy N im' rm' lm' := by
  refine List.ext_getElem? fun i => ?_
  by_cases h : i = k
  · subst h
    rw [List.getElem?_set_self (by simp [wd]; exact hk), wd_get hk, he]
  · rw [List.getElem?_set_ne (fun q => h q.symm)]
    unfold wd
    rw [List.getElem?_map, List.getElem?_map]
    by_cases hN : i < N
    · rw [List.getElem?_range hN]
      simp only [Option.map_some]
      rw [hi i h, hr i h, hl i h]
    · rw [List.getElem?_eq_none (by simpa using Nat.le_of_not_lt hN)]
      rfl
theorem ent_o {ad : Nat → Nat} {cc : ClassId} {c n : Nat} {f : Nat → Int32} {g : Nat → Option Nat} {h : Nat → Int64} (hc : c < 6) : ent ad cc c n f g h = .inr (c, (List.range (nf c)).map (sv ad c f g h)) := by unfold ent; rw [if_pos hc]
theorem ent_i {ad : Nat → Nat} {cc : ClassId} {n : Nat} {f : Nat → Int32} {g : Nat → Option Nat} {h : Nat → Int64} : ent ad cc 6 n f g h = .inl (cc, n, .inl f) := rfl
theorem ent_9 {ad : Nat → Nat} {cc : ClassId} {n : Nat} {f : Nat → Int32} {g : Nat → Option Nat} {h : Nat → Int64} : ent ad cc 9 n f g h = .inl (cc, n, .inl f) := rfl
theorem ent_r {ad : Nat → Nat} {cc : ClassId} {n : Nat} {f : Nat → Int32} {g : Nat → Option Nat} {h : Nat → Int64} : ent ad cc 7 n f g h = .inl (cc, n, .inr (.inr (.inr (.inr fun j => (g j).map ad)))) := rfl
theorem ent_l {ad : Nat → Nat} {cc : ClassId} {n : Nat} {f : Nat → Int32} {g : Nat → Option Nat} {h : Nat → Int64} : ent ad cc 8 n f g h = .inl (cc, n, .inr (.inl h)) := rfl
theorem sv_at {ad : Nat → Nat} {c : Nat} {f : Nat → Int32} {g : Nat → Option Nat} {h : Nat → Int64} {j : Nat} (hj : j < nf c) : ((List.range (nf c)).map (sv ad c f g h))[j]? = some (sv ad c f g h j) := by
  rw [List.getElem?_map, List.getElem?_range hj]; rfl
theorem sv_set {ad : Nat → Nat} {c : Nat} {f f' : Nat → Int32} {g g' : Nat → Option Nat} {h h' : Nat → Int64} {j : Nat} {v : Value} (hj : j < nf c) (hv : sv ad c f' g' h' j = v) (ho : ∀ i, i ≠ j → sv ad c f' g' h' i = sv ad c f g h i) : ((List.range (nf c)).map (sv ad c f g h)).set j v = (List.range (nf c)).map (sv ad c f' g' h') := by
  refine List.ext_getElem? fun i => ?_
  by_cases e : i = j
  · subst e
    rw [List.getElem?_set_self (by simpa using hj), sv_at hj, hv]
  · rw [List.getElem?_set_ne (fun q => e q.symm), List.getElem?_map, List.getElem?_map]
    by_cases hN : i < nf c
    · rw [List.getElem?_range hN]
      simp only [Option.map_some]
      rw [ho i e]
    · rw [List.getElem?_eq_none (by simpa using Nat.le_of_not_lt hN)]
      rfl
theorem wd_ui {ad : Nat → Nat} {cy : Nat → ClassId} {N : Nat} {im : TI} {rm : TP} {lm : TL} {k c j : Nat} {x : Int32} (hk : k < N) (hc : kd k = c) (hc6 : c < 6) (hs : sty c j = 0) (hj : j < nf c) :
    (wd ad cy N im rm lm).set k (ad k, .inr (c, ((List.range (nf c)).map (sv ad c (im k) (rm k) (lm k))).set j (.int x))) = wd ad cy N (ui im k j x) rm lm := by
  refine wd_set hk ?_ (fun q h => by unfold ui; rw [if_neg h]) (fun _ _ => rfl) (fun _ _ => rfl)
  rw [hc, ent_o hc6]
  congr 2
  refine (sv_set hj ?_ fun i h => ?_).symm
  · unfold sv ui; rw [if_pos hs]; simp [upd]
  · unfold sv ui; simp [upd, h]
theorem wd_ul {ad : Nat → Nat} {cy : Nat → ClassId} {N : Nat} {im : TI} {rm : TP} {lm : TL} {k c j : Nat} {x : Int64} (hk : k < N) (hc : kd k = c) (hc6 : c < 6) (hs : sty c j = 2) (hj : j < nf c) :
    (wd ad cy N im rm lm).set k (ad k, .inr (c, ((List.range (nf c)).map (sv ad c (im k) (rm k) (lm k))).set j (.long x))) = wd ad cy N im rm (ul lm k j x) := by
  refine wd_set hk ?_ (fun _ _ => rfl) (fun _ _ => rfl) (fun q h => by unfold ul; rw [if_neg h])
  rw [hc, ent_o hc6]
  congr 2
  refine (sv_set hj ?_ fun i h => ?_).symm
  · unfold sv ul; rw [hs]; simp [vp_updL]
  · unfold sv ul; simp [vp_updL, h]
theorem wd_ur {ad : Nat → Nat} {cy : Nat → ClassId} {N : Nat} {im : TI} {rm : TP} {lm : TL} {k c j : Nat} {x : Option Nat} (hk : k < N) (hc : kd k = c) (hc6 : c < 6) (hs : sty c j = 1) (hj : j < nf c) :
    (wd ad cy N im rm lm).set k (ad k, .inr (c, ((List.range (nf c)).map (sv ad c (im k) (rm k) (lm k))).set j (rf ad x))) = wd ad cy N im (ur rm k j x) lm := by
  refine wd_set hk ?_ (fun _ _ => rfl) (fun q h => by unfold ur; rw [if_neg h]) (fun _ _ => rfl)
  rw [hc, ent_o hc6]
  congr 2
  refine (sv_set hj ?_ fun i h => ?_).symm
  · unfold sv ur; rw [hs]; simp [va_up]
  · unfold sv ur; simp [va_up, h]
theorem wd_ai {ad : Nat → Nat} {cy : Nat → ClassId} {N : Nat} {im : TI} {rm : TP} {lm : TL} {k j : Nat} {x : Int32} (hk : k < N) (hc : kd k = 6) :
    (wd ad cy N im rm lm).set k (ad k, .inl (cy k, al k, .inl (upd (im k) j x))) = wd ad cy N (ui im k j x) rm lm := by
  refine wd_set hk ?_ (fun q h => by unfold ui; rw [if_neg h]) (fun _ _ => rfl) (fun _ _ => rfl)
  rw [hc, ent_i]
  unfold ui
  rw [if_pos rfl]
theorem wd_ai9 {ad : Nat → Nat} {cy : Nat → ClassId} {N : Nat} {im : TI} {rm : TP} {lm : TL} {k j : Nat} {x : Int32} (hk : k < N) (hc : kd k = 9) :
    (wd ad cy N im rm lm).set k (ad k, .inl (cy k, al k, .inl (upd (im k) j x))) = wd ad cy N (ui im k j x) rm lm := by
  refine wd_set hk ?_ (fun q h => by unfold ui; rw [if_neg h]) (fun _ _ => rfl) (fun _ _ => rfl)
  rw [hc, ent_9]
  unfold ui
  rw [if_pos rfl]
theorem wd_al {ad : Nat → Nat} {cy : Nat → ClassId} {N : Nat} {im : TI} {rm : TP} {lm : TL} {k j : Nat} {x : Int64} (hk : k < N) (hc : kd k = 8) :
    (wd ad cy N im rm lm).set k (ad k, .inl (cy k, al k, .inr (.inl (vp_updL (lm k) j x)))) = wd ad cy N im rm (ul lm k j x) := by
  refine wd_set hk ?_ (fun _ _ => rfl) (fun _ _ => rfl) (fun q h => by unfold ul; rw [if_neg h])
  rw [hc, ent_l]
  unfold ul
  rw [if_pos rfl]
theorem wd_ar {ad : Nat → Nat} {cy : Nat → ClassId} {N : Nat} {im : TI} {rm : TP} {lm : TL} {k j x : Nat} (hk : k < N) (hc : kd k = 7) :
    (wd ad cy N im rm lm).set k (ad k, .inl (cy k, al k, .inr (.inr (.inr (.inr (va_up (fun j => (rm k j).map ad) j (some (ad x)))))))) = wd ad cy N im (ur rm k j (some x)) lm := by
  refine wd_set hk ?_ (fun _ _ => rfl) (fun q h => by unfold ur; rw [if_neg h]) (fun _ _ => rfl)
  rw [hc, ent_r]
  congr 7
  funext i
  unfold ur
  rw [if_pos rfl]
  by_cases h : i = j
  · subst h; simp [va_up]
  · simp [va_up, h]
theorem sv_i {ad : Nat → Nat} {c : Nat} {f : Nat → Int32} {g : Nat → Option Nat} {h : Nat → Int64} {j : Nat} (hs : sty c j = 0) : sv ad c f g h j = .int (f j) := by unfold sv; rw [if_pos hs]
theorem sv_r {ad : Nat → Nat} {c : Nat} {f : Nat → Int32} {g : Nat → Option Nat} {h : Nat → Int64} {j : Nat} (hs : sty c j = 1) : sv ad c f g h j = rf ad (g j) := by unfold sv; rw [hs]; rfl
theorem sv_l {ad : Nat → Nat} {c : Nat} {f : Nat → Int32} {g : Nat → Option Nat} {h : Nat → Int64} {j : Nat} (hs : sty c j = 2) : sv ad c f g h j = .long (h j) := by unfold sv; rw [hs]; rfl

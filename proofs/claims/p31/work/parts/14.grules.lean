/-! The rules over a finished memory: 240 ids, references as options -/
abbrev NN : Nat := 240
theorem kdl_len : kdl.length = NN := by decide +kernel
theorem kd_lt {k c : Nat} (h : kd k = c) (hc : c ≤ 8) : k < NN := by
  rcases Nat.lt_or_ge k NN with h1 | h1
  · exact h1
  · by_cases h2 : 240 ≤ k ∧ k < 243
    · have : kd k = 9 := by rw [kd_eq]; unfold kd0; rw [if_pos h2]
      omega
    · have : kd k = 99 := by
        rw [kd_eq]; unfold kd0
        rw [if_neg h2, List.getD_eq_getElem?_getD, List.getElem?_eq_none (by rw [kdl_len]; exact h1)]
        rfl
      omega
/-- nothing is thrown -/
def noX : TX := fun _ _ _ _ => False
/-- an answer, the memory as it was -/
def QP (v : Value) (im : TI) (rm : TP) (lm : TL) : TQ := fun N' w i r q => N' = NN ∧ w = some v ∧ i = im ∧ r = rm ∧ q = lm
/-- no answer, other ints -/
def QV (Φ : TI → Prop) (rm : TP) (lm : TL) : TQ := fun N' w i r q => N' = NN ∧ w = none ∧ r = rm ∧ q = lm ∧ Φ i
/-- an int, other ints -/
def QI (Φ : Int32 → TI → Prop) (rm : TP) (lm : TL) : TQ := fun N' w i r q => N' = NN ∧ r = rm ∧ q = lm ∧ ∃ x, w = some (.int x) ∧ Φ x i
/-- whatever -/
def QG (Φ : Option Value → TI → TP → TL → Prop) : TQ := fun N' w i r q => N' = NN ∧ Φ w i r q
section PWG
variable {l : Launch} {mt y : MT} {d dc mc ms mcc msc pc i n : Nat} {L : List (Option Value)} {st as rest : List Value} {im : TI} {rm : TP} {lm : TL} {Q Qc : TQ} {X Xc : TX}
theorem g_null (hd : decode mt.2.1 pc = .ok (.aconst_null, 1)) (k : PW l mt d mc ms NN (pc + 1) L (pv none :: st) im rm lm Q X) : PW l mt d mc ms NN pc L st im rm lm Q X := pw_null hd k
theorem g_geti {ci j k : Nat} {C : String} {T : u_T} {n : Nat} {ty : Nat → FieldType} (hT : FT ci C T n ty) (hw : Cond.fieldLink mt.1.cls i (T j).1 (T j).2.1 (T j).2.2.1 ∈ wsAll) (hj : j < n ∧ sty ci j = 0) (hd : decode mt.2.1 pc = .ok (.getfield i, 3)) (hk : kd k = ci)
    (K : PW l mt d mc ms NN (pc + 3) L (.int (im k j) :: st) im rm lm Q X) : PW l mt d mc ms NN pc L (pv (some k) :: st) im rm lm Q X := pw_geti hT hw hj.1 hj.2 hd hk (kd_lt hk (Nat.le_trans (Nat.le_of_lt hT.2.2.2.1) (by decide))) K
theorem g_getl {ci j k : Nat} {C : String} {T : u_T} {n : Nat} {ty : Nat → FieldType} (hT : FT ci C T n ty) (hw : Cond.fieldLink mt.1.cls i (T j).1 (T j).2.1 (T j).2.2.1 ∈ wsAll) (hj : j < n ∧ sty ci j = 2) (hd : decode mt.2.1 pc = .ok (.getfield i, 3)) (hk : kd k = ci)
    (K : PW l mt d mc ms NN (pc + 3) L (.long (lm k j) :: st) im rm lm Q X) : PW l mt d mc ms NN pc L (pv (some k) :: st) im rm lm Q X := pw_getl hT hw hj.1 hj.2 hd hk (kd_lt hk (Nat.le_trans (Nat.le_of_lt hT.2.2.2.1) (by decide))) K
theorem g_getr {ci j k : Nat} {C : String} {T : u_T} {n : Nat} {ty : Nat → FieldType} {o : Option Nat} (hT : FT ci C T n ty) (hw : Cond.fieldLink mt.1.cls i (T j).1 (T j).2.1 (T j).2.2.1 ∈ wsAll) (hj : j < n ∧ sty ci j = 1) (hd : decode mt.2.1 pc = .ok (.getfield i, 3)) (hk : kd k = ci) (ho : rm k j = o)
    (K : PW l mt d mc ms NN (pc + 3) L (pv o :: st) im rm lm Q X) : PW l mt d mc ms NN pc L (pv (some k) :: st) im rm lm Q X := pw_getr hT hw hj.1 hj.2 hd hk (kd_lt hk (Nat.le_trans (Nat.le_of_lt hT.2.2.2.1) (by decide))) ho K
theorem g_puti {ci j k : Nat} {C : String} {T : u_T} {n : Nat} {ty : Nat → FieldType} {x : Int32} (hT : FT ci C T n ty) (hw : Cond.fieldLink mt.1.cls i (T j).1 (T j).2.1 (T j).2.2.1 ∈ wsAll) (hj : j < n ∧ sty ci j = 0 ∧ (T j).2.2.2 = false)
    (hn : narrow (ty j) (.int x) = .int x ∧ fits (ty j) (.int x) = true) (hd : decode mt.2.1 pc = .ok (.putfield i, 3)) (hk : kd k = ci)
    (K : PW l mt d mc ms NN (pc + 3) L st (ui im k j x) rm lm Q X) : PW l mt d mc ms NN pc L (.int x :: pv (some k) :: st) im rm lm Q X := pw_puti hT hw hj.1 hj.2.1 (Or.inl hj.2.2) hn hd hk (kd_lt hk (Nat.le_trans (Nat.le_of_lt hT.2.2.2.1) (by decide))) K
theorem g_putl {ci j k : Nat} {C : String} {T : u_T} {n : Nat} {ty : Nat → FieldType} {x : Int64} (hT : FT ci C T n ty) (hw : Cond.fieldLink mt.1.cls i (T j).1 (T j).2.1 (T j).2.2.1 ∈ wsAll) (hj : j < n ∧ sty ci j = 2 ∧ (T j).2.2.2 = false)
    (hn : narrow (ty j) (.long x) = .long x ∧ fits (ty j) (.long x) = true) (hd : decode mt.2.1 pc = .ok (.putfield i, 3)) (hk : kd k = ci)
    (K : PW l mt d mc ms NN (pc + 3) L st im rm (ul lm k j x) Q X) : PW l mt d mc ms NN pc L (.long x :: pv (some k) :: st) im rm lm Q X := pw_putl hT hw hj.1 hj.2.1 (Or.inl hj.2.2) hn hd hk (kd_lt hk (Nat.le_trans (Nat.le_of_lt hT.2.2.2.1) (by decide))) K
theorem g_iald {z : Int32} {k : Nat} (hd : decode mt.2.1 pc = .ok (.iaload, 1)) (hk : kd k = 6) (hin : vp_in z (al k)) (K : PW l mt d mc ms NN (pc + 1) L (.int (im k z.toNatClampNeg) :: st) im rm lm Q X) : PW l mt d mc ms NN pc L (.int z :: pv (some k) :: st) im rm lm Q X := pw_iald hd hk (kd_lt hk (by decide)) hin K
theorem g_iast {z x : Int32} {k : Nat} (hd : decode mt.2.1 pc = .ok (.iastore, 1)) (hk : kd k = 6) (hin : vp_in z (al k)) (K : PW l mt d mc ms NN (pc + 1) L st (ui im k z.toNatClampNeg x) rm lm Q X) : PW l mt d mc ms NN pc L (.int x :: .int z :: pv (some k) :: st) im rm lm Q X := pw_iast hd hk (kd_lt hk (by decide)) hin K
theorem g_lald {z : Int32} {k : Nat} (hd : decode mt.2.1 pc = .ok (.laload, 1)) (hk : kd k = 8) (hin : vp_in z (al k)) (K : PW l mt d mc ms NN (pc + 1) L (.long (lm k z.toNatClampNeg) :: st) im rm lm Q X) : PW l mt d mc ms NN pc L (.int z :: pv (some k) :: st) im rm lm Q X := pw_lald hd hk (kd_lt hk (by decide)) hin K
theorem g_last {z : Int32} {x : Int64} {k : Nat} (hd : decode mt.2.1 pc = .ok (.lastore, 1)) (hk : kd k = 8) (hin : vp_in z (al k)) (K : PW l mt d mc ms NN (pc + 1) L st im rm (ul lm k z.toNatClampNeg x) Q X) : PW l mt d mc ms NN pc L (.long x :: .int z :: pv (some k) :: st) im rm lm Q X := pw_last hd hk (kd_lt hk (by decide)) hin K
theorem g_aald {z : Int32} {k : Nat} {o : Option Nat} (hd : decode mt.2.1 pc = .ok (.aaload, 1)) (hk : kd k = 7) (hin : vp_in z (al k)) (ho : rm k z.toNatClampNeg = o) (K : PW l mt d mc ms NN (pc + 1) L (pv o :: st) im rm lm Q X) : PW l mt d mc ms NN pc L (.int z :: pv (some k) :: st) im rm lm Q X := pw_aald hd hk (kd_lt hk (by decide)) hin ho K
theorem g_aast {z : Int32} {k x : Nat} (hd : decode mt.2.1 pc = .ok (.aastore, 1)) (hk : kd k = 7) (hx : kd x = 0) (hin : vp_in z (al k)) (K : PW l mt d mc ms NN (pc + 1) L st im (ur rm k z.toNatClampNeg (some x)) lm Q X) : PW l mt d mc ms NN pc L (pv (some x) :: .int z :: pv (some k) :: st) im rm lm Q X := pw_aast hd hk (kd_lt hk (by decide)) hx (kd_lt hx (by decide)) hin K
theorem g_alen {k : Nat} {v : Int32} (hd : decode mt.2.1 pc = .ok (.arraylength, 1)) (hk : kd k = 6) (hv : Int32.ofNat (al k) = v) (K : PW l mt d mc ms NN (pc + 1) L (.int v :: st) im rm lm Q X) : PW l mt d mc ms NN pc L (pv (some k) :: st) im rm lm Q X := pw_alen hd hk (kd_lt hk (by decide)) hv K
/-- branches that are known -/
theorem g_acmp_eq {x z : Option Nat} {off : Int} (tgt : Nat) (inj : ∀ a b, x = some a → z = some b → a < NN ∧ b < NN) (hd : decode mt.2.1 pc = .ok (.if_acmp .eq off, 3)) (ht : (pc : Int) + off = (tgt : Int)) (kt : x = z → PW l mt d mc ms NN tgt L st im rm lm Q X) (kf : ¬ x = z → PW l mt d mc ms NN (pc + 3) L st im rm lm Q X) : PW l mt d mc ms NN pc L (pv z :: pv x :: st) im rm lm Q X := by
  intro p e s m args below meth c D A ad cy MC MS Z H locs cells slots ls hF hW hL hc hs hR hT
  have hst : (pv z :: pv x :: st).map (tr ad) = va_rf (z.map ad) :: va_rf (x.map ad) :: st.map (tr ad) := by
    simp only [List.map_cons, tr_pv]; rfl
  rw [hst]
  have hiff : x.map ad = z.map ad ↔ x = z := by
    refine ⟨fun h => ?_, fun h => by rw [h]⟩
    cases x with
    | none => cases z with
      | none => rfl
      | some b => simp at h
    | some a => cases z with
      | none => simp at h
      | some b =>
        simp only [Option.map_some, Option.some.injEq] at h
        obtain ⟨h1, h2⟩ := inj a b rfl rfl
        rw [hW.2.1.1 a b _ _ (wd_get h1) (wd_get h2) h]
  exact lv_acmp_eq (tgt := tgt) hF.1 hF.2.1 hd ht (fun h => kt (hiff.mp h) p e s m args below meth c D A ad cy MC MS Z H locs cells slots ls hF hW hL hc hs hR hT) (fun h => kf (fun q => h (hiff.mpr q)) p e s m args below meth c D A ad cy MC MS Z H locs cells slots ls hF hW hL hc hs hR hT)
end PWG

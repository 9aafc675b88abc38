/-! TideMills$PartReader: the automaton, over the memory as it is -/
def nuI (im : TI) (x : Int32) : Int32 := if ¬ x < 0 ∧ x < 3 then im 239 x.toNatClampNeg else -1
def lsI (k r : Int32) : Int32 := if k = 43 then 1 else if r = 0 then 0 else if k = 115 then 1 else 8
def msI (k r : Int32) : Int32 := if k = 43 then 48 else if r = 0 then 4 else if k = 103 then 60 else if r = 1 then 999 else 9999
def lnI (k : Int32) : Int32 := if k = 43 then 0 else 2
/-- whether a number, or with up to n digits behind it, lies in the range -/
def cbB (lo hi : Int32) : Nat → Int32 → Int32 → Bool
  | 0, _, _ => false
  | n + 1, a, b => decide (a ≤ hi ∧ lo ≤ b) || cbB lo hi n (a * 10) (b * 10 + 9)
abbrev cbL (lo hi : Int32) (n : Nat) (a b : Int32) : Prop := cbB lo hi n a b = true
theorem cbL_s {lo hi : Int32} {n : Nat} {a b : Int32} : cbL lo hi (n + 1) a b ↔ ((a ≤ hi ∧ lo ≤ b) ∨ cbL lo hi n (a * 10) (b * 10 + 9)) := by
  show (decide (a ≤ hi ∧ lo ≤ b) || cbB lo hi n (a * 10) (b * 10 + 9)) = true ↔ _
  rw [Bool.or_eq_true, decide_eq_true_iff]
theorem cbL_0 {lo hi : Int32} {a b : Int32} : ¬ cbL lo hi 0 a b := by
  show ¬ (false = true)
  decide
abbrev cbP (k r v : Int32) : Prop := (v = 0 ∧ lsI k r = 0) ∨ (¬ v = 0 ∧ cbL (lsI k r) (msI k r) 4 v v)
abbrev nwP (im : TI) : Prop := 0 < im 238 3 ∧ lsI (im 238 0) (im 238 2) ≤ nuI im (im 238 2) ∧ nuI im (im 238 2) ≤ msI (im 238 0) (im 238 2)
abbrev pwP (im : TI) : Prop := ¬ im 238 0 = -1 ∧ im 238 2 = lnI (im 238 0) ∧ nwP im
def bgM (im : TI) (x : Int32) : TI := if ¬ x < 0 ∧ x < 3 then ui (ui (ui im 238 2 x) 238 3 0) 239 x.toNatClampNeg 0 else ui (ui im 238 2 x) 238 3 0
def beM (im : TI) : TI := bgM (ui im 238 0 (-1)) 0
def tkK (im : TI) (x : Int32) : Int32 × TI := if x = 115 ∨ x = 103 ∨ x = 43 then (1, ui im 238 0 x) else (0, im)
abbrev tdP (im : TI) (x : Int32) : Prop := ¬ (0 < im 238 3 ∧ nuI im (im 238 2) = 0) ∧ cbP (im 238 0) (im 238 2) (nuI im (im 238 2) * 10 + x) ∧ ¬ im 238 2 < 0 ∧ im 238 2 < 3
def tkD (im : TI) (x : Int32) : Int32 × TI := if tdP im x then (1, ui (ui im 239 (im 238 2).toNatClampNeg (nuI im (im 238 2) * 10 + x)) 238 3 (im 238 3 + 1)) else (0, im)
def tkC (im : TI) : Int32 × TI := if nwP im ∧ im 238 2 < lnI (im 238 0) then (1, bgM im (im 238 2 + 1)) else (0, im)
def tkS (im : TI) : Int32 × TI := if pwP im then (1, beM im) else (0, im)
def tkA (im : TI) (x : Int32) : Int32 × TI := if im 238 0 = -1 then tkK im x else if 48 ≤ x ∧ x ≤ 57 then tkD im (x - 48) else if x = 44 then tkC im else if x = 59 then tkS im else (0, im)
def bitP (p : Int32 × TI) : Prop := p.1 = 0 ∨ p.1 = 1
theorem bit_if {p : Prop} [Decidable p] {a b : Int32 × TI} (ha : bitP a) (hb : bitP b) : bitP (if p then a else b) := by split <;> assumption
theorem bit1 {i : TI} : bitP (1, i) := Or.inr rfl
theorem bit0 {i : TI} : bitP (0, i) := Or.inl rfl
theorem tkK_bit {im : TI} {x : Int32} : bitP (tkK im x) := bit_if bit1 bit0
theorem tkD_bit {im : TI} {x : Int32} : bitP (tkD im x) := bit_if bit1 bit0
theorem tkC_bit {im : TI} : bitP (tkC im) := bit_if bit1 bit0
theorem tkS_bit {im : TI} : bitP (tkS im) := bit_if bit1 bit0
theorem tkA_bit {im : TI} {x : Int32} : bitP (tkA im x) := bit_if tkK_bit (bit_if tkD_bit (bit_if tkC_bit (bit_if tkS_bit bit0)))
theorem bI_nz {p : Prop} [Decidable p] (h : ¬ bI p = 0) : p := Classical.not_not.mp (fun z => h (bI_0.mpr z))
theorem bit_nz {v : Int32} {i : TI} {p : Int32 × TI} (h : (v, i) = p) (b : bitP p) : narrow .boolean (.int v) = .int v := by
  subst h
  rcases b with e | e
  · rw [show v = 0 from e]; rfl
  · rw [show v = 1 from e]; rfl
set_option maxHeartbeats 4000000 in
set_option maxRecDepth 100000 in
theorem C_rNum {l : Launch} (hlt : l.stackTraces = false) {im : TI} {rm : TP} {lm : TL} (ht : rm 238 1 = some 239) {x : Int32} : Con l m_X3_numberAt 0 0 0 NN [pv (some 238), .int (x)] im rm lm (QP (.int (nuI im x)) im rm lm) noX := by
  have hk3 := kdR
  have hk9 := kdN
  refine Con.ofN (k := 0) (L0 := [some (pv (some 238)), some (.int (x))]) hlt (by decide +kernel) rfl rfl (by rw [en1 pv_cat, en1 rfl, en0]; exact Nat.le_of_ble_eq_true rfl) (by rw [en1 pv_cat, en1 rfl, en0]; rfl) ?_
  refine t_iload1 dX3_numberAt_0 ?_
  refine pw_if_lt 18 dX3_numberAt_1 (by decide) (fun zc1 => ?_) (fun zc1 => ?_)
  · refine pw_iconst (-1) dX3_numberAt_18 (by decide) ?_
    refine pw_iret dX3_numberAt_19 rfl ?_
    exact ⟨rfl, by rw [nuI, if_neg (fun z => z.1 zc1)], rfl, rfl, rfl⟩
  · refine t_iload1 dX3_numberAt_4 ?_
    refine pw_iconst (3) dX3_numberAt_5 (by decide) ?_
    refine pw_icmp_ge 18 dX3_numberAt_6 (by decide) (fun zc6 => ?_) (fun zc6 => ?_)
    · refine pw_iconst (-1) dX3_numberAt_18 (by decide) ?_
      refine pw_iret dX3_numberAt_19 rfl ?_
      exact ⟨rfl, by rw [nuI, if_neg (fun z => absurd z.2 (Int32.not_lt.mpr zc6))], rfl, rfl, rfl⟩
    · refine t_aload0 dX3_numberAt_9 ?_
      refine g_getr ft3 fl_X3_15 (j := 1) (by decide) dX3_numberAt_10 (by assumption) (by assumption) ?_
      refine t_iload1 dX3_numberAt_13 ?_
      refine g_iald dX3_numberAt_14 (by assumption) (by rw [alN]; exact vin zc1 (Int32.not_le.mp zc6) rfl) ?_
      refine pw_goto 19 dX3_numberAt_15 (by decide) ?_
      refine pw_iret dX3_numberAt_19 rfl ?_
      exact ⟨rfl, by rw [nuI, if_pos ⟨zc1, Int32.not_le.mp zc6⟩], rfl, rfl, rfl⟩
set_option maxHeartbeats 4000000 in
set_option maxRecDepth 100000 in
theorem C_rLast {l : Launch} (hlt : l.stackTraces = false) {im : TI} {rm : TP} {lm : TL}  : Con l m_X3_lastNumber 0 0 0 NN [pv (some 238)] im rm lm (QP (.int (lnI (im 238 0))) im rm lm) noX := by
  have hk3 := kdR
  have hk9 := kdN
  refine Con.ofN (k := 0) (L0 := [some (pv (some 238))]) hlt (by decide +kernel) rfl rfl (by rw [en1 pv_cat, en0]; exact Nat.le_of_ble_eq_true rfl) (by rw [en1 pv_cat, en0]; rfl) ?_
  refine t_aload0 dX3_lastNumber_0 ?_
  refine g_geti ft3 fl_X3_9 (j := 0) (by decide) dX3_lastNumber_1 (by assumption) ?_
  refine pw_bipush (43) dX3_lastNumber_4 (by decide) ?_
  refine pw_icmp_ne 13 dX3_lastNumber_6 (by decide) (fun zc6 => ?_) (fun zc6 => ?_)
  · refine pw_iconst (2) dX3_lastNumber_13 (by decide) ?_
    refine pw_iret dX3_lastNumber_14 rfl ?_
    exact ⟨rfl, by rw [lnI, if_neg zc6], rfl, rfl, rfl⟩
  · refine pw_iconst (0) dX3_lastNumber_9 (by decide) ?_
    refine pw_goto 14 dX3_lastNumber_10 (by decide) ?_
    refine pw_iret dX3_lastNumber_14 rfl ?_
    exact ⟨rfl, by rw [lnI, if_pos (Classical.not_not.mp zc6)], rfl, rfl, rfl⟩
set_option maxHeartbeats 4000000 in
set_option maxRecDepth 100000 in
theorem C_rLeast {l : Launch} (hlt : l.stackTraces = false) {im : TI} {rm : TP} {lm : TL}  : Con l m_X3_least 0 0 0 NN [pv (some 238)] im rm lm (QP (.int (lsI (im 238 0) (im 238 2))) im rm lm) noX := by
  have hk3 := kdR
  have hk9 := kdN
  refine Con.ofN (k := 0) (L0 := [some (pv (some 238))]) hlt (by decide +kernel) rfl rfl (by rw [en1 pv_cat, en0]; exact Nat.le_of_ble_eq_true rfl) (by rw [en1 pv_cat, en0]; rfl) ?_
  refine t_aload0 dX3_least_0 ?_
  refine g_geti ft3 fl_X3_9 (j := 0) (by decide) dX3_least_1 (by assumption) ?_
  refine pw_bipush (43) dX3_least_4 (by decide) ?_
  refine pw_icmp_ne 11 dX3_least_6 (by decide) (fun zc6 => ?_) (fun zc6 => ?_)
  · refine t_aload0 dX3_least_11 ?_
    refine g_geti ft3 fl_X3_19 (j := 2) (by decide) dX3_least_12 (by assumption) ?_
    refine pw_if_ne 20 dX3_least_15 (by decide) (fun zc15 => ?_) (fun zc15 => ?_)
    · refine t_aload0 dX3_least_20 ?_
      refine g_geti ft3 fl_X3_9 (j := 0) (by decide) dX3_least_21 (by assumption) ?_
      refine pw_bipush (115) dX3_least_24 (by decide) ?_
      refine pw_icmp_ne 33 dX3_least_26 (by decide) (fun zc26 => ?_) (fun zc26 => ?_)
      · refine pw_bipush (8) dX3_least_33 (by decide) ?_
        refine pw_iret dX3_least_35 rfl ?_
        exact ⟨rfl, by rw [lsI, if_neg zc6, if_neg zc15, if_neg zc26], rfl, rfl, rfl⟩
      · refine pw_iconst (1) dX3_least_29 (by decide) ?_
        refine pw_goto 35 dX3_least_30 (by decide) ?_
        refine pw_iret dX3_least_35 rfl ?_
        exact ⟨rfl, by rw [lsI, if_neg zc6, if_neg zc15, if_pos (Classical.not_not.mp zc26)], rfl, rfl, rfl⟩
    · refine pw_iconst (0) dX3_least_18 (by decide) ?_
      refine pw_iret dX3_least_19 rfl ?_
      exact ⟨rfl, by rw [lsI, if_neg zc6, if_pos (Classical.not_not.mp zc15)], rfl, rfl, rfl⟩
  · refine pw_iconst (1) dX3_least_9 (by decide) ?_
    refine pw_iret dX3_least_10 rfl ?_
    exact ⟨rfl, by rw [lsI, if_pos (Classical.not_not.mp zc6)], rfl, rfl, rfl⟩
set_option maxHeartbeats 4000000 in
set_option maxRecDepth 100000 in
theorem C_rMost {l : Launch} (hlt : l.stackTraces = false) {im : TI} {rm : TP} {lm : TL}  : Con l m_X3_most 0 0 0 NN [pv (some 238)] im rm lm (QP (.int (msI (im 238 0) (im 238 2))) im rm lm) noX := by
  have hk3 := kdR
  have hk9 := kdN
  refine Con.ofN (k := 0) (L0 := [some (pv (some 238))]) hlt (by decide +kernel) rfl rfl (by rw [en1 pv_cat, en0]; exact Nat.le_of_ble_eq_true rfl) (by rw [en1 pv_cat, en0]; rfl) ?_
  refine t_aload0 dX3_most_0 ?_
  refine g_geti ft3 fl_X3_9 (j := 0) (by decide) dX3_most_1 (by assumption) ?_
  refine pw_bipush (43) dX3_most_4 (by decide) ?_
  refine pw_icmp_ne 12 dX3_most_6 (by decide) (fun zc6 => ?_) (fun zc6 => ?_)
  · refine t_aload0 dX3_most_12 ?_
    refine g_geti ft3 fl_X3_19 (j := 2) (by decide) dX3_most_13 (by assumption) ?_
    refine pw_if_ne 21 dX3_most_16 (by decide) (fun zc16 => ?_) (fun zc16 => ?_)
    · refine t_aload0 dX3_most_21 ?_
      refine g_geti ft3 fl_X3_9 (j := 0) (by decide) dX3_most_22 (by assumption) ?_
      refine pw_bipush (103) dX3_most_25 (by decide) ?_
      refine pw_icmp_ne 33 dX3_most_27 (by decide) (fun zc27 => ?_) (fun zc27 => ?_)
      · refine t_aload0 dX3_most_33 ?_
        refine g_geti ft3 fl_X3_19 (j := 2) (by decide) dX3_most_34 (by assumption) ?_
        refine pw_iconst (1) dX3_most_37 (by decide) ?_
        refine pw_icmp_ne 47 dX3_most_38 (by decide) (fun zc38 => ?_) (fun zc38 => ?_)
        · refine pw_sipush (9999) dX3_most_47 (by decide) ?_
          refine pw_iret dX3_most_50 rfl ?_
          exact ⟨rfl, by rw [msI, if_neg zc6, if_neg zc16, if_neg zc27, if_neg zc38], rfl, rfl, rfl⟩
        · refine pw_sipush (999) dX3_most_41 (by decide) ?_
          refine pw_goto 50 dX3_most_44 (by decide) ?_
          refine pw_iret dX3_most_50 rfl ?_
          exact ⟨rfl, by rw [msI, if_neg zc6, if_neg zc16, if_neg zc27, if_pos (Classical.not_not.mp zc38)], rfl, rfl, rfl⟩
      · refine pw_bipush (60) dX3_most_30 (by decide) ?_
        refine pw_iret dX3_most_32 rfl ?_
        exact ⟨rfl, by rw [msI, if_neg zc6, if_neg zc16, if_pos (Classical.not_not.mp zc27)], rfl, rfl, rfl⟩
    · refine pw_iconst (4) dX3_most_19 (by decide) ?_
      refine pw_iret dX3_most_20 rfl ?_
      exact ⟨rfl, by rw [msI, if_neg zc6, if_pos (Classical.not_not.mp zc16)], rfl, rfl, rfl⟩
  · refine pw_bipush (48) dX3_most_9 (by decide) ?_
    refine pw_iret dX3_most_11 rfl ?_
    exact ⟨rfl, by rw [msI, if_pos (Classical.not_not.mp zc6)], rfl, rfl, rfl⟩
set_option maxHeartbeats 4000000 in
set_option maxRecDepth 100000 in
theorem C_rWhole {l : Launch} (hlt : l.stackTraces = false) {im : TI} {rm : TP} {lm : TL} (ht : rm 238 1 = some 239) : Con l m_X3_numberIsWhole 1 0 0 NN [pv (some 238)] im rm lm (QP (.int (bI (nwP im))) im rm lm) noX := by
  have hk3 := kdR
  have hk9 := kdN
  refine Con.ofN (k := 1) (L0 := [some (pv (some 238)), none]) hlt (by decide +kernel) rfl rfl (by rw [en1 pv_cat, en0]; exact Nat.le_of_ble_eq_true rfl) (by rw [en1 pv_cat, en0]; rfl) ?_
  refine t_aload0 dX3_numberIsWhole_0 ?_
  refine t_aload0 dX3_numberIsWhole_1 ?_
  refine g_geti ft3 fl_X3_19 (j := 2) (by decide) dX3_numberIsWhole_2 (by assumption) ?_
  refine g_callV1P (C_rNum (l := l) hlt ht) rfl ft3 rfl mc_X3_numberAt ml_X3_50 mi_X3_numberAt ms_X3_numberAt in_X3 (okc_X3_numberAt (by decide)) dX3_numberIsWhole_5 (by assumption) (cat_le (Nat.le_of_ble_eq_true rfl)) ?_
  refine t_istore1 dX3_numberIsWhole_8 (by decide) okp_r ?_
  refine t_aload0 dX3_numberIsWhole_9 ?_
  refine g_geti ft3 fl_X3_22 (j := 3) (by decide) dX3_numberIsWhole_10 (by assumption) ?_
  refine pw_if_le 36 dX3_numberIsWhole_13 (by decide) (fun zc13 => ?_) (fun zc13 => ?_)
  · refine pw_iconst (0) dX3_numberIsWhole_36 (by decide) ?_
    refine pw_zret dX3_numberIsWhole_37 rfl ?_ ?_
    · first | rfl | exact bI_n
    · exact ⟨rfl, by rw [bI_f (fun z => absurd z.1 (Int32.not_lt.mpr zc13))], rfl, rfl, rfl⟩
  · refine t_iload1 dX3_numberIsWhole_16 ?_
    refine t_aload0 dX3_numberIsWhole_17 ?_
    refine g_callV0P (C_rLeast (l := l) hlt) rfl ft3 rfl mc_X3_least ml_X3_63 mi_X3_least ms_X3_least in_X3 (okc_X3_least (by decide)) dX3_numberIsWhole_18 (by assumption) (cat_le (Nat.le_of_ble_eq_true rfl)) ?_
    refine pw_icmp_lt 36 dX3_numberIsWhole_21 (by decide) (fun zc21 => ?_) (fun zc21 => ?_)
    · refine pw_iconst (0) dX3_numberIsWhole_36 (by decide) ?_
      refine pw_zret dX3_numberIsWhole_37 rfl ?_ ?_
      · first | rfl | exact bI_n
      · exact ⟨rfl, by rw [bI_f (fun z => absurd z.2.1 (Int32.not_le.mpr zc21))], rfl, rfl, rfl⟩
    · refine t_iload1 dX3_numberIsWhole_24 ?_
      refine t_aload0 dX3_numberIsWhole_25 ?_
      refine g_callV0P (C_rMost (l := l) hlt) rfl ft3 rfl mc_X3_most ml_X3_66 mi_X3_most ms_X3_most in_X3 (okc_X3_most (by decide)) dX3_numberIsWhole_26 (by assumption) (cat_le (Nat.le_of_ble_eq_true rfl)) ?_
      refine pw_icmp_gt 36 dX3_numberIsWhole_29 (by decide) (fun zc29 => ?_) (fun zc29 => ?_)
      · refine pw_iconst (0) dX3_numberIsWhole_36 (by decide) ?_
        refine pw_zret dX3_numberIsWhole_37 rfl ?_ ?_
        · first | rfl | exact bI_n
        · exact ⟨rfl, by rw [bI_f (fun z => absurd z.2.2 (Int32.not_le.mpr zc29))], rfl, rfl, rfl⟩
      · refine pw_iconst (1) dX3_numberIsWhole_32 (by decide) ?_
        refine pw_goto 37 dX3_numberIsWhole_33 (by decide) ?_
        refine pw_zret dX3_numberIsWhole_37 rfl ?_ ?_
        · first | rfl | exact bI_n
        · exact ⟨rfl, by rw [bI_t ⟨Int32.not_le.mp zc13, Int32.not_lt.mp zc21, Int32.not_lt.mp zc29⟩], rfl, rfl, rfl⟩
set_option maxHeartbeats 4000000 in
set_option maxRecDepth 100000 in
theorem C_rCan {l : Launch} (hlt : l.stackTraces = false) {im : TI} {rm : TP} {lm : TL} {x : Int32} : Con l m_X3_canBecomeNumber 1 0 0 NN [pv (some 238), .int (x)] im rm lm (QP (.int (bI (cbP (im 238 0) (im 238 2) x))) im rm lm) noX := by
  have hk3 := kdR
  have hk9 := kdN
  refine Con.ofN (k := 3) (L0 := [some (pv (some 238)), some (.int (x)), none, none, none]) hlt (by decide +kernel) rfl rfl (by rw [en1 pv_cat, en1 rfl, en0]; exact Nat.le_of_ble_eq_true rfl) (by rw [en1 pv_cat, en1 rfl, en0]; rfl) ?_
  have loop : ¬ x = 0 → ∀ (n k : Nat) (a b : Int32), k + n = 4 → (cbL (lsI (im 238 0) (im 238 2)) (msI (im 238 0) (im 238 2)) 4 x x ↔ cbL (lsI (im 238 0) (im 238 2)) (msI (im 238 0) (im 238 2)) n a b) → PW l m_X3_canBecomeNumber 1 0 0 NN 24 [some (pv (some 238)), some (.int x), some (.int a), some (.int b), some (.int (nI k))] [] im rm lm (QP (.int (bI (cbP (im 238 0) (im 238 2) x))) im rm lm) noX := by
    intro hx n
    induction n with
    | zero =>
      intro k a b hk hf
      refine t_iload4 dX3_canBecomeNumber_24 ?_
      refine pw_iconst (4) dX3_canBecomeNumber_26 (by decide) ?_
      refine pw_icmp_ge 67 dX3_canBecomeNumber_27 (by decide) (fun zc27 => ?_) (fun zc27 => ?_)
      · refine pw_iconst (0) dX3_canBecomeNumber_67 (by decide) ?_
        refine pw_zret dX3_canBecomeNumber_68 rfl ?_ ?_
        · first | rfl | exact bI_n
        · exact ⟨rfl, by rw [bI_f (fun z => z.elim (fun z => hx z.1) (fun z => cbL_0 (hf.mp z.2)))], rfl, rfl, rfl⟩
      · exact absurd ((nI_leI (a := 4) (b := k) (by decide) (by omega)).mpr (by omega)) zc27
    | succ n ih =>
      intro k a b hk hf
      refine t_iload4 dX3_canBecomeNumber_24 ?_
      refine pw_iconst (4) dX3_canBecomeNumber_26 (by decide) ?_
      refine pw_icmp_ge 67 dX3_canBecomeNumber_27 (by decide) (fun zc27 => ?_) (fun zc27 => ?_)
      · refine pw_iconst (0) dX3_canBecomeNumber_67 (by decide) ?_
        refine pw_zret dX3_canBecomeNumber_68 rfl ?_ ?_
        · first | rfl | exact bI_n
        · exact absurd ((nI_leI (a := 4) (b := k) (by decide) (by omega)).mp zc27) (by omega)
      · refine t_iload2 dX3_canBecomeNumber_30 ?_
        refine t_aload0 dX3_canBecomeNumber_31 ?_
        refine g_callV0P (C_rMost (l := l) hlt) rfl ft3 rfl mc_X3_most ml_X3_66 mi_X3_most ms_X3_most in_X3 (okc_X3_most (by decide)) dX3_canBecomeNumber_32 (by assumption) (cat_le (Nat.le_of_ble_eq_true rfl)) ?_
        refine pw_icmp_gt 48 dX3_canBecomeNumber_35 (by decide) (fun zc35 => ?_) (fun zc35 => ?_)
        · refine t_iload2 dX3_canBecomeNumber_48 ?_
          refine pw_bipush (10) dX3_canBecomeNumber_49 (by decide) ?_
          refine pw_imul dX3_canBecomeNumber_51 ?_
          refine t_istore2 dX3_canBecomeNumber_52 (by decide) okp_i ?_
          refine t_iload3 dX3_canBecomeNumber_53 ?_
          refine pw_bipush (10) dX3_canBecomeNumber_54 (by decide) ?_
          refine pw_imul dX3_canBecomeNumber_56 ?_
          refine pw_bipush (9) dX3_canBecomeNumber_57 (by decide) ?_
          refine pw_iadd dX3_canBecomeNumber_59 ?_
          refine t_istore3 dX3_canBecomeNumber_60 (by decide) okp_i ?_
          refine t_iinc4 (1) dX3_canBecomeNumber_61 (by decide) (by decide) okp_i ?_
          refine pw_goto 24 dX3_canBecomeNumber_64 (by decide) ?_
          rw [nI_1 k]
          exact ih (k + 1) _ _ (by omega) (hf.trans ⟨fun z => (cbL_s.mp z).resolve_left (fun y => absurd y.1 (Int32.not_le.mpr zc35)), fun z => cbL_s.mpr (Or.inr z)⟩)
        · refine t_iload3 dX3_canBecomeNumber_38 ?_
          refine t_aload0 dX3_canBecomeNumber_39 ?_
          refine g_callV0P (C_rLeast (l := l) hlt) rfl ft3 rfl mc_X3_least ml_X3_63 mi_X3_least ms_X3_least in_X3 (okc_X3_least (by decide)) dX3_canBecomeNumber_40 (by assumption) (cat_le (Nat.le_of_ble_eq_true rfl)) ?_
          refine pw_icmp_lt 48 dX3_canBecomeNumber_43 (by decide) (fun zc43 => ?_) (fun zc43 => ?_)
          · refine t_iload2 dX3_canBecomeNumber_48 ?_
            refine pw_bipush (10) dX3_canBecomeNumber_49 (by decide) ?_
            refine pw_imul dX3_canBecomeNumber_51 ?_
            refine t_istore2 dX3_canBecomeNumber_52 (by decide) okp_i ?_
            refine t_iload3 dX3_canBecomeNumber_53 ?_
            refine pw_bipush (10) dX3_canBecomeNumber_54 (by decide) ?_
            refine pw_imul dX3_canBecomeNumber_56 ?_
            refine pw_bipush (9) dX3_canBecomeNumber_57 (by decide) ?_
            refine pw_iadd dX3_canBecomeNumber_59 ?_
            refine t_istore3 dX3_canBecomeNumber_60 (by decide) okp_i ?_
            refine t_iinc4 (1) dX3_canBecomeNumber_61 (by decide) (by decide) okp_i ?_
            refine pw_goto 24 dX3_canBecomeNumber_64 (by decide) ?_
            rw [nI_1 k]
            exact ih (k + 1) _ _ (by omega) (hf.trans ⟨fun z => (cbL_s.mp z).resolve_left (fun y => absurd y.2 (Int32.not_le.mpr zc43)), fun z => cbL_s.mpr (Or.inr z)⟩)
          · refine pw_iconst (1) dX3_canBecomeNumber_46 (by decide) ?_
            refine pw_zret dX3_canBecomeNumber_47 rfl ?_ ?_
            · first | rfl | exact bI_n
            · exact ⟨rfl, by rw [bI_t (Or.inr ⟨hx, hf.mpr (cbL_s.mpr (Or.inl ⟨Int32.not_lt.mp zc35, Int32.not_lt.mp zc43⟩))⟩)], rfl, rfl, rfl⟩
  refine t_iload1 dX3_canBecomeNumber_0 ?_
  refine pw_if_ne 17 dX3_canBecomeNumber_1 (by decide) (fun zc1 => ?_) (fun zc1 => ?_)
  · refine t_iload1 dX3_canBecomeNumber_17 ?_
    refine t_istore2 dX3_canBecomeNumber_18 (by decide) okp_i ?_
    refine t_iload1 dX3_canBecomeNumber_19 ?_
    refine t_istore3 dX3_canBecomeNumber_20 (by decide) okp_i ?_
    refine pw_iconst (0) dX3_canBecomeNumber_21 (by decide) ?_
    refine t_istore4 dX3_canBecomeNumber_22 (by decide) okp_i ?_
    exact loop zc1 4 0 x x rfl Iff.rfl
  · refine t_aload0 dX3_canBecomeNumber_4 ?_
    refine g_callV0P (C_rLeast (l := l) hlt) rfl ft3 rfl mc_X3_least ml_X3_63 mi_X3_least ms_X3_least in_X3 (okc_X3_least (by decide)) dX3_canBecomeNumber_5 (by assumption) (cat_le (Nat.le_of_ble_eq_true rfl)) ?_
    refine pw_if_ne 15 dX3_canBecomeNumber_8 (by decide) (fun zc8 => ?_) (fun zc8 => ?_)
    · refine pw_iconst (0) dX3_canBecomeNumber_15 (by decide) ?_
      refine pw_zret dX3_canBecomeNumber_16 rfl ?_ ?_
      · first | rfl | exact bI_n
      · exact ⟨rfl, by rw [bI_f (fun z => z.elim (fun z => zc8 z.2) (fun z => z.1 (Classical.not_not.mp zc1)))], rfl, rfl, rfl⟩
    · refine pw_iconst (1) dX3_canBecomeNumber_11 (by decide) ?_
      refine pw_goto 16 dX3_canBecomeNumber_12 (by decide) ?_
      refine pw_zret dX3_canBecomeNumber_16 rfl ?_ ?_
      · first | rfl | exact bI_n
      · exact ⟨rfl, by rw [bI_t (Or.inl ⟨Classical.not_not.mp zc1, Classical.not_not.mp zc8⟩)], rfl, rfl, rfl⟩
set_option maxHeartbeats 4000000 in
set_option maxRecDepth 100000 in
theorem C_rPart {l : Launch} (hlt : l.stackTraces = false) {im : TI} {rm : TP} {lm : TL} (ht : rm 238 1 = some 239) : Con l m_X3_partIsWhole 2 0 0 NN [pv (some 238)] im rm lm (QP (.int (bI (pwP im))) im rm lm) noX := by
  have hk3 := kdR
  have hk9 := kdN
  refine Con.ofN (k := 0) (L0 := [some (pv (some 238))]) hlt (by decide +kernel) rfl rfl (by rw [en1 pv_cat, en0]; exact Nat.le_of_ble_eq_true rfl) (by rw [en1 pv_cat, en0]; rfl) ?_
  refine t_aload0 dX3_partIsWhole_0 ?_
  refine g_geti ft3 fl_X3_9 (j := 0) (by decide) dX3_partIsWhole_1 (by assumption) ?_
  refine pw_iconst (-1) dX3_partIsWhole_4 (by decide) ?_
  refine pw_icmp_eq 30 dX3_partIsWhole_5 (by decide) (fun zc5 => ?_) (fun zc5 => ?_)
  · refine pw_iconst (0) dX3_partIsWhole_30 (by decide) ?_
    refine pw_zret dX3_partIsWhole_31 rfl ?_ ?_
    · first | rfl | exact bI_n
    · exact ⟨rfl, by rw [bI_f (fun z => z.1 zc5)], rfl, rfl, rfl⟩
  · refine t_aload0 dX3_partIsWhole_8 ?_
    refine g_geti ft3 fl_X3_19 (j := 2) (by decide) dX3_partIsWhole_9 (by assumption) ?_
    refine t_aload0 dX3_partIsWhole_12 ?_
    refine g_callV0P (C_rLast (l := l) hlt) rfl ft3 rfl mc_X3_lastNumber ml_X3_43 mi_X3_lastNumber ms_X3_lastNumber in_X3 (okc_X3_lastNumber (by decide)) dX3_partIsWhole_13 (by assumption) (cat_le (Nat.le_of_ble_eq_true rfl)) ?_
    refine pw_icmp_ne 30 dX3_partIsWhole_16 (by decide) (fun zc16 => ?_) (fun zc16 => ?_)
    · refine pw_iconst (0) dX3_partIsWhole_30 (by decide) ?_
      refine pw_zret dX3_partIsWhole_31 rfl ?_ ?_
      · first | rfl | exact bI_n
      · exact ⟨rfl, by rw [bI_f (fun z => zc16 z.2.1)], rfl, rfl, rfl⟩
    · refine t_aload0 dX3_partIsWhole_19 ?_
      refine g_callV0P (C_rWhole (l := l) hlt ht) rfl ft3 rfl mc_X3_numberIsWhole ml_X3_47 mi_X3_numberIsWhole ms_X3_numberIsWhole in_X3 (okc_X3_numberIsWhole (by decide)) dX3_partIsWhole_20 (by assumption) (cat_le (Nat.le_of_ble_eq_true rfl)) ?_
      refine pw_if_eq 30 dX3_partIsWhole_23 (by decide) (fun zc23 => ?_) (fun zc23 => ?_)
      · refine pw_iconst (0) dX3_partIsWhole_30 (by decide) ?_
        refine pw_zret dX3_partIsWhole_31 rfl ?_ ?_
        · first | rfl | exact bI_n
        · exact ⟨rfl, by rw [bI_f (fun z => bI_0.mp zc23 z.2.2)], rfl, rfl, rfl⟩
      · refine pw_iconst (1) dX3_partIsWhole_26 (by decide) ?_
        refine pw_goto 31 dX3_partIsWhole_27 (by decide) ?_
        refine pw_zret dX3_partIsWhole_31 rfl ?_ ?_
        · first | rfl | exact bI_n
        · exact ⟨rfl, by rw [bI_t ⟨zc5, Classical.not_not.mp zc16, bI_nz zc23⟩], rfl, rfl, rfl⟩
set_option maxHeartbeats 4000000 in
set_option maxRecDepth 100000 in
theorem C_rBegN {l : Launch} (hlt : l.stackTraces = false) {im : TI} {rm : TP} {lm : TL} (ht : rm 238 1 = some 239) {x : Int32} : Con l m_X3_beginNumber 0 0 0 NN [pv (some 238), .int (x)] im rm lm (QV (fun i2 => i2 = bgM im x) rm lm) noX := by
  have hk3 := kdR
  have hk9 := kdN
  refine Con.ofN (k := 0) (L0 := [some (pv (some 238)), some (.int (x))]) hlt (by decide +kernel) rfl rfl (by rw [en1 pv_cat, en1 rfl, en0]; exact Nat.le_of_ble_eq_true rfl) (by rw [en1 pv_cat, en1 rfl, en0]; rfl) ?_
  refine t_aload0 dX3_beginNumber_0 ?_
  refine t_iload1 dX3_beginNumber_1 ?_
  refine g_puti ft3 fl_X3_19 (j := 2) (by decide) ⟨rfl, rfl⟩ dX3_beginNumber_2 (by assumption) ?_
  refine t_aload0 dX3_beginNumber_5 ?_
  refine pw_iconst (0) dX3_beginNumber_6 (by decide) ?_
  refine g_puti ft3 fl_X3_22 (j := 3) (by decide) ⟨rfl, rfl⟩ dX3_beginNumber_7 (by assumption) ?_
  refine t_iload1 dX3_beginNumber_10 ?_
  refine pw_if_lt 26 dX3_beginNumber_11 (by decide) (fun zc11 => ?_) (fun zc11 => ?_)
  · refine pw_vret dX3_beginNumber_26 rfl ?_
    exact ⟨rfl, rfl, rfl, rfl, by rw [bgM, if_neg (fun z => z.1 zc11)]⟩
  · refine t_iload1 dX3_beginNumber_14 ?_
    refine pw_iconst (3) dX3_beginNumber_15 (by decide) ?_
    refine pw_icmp_ge 26 dX3_beginNumber_16 (by decide) (fun zc16 => ?_) (fun zc16 => ?_)
    · refine pw_vret dX3_beginNumber_26 rfl ?_
      exact ⟨rfl, rfl, rfl, rfl, by rw [bgM, if_neg (fun z => absurd z.2 (Int32.not_lt.mpr zc16))]⟩
    · refine t_aload0 dX3_beginNumber_19 ?_
      refine g_getr ft3 fl_X3_15 (j := 1) (by decide) dX3_beginNumber_20 (by assumption) (by assumption) ?_
      refine t_iload1 dX3_beginNumber_23 ?_
      refine pw_iconst (0) dX3_beginNumber_24 (by decide) ?_
      refine g_iast dX3_beginNumber_25 (by assumption) (by rw [alN]; exact vin zc11 (Int32.not_le.mp zc16) rfl) ?_
      refine pw_vret dX3_beginNumber_26 rfl ?_
      exact ⟨rfl, rfl, rfl, rfl, by rw [bgM, if_pos ⟨zc11, Int32.not_le.mp zc16⟩]⟩
set_option maxHeartbeats 4000000 in
set_option maxRecDepth 100000 in
theorem C_rBeg {l : Launch} (hlt : l.stackTraces = false) {im : TI} {rm : TP} {lm : TL} (ht : rm 238 1 = some 239) : Con l m_X3_begin 1 0 0 NN [pv (some 238)] im rm lm (QV (fun i2 => i2 = beM im) rm lm) noX := by
  have hk3 := kdR
  have hk9 := kdN
  refine Con.ofN (k := 0) (L0 := [some (pv (some 238))]) hlt (by decide +kernel) rfl rfl (by rw [en1 pv_cat, en0]; exact Nat.le_of_ble_eq_true rfl) (by rw [en1 pv_cat, en0]; rfl) ?_
  refine t_aload0 dX3_begin_0 ?_
  refine pw_iconst (-1) dX3_begin_1 (by decide) ?_
  refine g_puti ft3 fl_X3_9 (j := 0) (by decide) ⟨rfl, rfl⟩ dX3_begin_2 (by assumption) ?_
  refine t_aload0 dX3_begin_5 ?_
  refine pw_iconst (0) dX3_begin_6 (by decide) ?_
  refine g_callV1V (C_rBegN (l := l) hlt ht) rfl ft3 rfl mc_X3_beginNumber ml_X3_25 mi_X3_beginNumber ms_X3_beginNumber in_X3 (okc_X3_beginNumber (by decide)) dX3_begin_7 (by assumption) (cat_le (Nat.le_of_ble_eq_true rfl)) (fun zim7 zh7 => ?_)
  refine pw_vret dX3_begin_10 rfl ?_
  exact ⟨rfl, rfl, rfl, rfl, zh7⟩
set_option maxHeartbeats 4000000 in
set_option maxRecDepth 100000 in
theorem C_rKind {l : Launch} (hlt : l.stackTraces = false) {im : TI} {rm : TP} {lm : TL} {x : Int32} : Con l m_X3_takeKind 0 0 0 NN [pv (some 238), .int (x)] im rm lm (QI (fun v i2 => (v, i2) = tkK im x) rm lm) noX := by
  have hk3 := kdR
  have hk9 := kdN
  refine Con.ofN (k := 0) (L0 := [some (pv (some 238)), some (.int (x))]) hlt (by decide +kernel) rfl rfl (by rw [en1 pv_cat, en1 rfl, en0]; exact Nat.le_of_ble_eq_true rfl) (by rw [en1 pv_cat, en1 rfl, en0]; rfl) ?_
  refine t_iload1 dX3_takeKind_0 ?_
  refine pw_bipush (115) dX3_takeKind_1 (by decide) ?_
  refine pw_icmp_eq 20 dX3_takeKind_3 (by decide) (fun zc3 => ?_) (fun zc3 => ?_)
  · refine t_aload0 dX3_takeKind_20 ?_
    refine t_iload1 dX3_takeKind_21 ?_
    refine g_puti ft3 fl_X3_9 (j := 0) (by decide) ⟨rfl, rfl⟩ dX3_takeKind_22 (by assumption) ?_
    refine pw_iconst (1) dX3_takeKind_25 (by decide) ?_
    refine pw_zret dX3_takeKind_26 rfl ?_ ?_
    · first | rfl | exact bit_nz (by assumption) tkK_bit | exact bit_nz (by assumption) tkD_bit | exact bit_nz (by assumption) tkC_bit
    · exact ⟨rfl, rfl, rfl, _, rfl, by rw [tkK, if_pos (Or.inl zc3)]⟩
  · refine t_iload1 dX3_takeKind_6 ?_
    refine pw_bipush (103) dX3_takeKind_7 (by decide) ?_
    refine pw_icmp_eq 20 dX3_takeKind_9 (by decide) (fun zc9 => ?_) (fun zc9 => ?_)
    · refine t_aload0 dX3_takeKind_20 ?_
      refine t_iload1 dX3_takeKind_21 ?_
      refine g_puti ft3 fl_X3_9 (j := 0) (by decide) ⟨rfl, rfl⟩ dX3_takeKind_22 (by assumption) ?_
      refine pw_iconst (1) dX3_takeKind_25 (by decide) ?_
      refine pw_zret dX3_takeKind_26 rfl ?_ ?_
      · first | rfl | exact bit_nz (by assumption) tkK_bit | exact bit_nz (by assumption) tkD_bit | exact bit_nz (by assumption) tkC_bit
      · exact ⟨rfl, rfl, rfl, _, rfl, by rw [tkK, if_pos (Or.inr (Or.inl zc9))]⟩
    · refine t_iload1 dX3_takeKind_12 ?_
      refine pw_bipush (43) dX3_takeKind_13 (by decide) ?_
      refine pw_icmp_eq 20 dX3_takeKind_15 (by decide) (fun zc15 => ?_) (fun zc15 => ?_)
      · refine t_aload0 dX3_takeKind_20 ?_
        refine t_iload1 dX3_takeKind_21 ?_
        refine g_puti ft3 fl_X3_9 (j := 0) (by decide) ⟨rfl, rfl⟩ dX3_takeKind_22 (by assumption) ?_
        refine pw_iconst (1) dX3_takeKind_25 (by decide) ?_
        refine pw_zret dX3_takeKind_26 rfl ?_ ?_
        · first | rfl | exact bit_nz (by assumption) tkK_bit | exact bit_nz (by assumption) tkD_bit | exact bit_nz (by assumption) tkC_bit
        · exact ⟨rfl, rfl, rfl, _, rfl, by rw [tkK, if_pos (Or.inr (Or.inr zc15))]⟩
      · refine pw_iconst (0) dX3_takeKind_18 (by decide) ?_
        refine pw_zret dX3_takeKind_19 rfl ?_ ?_
        · first | rfl | exact bit_nz (by assumption) tkK_bit | exact bit_nz (by assumption) tkD_bit | exact bit_nz (by assumption) tkC_bit
        · exact ⟨rfl, rfl, rfl, _, rfl, by rw [tkK, if_neg (fun z => z.elim zc3 (fun z => z.elim zc9 zc15))]⟩
set_option maxHeartbeats 4000000 in
set_option maxRecDepth 100000 in
theorem C_rDigit {l : Launch} (hlt : l.stackTraces = false) {im : TI} {rm : TP} {lm : TL} (ht : rm 238 1 = some 239) {x : Int32} : Con l m_X3_takeDigit 2 0 0 NN [pv (some 238), .int (x)] im rm lm (QI (fun v i2 => (v, i2) = tkD im x) rm lm) noX := by
  have hk3 := kdR
  have hk9 := kdN
  refine Con.ofN (k := 3) (L0 := [some (pv (some 238)), some (.int (x)), none, none, none]) hlt (by decide +kernel) rfl rfl (by rw [en1 pv_cat, en1 rfl, en0]; exact Nat.le_of_ble_eq_true rfl) (by rw [en1 pv_cat, en1 rfl, en0]; rfl) ?_
  refine t_aload0 dX3_takeDigit_0 ?_
  refine t_aload0 dX3_takeDigit_1 ?_
  refine g_geti ft3 fl_X3_19 (j := 2) (by decide) dX3_takeDigit_2 (by assumption) ?_
  refine g_callV1P (C_rNum (l := l) hlt ht) rfl ft3 rfl mc_X3_numberAt ml_X3_50 mi_X3_numberAt ms_X3_numberAt in_X3 (okc_X3_numberAt (by decide)) dX3_takeDigit_5 (by assumption) (cat_le (Nat.le_of_ble_eq_true rfl)) ?_
  refine t_istore2 dX3_takeDigit_8 (by decide) okp_i ?_
  refine t_aload0 dX3_takeDigit_9 ?_
  refine g_geti ft3 fl_X3_22 (j := 3) (by decide) dX3_takeDigit_10 (by assumption) ?_
  refine pw_if_le 24 dX3_takeDigit_13 (by decide) (fun zc13 => ?_) (fun zc13 => ?_)
  · refine pw_iconst (0) dX3_takeDigit_24 (by decide) ?_
    refine t_istore3 dX3_takeDigit_25 (by decide) okp_i ?_
    refine t_iload2 dX3_takeDigit_26 ?_
    refine pw_bipush (10) dX3_takeDigit_27 (by decide) ?_
    refine pw_imul dX3_takeDigit_29 ?_
    refine t_iload1 dX3_takeDigit_30 ?_
    refine pw_iadd dX3_takeDigit_31 ?_
    refine t_istore4 dX3_takeDigit_32 (by decide) okp_i ?_
    refine t_iload3 dX3_takeDigit_34 ?_
    refine pw_if_ne 62 dX3_takeDigit_35 (by decide) (fun h => absurd h (by decide)) (fun _ => ?_)
    refine t_aload0 dX3_takeDigit_38 ?_
    refine t_iload4 dX3_takeDigit_39 ?_
    refine g_callV1P (C_rCan (l := l) hlt) rfl ft3 rfl mc_X3_canBecomeNumber ml_X3_54 mi_X3_canBecomeNumber ms_X3_canBecomeNumber in_X3 (okc_X3_canBecomeNumber (by decide)) dX3_takeDigit_41 (by assumption) (cat_le (Nat.le_of_ble_eq_true rfl)) ?_
    refine pw_if_eq 62 dX3_takeDigit_44 (by decide) (fun zc44 => ?_) (fun zc44 => ?_)
    · refine pw_iconst (0) dX3_takeDigit_62 (by decide) ?_
      refine pw_zret dX3_takeDigit_63 rfl ?_ ?_
      · first | rfl | exact bit_nz (by assumption) tkK_bit | exact bit_nz (by assumption) tkD_bit | exact bit_nz (by assumption) tkC_bit
      · exact ⟨rfl, rfl, rfl, _, rfl, by rw [tkD, if_neg (fun z => bI_0.mp zc44 z.2.1)]⟩
    · refine t_aload0 dX3_takeDigit_47 ?_
      refine g_geti ft3 fl_X3_19 (j := 2) (by decide) dX3_takeDigit_48 (by assumption) ?_
      refine pw_if_lt 62 dX3_takeDigit_51 (by decide) (fun zc51 => ?_) (fun zc51 => ?_)
      · refine pw_iconst (0) dX3_takeDigit_62 (by decide) ?_
        refine pw_zret dX3_takeDigit_63 rfl ?_ ?_
        · first | rfl | exact bit_nz (by assumption) tkK_bit | exact bit_nz (by assumption) tkD_bit | exact bit_nz (by assumption) tkC_bit
        · exact ⟨rfl, rfl, rfl, _, rfl, by rw [tkD, if_neg (fun z => z.2.2.1 zc51)]⟩
      · refine t_aload0 dX3_takeDigit_54 ?_
        refine g_geti ft3 fl_X3_19 (j := 2) (by decide) dX3_takeDigit_55 (by assumption) ?_
        refine pw_iconst (3) dX3_takeDigit_58 (by decide) ?_
        refine pw_icmp_lt 64 dX3_takeDigit_59 (by decide) (fun zc59 => ?_) (fun zc59 => ?_)
        · refine t_aload0 dX3_takeDigit_64 ?_
          refine g_getr ft3 fl_X3_15 (j := 1) (by decide) dX3_takeDigit_65 (by assumption) (by assumption) ?_
          refine t_aload0 dX3_takeDigit_68 ?_
          refine g_geti ft3 fl_X3_19 (j := 2) (by decide) dX3_takeDigit_69 (by assumption) ?_
          refine t_iload4 dX3_takeDigit_72 ?_
          refine g_iast dX3_takeDigit_74 (by assumption) (by rw [alN]; exact vin zc51 zc59 rfl) ?_
          refine t_aload0 dX3_takeDigit_75 ?_
          refine pw_dup dX3_takeDigit_76 pv_cat ?_
          refine g_geti ft3 fl_X3_22 (j := 3) (by decide) dX3_takeDigit_77 (by assumption) ?_
          rw [ui_ne (show (238 : Nat) ≠ 239 by decide)]
          refine pw_iconst (1) dX3_takeDigit_80 (by decide) ?_
          refine pw_iadd dX3_takeDigit_81 ?_
          refine g_puti ft3 fl_X3_22 (j := 3) (by decide) ⟨rfl, rfl⟩ dX3_takeDigit_82 (by assumption) ?_
          refine pw_iconst (1) dX3_takeDigit_85 (by decide) ?_
          refine pw_zret dX3_takeDigit_86 rfl ?_ ?_
          · first | rfl | exact bit_nz (by assumption) tkK_bit | exact bit_nz (by assumption) tkD_bit | exact bit_nz (by assumption) tkC_bit
          · exact ⟨rfl, rfl, rfl, _, rfl, by rw [tkD, if_pos ⟨(fun z => absurd z.1 (Int32.not_lt.mpr zc13)), bI_nz zc44, zc51, zc59⟩]⟩
        · refine pw_iconst (0) dX3_takeDigit_62 (by decide) ?_
          refine pw_zret dX3_takeDigit_63 rfl ?_ ?_
          · first | rfl | exact bit_nz (by assumption) tkK_bit | exact bit_nz (by assumption) tkD_bit | exact bit_nz (by assumption) tkC_bit
          · exact ⟨rfl, rfl, rfl, _, rfl, by rw [tkD, if_neg (fun z => zc59 z.2.2.2)]⟩
  · refine t_iload2 dX3_takeDigit_16 ?_
    refine pw_if_ne 24 dX3_takeDigit_17 (by decide) (fun zc17 => ?_) (fun zc17 => ?_)
    · refine pw_iconst (0) dX3_takeDigit_24 (by decide) ?_
      refine t_istore3 dX3_takeDigit_25 (by decide) okp_i ?_
      refine t_iload2 dX3_takeDigit_26 ?_
      refine pw_bipush (10) dX3_takeDigit_27 (by decide) ?_
      refine pw_imul dX3_takeDigit_29 ?_
      refine t_iload1 dX3_takeDigit_30 ?_
      refine pw_iadd dX3_takeDigit_31 ?_
      refine t_istore4 dX3_takeDigit_32 (by decide) okp_i ?_
      refine t_iload3 dX3_takeDigit_34 ?_
      refine pw_if_ne 62 dX3_takeDigit_35 (by decide) (fun h => absurd h (by decide)) (fun _ => ?_)
      refine t_aload0 dX3_takeDigit_38 ?_
      refine t_iload4 dX3_takeDigit_39 ?_
      refine g_callV1P (C_rCan (l := l) hlt) rfl ft3 rfl mc_X3_canBecomeNumber ml_X3_54 mi_X3_canBecomeNumber ms_X3_canBecomeNumber in_X3 (okc_X3_canBecomeNumber (by decide)) dX3_takeDigit_41 (by assumption) (cat_le (Nat.le_of_ble_eq_true rfl)) ?_
      refine pw_if_eq 62 dX3_takeDigit_44 (by decide) (fun zc44 => ?_) (fun zc44 => ?_)
      · refine pw_iconst (0) dX3_takeDigit_62 (by decide) ?_
        refine pw_zret dX3_takeDigit_63 rfl ?_ ?_
        · first | rfl | exact bit_nz (by assumption) tkK_bit | exact bit_nz (by assumption) tkD_bit | exact bit_nz (by assumption) tkC_bit
        · exact ⟨rfl, rfl, rfl, _, rfl, by rw [tkD, if_neg (fun z => bI_0.mp zc44 z.2.1)]⟩
      · refine t_aload0 dX3_takeDigit_47 ?_
        refine g_geti ft3 fl_X3_19 (j := 2) (by decide) dX3_takeDigit_48 (by assumption) ?_
        refine pw_if_lt 62 dX3_takeDigit_51 (by decide) (fun zc51 => ?_) (fun zc51 => ?_)
        · refine pw_iconst (0) dX3_takeDigit_62 (by decide) ?_
          refine pw_zret dX3_takeDigit_63 rfl ?_ ?_
          · first | rfl | exact bit_nz (by assumption) tkK_bit | exact bit_nz (by assumption) tkD_bit | exact bit_nz (by assumption) tkC_bit
          · exact ⟨rfl, rfl, rfl, _, rfl, by rw [tkD, if_neg (fun z => z.2.2.1 zc51)]⟩
        · refine t_aload0 dX3_takeDigit_54 ?_
          refine g_geti ft3 fl_X3_19 (j := 2) (by decide) dX3_takeDigit_55 (by assumption) ?_
          refine pw_iconst (3) dX3_takeDigit_58 (by decide) ?_
          refine pw_icmp_lt 64 dX3_takeDigit_59 (by decide) (fun zc59 => ?_) (fun zc59 => ?_)
          · refine t_aload0 dX3_takeDigit_64 ?_
            refine g_getr ft3 fl_X3_15 (j := 1) (by decide) dX3_takeDigit_65 (by assumption) (by assumption) ?_
            refine t_aload0 dX3_takeDigit_68 ?_
            refine g_geti ft3 fl_X3_19 (j := 2) (by decide) dX3_takeDigit_69 (by assumption) ?_
            refine t_iload4 dX3_takeDigit_72 ?_
            refine g_iast dX3_takeDigit_74 (by assumption) (by rw [alN]; exact vin zc51 zc59 rfl) ?_
            refine t_aload0 dX3_takeDigit_75 ?_
            refine pw_dup dX3_takeDigit_76 pv_cat ?_
            refine g_geti ft3 fl_X3_22 (j := 3) (by decide) dX3_takeDigit_77 (by assumption) ?_
            rw [ui_ne (show (238 : Nat) ≠ 239 by decide)]
            refine pw_iconst (1) dX3_takeDigit_80 (by decide) ?_
            refine pw_iadd dX3_takeDigit_81 ?_
            refine g_puti ft3 fl_X3_22 (j := 3) (by decide) ⟨rfl, rfl⟩ dX3_takeDigit_82 (by assumption) ?_
            refine pw_iconst (1) dX3_takeDigit_85 (by decide) ?_
            refine pw_zret dX3_takeDigit_86 rfl ?_ ?_
            · first | rfl | exact bit_nz (by assumption) tkK_bit | exact bit_nz (by assumption) tkD_bit | exact bit_nz (by assumption) tkC_bit
            · exact ⟨rfl, rfl, rfl, _, rfl, by rw [tkD, if_pos ⟨(fun z => zc17 z.2), bI_nz zc44, zc51, zc59⟩]⟩
          · refine pw_iconst (0) dX3_takeDigit_62 (by decide) ?_
            refine pw_zret dX3_takeDigit_63 rfl ?_ ?_
            · first | rfl | exact bit_nz (by assumption) tkK_bit | exact bit_nz (by assumption) tkD_bit | exact bit_nz (by assumption) tkC_bit
            · exact ⟨rfl, rfl, rfl, _, rfl, by rw [tkD, if_neg (fun z => zc59 z.2.2.2)]⟩
    · refine pw_iconst (1) dX3_takeDigit_20 (by decide) ?_
      refine pw_goto 25 dX3_takeDigit_21 (by decide) ?_
      refine t_istore3 dX3_takeDigit_25 (by decide) okp_i ?_
      refine t_iload2 dX3_takeDigit_26 ?_
      refine pw_bipush (10) dX3_takeDigit_27 (by decide) ?_
      refine pw_imul dX3_takeDigit_29 ?_
      refine t_iload1 dX3_takeDigit_30 ?_
      refine pw_iadd dX3_takeDigit_31 ?_
      refine t_istore4 dX3_takeDigit_32 (by decide) okp_i ?_
      refine t_iload3 dX3_takeDigit_34 ?_
      refine pw_if_ne 62 dX3_takeDigit_35 (by decide) (fun _ => ?_) (fun h => absurd (by decide) h)
      refine pw_iconst (0) dX3_takeDigit_62 (by decide) ?_
      refine pw_zret dX3_takeDigit_63 rfl ?_ ?_
      · first | rfl | exact bit_nz (by assumption) tkK_bit | exact bit_nz (by assumption) tkD_bit | exact bit_nz (by assumption) tkC_bit
      · exact ⟨rfl, rfl, rfl, _, rfl, by rw [tkD, if_neg (fun z => z.1 ⟨Int32.not_le.mp zc13, Classical.not_not.mp zc17⟩)]⟩
set_option maxHeartbeats 4000000 in
set_option maxRecDepth 100000 in
theorem C_rComma {l : Launch} (hlt : l.stackTraces = false) {im : TI} {rm : TP} {lm : TL} (ht : rm 238 1 = some 239) : Con l m_X3_takeComma 2 0 0 NN [pv (some 238)] im rm lm (QI (fun v i2 => (v, i2) = tkC im) rm lm) noX := by
  have hk3 := kdR
  have hk9 := kdN
  refine Con.ofN (k := 0) (L0 := [some (pv (some 238))]) hlt (by decide +kernel) rfl rfl (by rw [en1 pv_cat, en0]; exact Nat.le_of_ble_eq_true rfl) (by rw [en1 pv_cat, en0]; rfl) ?_
  refine t_aload0 dX3_takeComma_0 ?_
  refine g_callV0P (C_rWhole (l := l) hlt ht) rfl ft3 rfl mc_X3_numberIsWhole ml_X3_47 mi_X3_numberIsWhole ms_X3_numberIsWhole in_X3 (okc_X3_numberIsWhole (by decide)) dX3_takeComma_1 (by assumption) (cat_le (Nat.le_of_ble_eq_true rfl)) ?_
  refine pw_if_eq 18 dX3_takeComma_4 (by decide) (fun zc4 => ?_) (fun zc4 => ?_)
  · refine pw_iconst (0) dX3_takeComma_18 (by decide) ?_
    refine pw_zret dX3_takeComma_19 rfl ?_ ?_
    · first | rfl | exact bit_nz (by assumption) tkK_bit | exact bit_nz (by assumption) tkD_bit | exact bit_nz (by assumption) tkC_bit
    · exact ⟨rfl, rfl, rfl, _, rfl, by rw [tkC, if_neg (fun z => bI_0.mp zc4 z.1)]⟩
  · refine t_aload0 dX3_takeComma_7 ?_
    refine g_geti ft3 fl_X3_19 (j := 2) (by decide) dX3_takeComma_8 (by assumption) ?_
    refine t_aload0 dX3_takeComma_11 ?_
    refine g_callV0P (C_rLast (l := l) hlt) rfl ft3 rfl mc_X3_lastNumber ml_X3_43 mi_X3_lastNumber ms_X3_lastNumber in_X3 (okc_X3_lastNumber (by decide)) dX3_takeComma_12 (by assumption) (cat_le (Nat.le_of_ble_eq_true rfl)) ?_
    refine pw_icmp_lt 20 dX3_takeComma_15 (by decide) (fun zc15 => ?_) (fun zc15 => ?_)
    · refine t_aload0 dX3_takeComma_20 ?_
      refine t_aload0 dX3_takeComma_21 ?_
      refine g_geti ft3 fl_X3_19 (j := 2) (by decide) dX3_takeComma_22 (by assumption) ?_
      refine pw_iconst (1) dX3_takeComma_25 (by decide) ?_
      refine pw_iadd dX3_takeComma_26 ?_
      refine g_callV1V (C_rBegN (l := l) hlt ht) rfl ft3 rfl mc_X3_beginNumber ml_X3_25 mi_X3_beginNumber ms_X3_beginNumber in_X3 (okc_X3_beginNumber (by decide)) dX3_takeComma_27 (by assumption) (cat_le (Nat.le_of_ble_eq_true rfl)) (fun zim27 zh27 => ?_)
      refine pw_iconst (1) dX3_takeComma_30 (by decide) ?_
      refine pw_zret dX3_takeComma_31 rfl ?_ ?_
      · first | rfl | exact bit_nz (by assumption) tkK_bit | exact bit_nz (by assumption) tkD_bit | exact bit_nz (by assumption) tkC_bit
      · exact ⟨rfl, rfl, rfl, _, rfl, by rw [zh27, tkC, if_pos ⟨bI_nz zc4, zc15⟩]⟩
    · refine pw_iconst (0) dX3_takeComma_18 (by decide) ?_
      refine pw_zret dX3_takeComma_19 rfl ?_ ?_
      · first | rfl | exact bit_nz (by assumption) tkK_bit | exact bit_nz (by assumption) tkD_bit | exact bit_nz (by assumption) tkC_bit
      · exact ⟨rfl, rfl, rfl, _, rfl, by rw [tkC, if_neg (fun z => zc15 z.2)]⟩
set_option maxHeartbeats 4000000 in
set_option maxRecDepth 100000 in
theorem C_rSep {l : Launch} (hlt : l.stackTraces = false) {im : TI} {rm : TP} {lm : TL} (ht : rm 238 1 = some 239) : Con l m_X3_takeSeparator 3 0 0 NN [pv (some 238)] im rm lm (QI (fun v i2 => (v, i2) = tkS im) rm lm) noX := by
  have hk3 := kdR
  have hk9 := kdN
  refine Con.ofN (k := 0) (L0 := [some (pv (some 238))]) hlt (by decide +kernel) rfl rfl (by rw [en1 pv_cat, en0]; exact Nat.le_of_ble_eq_true rfl) (by rw [en1 pv_cat, en0]; rfl) ?_
  refine t_aload0 dX3_takeSeparator_0 ?_
  refine g_callV0P (C_rPart (l := l) hlt ht) rfl ft3 rfl mc_X3_partIsWhole ml_X3_57 mi_X3_partIsWhole ms_X3_partIsWhole in_X3 (okc_X3_partIsWhole (by decide)) dX3_takeSeparator_1 (by assumption) (cat_le (Nat.le_of_ble_eq_true rfl)) ?_
  refine pw_if_ne 9 dX3_takeSeparator_4 (by decide) (fun zc4 => ?_) (fun zc4 => ?_)
  · refine t_aload0 dX3_takeSeparator_9 ?_
    refine g_callV0V (C_rBeg (l := l) hlt ht) rfl ft3 rfl mc_X3_begin ml_X3_60 mi_X3_begin ms_X3_begin in_X3 (okc_X3_begin (by decide)) dX3_takeSeparator_10 (by assumption) (cat_le (Nat.le_of_ble_eq_true rfl)) (fun zim10 zh10 => ?_)
    refine pw_iconst (1) dX3_takeSeparator_13 (by decide) ?_
    refine pw_zret dX3_takeSeparator_14 rfl ?_ ?_
    · first | rfl | exact bit_nz (by assumption) tkK_bit | exact bit_nz (by assumption) tkD_bit | exact bit_nz (by assumption) tkC_bit
    · exact ⟨rfl, rfl, rfl, _, rfl, by rw [zh10, tkS, if_pos (bI_nz zc4)]⟩
  · refine pw_iconst (0) dX3_takeSeparator_7 (by decide) ?_
    refine pw_zret dX3_takeSeparator_8 rfl ?_ ?_
    · first | rfl | exact bit_nz (by assumption) tkK_bit | exact bit_nz (by assumption) tkD_bit | exact bit_nz (by assumption) tkC_bit
    · exact ⟨rfl, rfl, rfl, _, rfl, by rw [tkS, if_neg (bI_0.mp (Classical.not_not.mp zc4))]⟩
set_option maxHeartbeats 4000000 in
set_option maxRecDepth 100000 in
theorem C_rTake {l : Launch} (hlt : l.stackTraces = false) {im : TI} {rm : TP} {lm : TL} (ht : rm 238 1 = some 239) {x : Int32} : Con l m_X3_take 4 0 0 NN [pv (some 238), .int (x)] im rm lm (QI (fun v i2 => (v, i2) = tkA im x) rm lm) noX := by
  have hk3 := kdR
  have hk9 := kdN
  refine Con.ofN (k := 0) (L0 := [some (pv (some 238)), some (.int (x))]) hlt (by decide +kernel) rfl rfl (by rw [en1 pv_cat, en1 rfl, en0]; exact Nat.le_of_ble_eq_true rfl) (by rw [en1 pv_cat, en1 rfl, en0]; rfl) ?_
  refine t_aload0 dX3_take_0 ?_
  refine g_geti ft3 fl_X3_9 (j := 0) (by decide) dX3_take_1 (by assumption) ?_
  refine pw_iconst (-1) dX3_take_4 (by decide) ?_
  refine pw_icmp_ne 14 dX3_take_5 (by decide) (fun zc5 => ?_) (fun zc5 => ?_)
  · refine t_iload1 dX3_take_14 ?_
    refine pw_bipush (48) dX3_take_15 (by decide) ?_
    refine pw_icmp_lt 35 dX3_take_17 (by decide) (fun zc17 => ?_) (fun zc17 => ?_)
    · refine t_iload1 dX3_take_35 ?_
      refine pw_bipush (44) dX3_take_36 (by decide) ?_
      refine pw_icmp_ne 46 dX3_take_38 (by decide) (fun zc38 => ?_) (fun zc38 => ?_)
      · refine t_iload1 dX3_take_46 ?_
        refine pw_bipush (59) dX3_take_47 (by decide) ?_
        refine pw_icmp_ne 63 dX3_take_49 (by decide) (fun zc49 => ?_) (fun zc49 => ?_)
        · refine pw_iconst (0) dX3_take_63 (by decide) ?_
          refine pw_zret dX3_take_64 rfl ?_ ?_
          · first | rfl | exact bit_nz (by assumption) tkK_bit | exact bit_nz (by assumption) tkD_bit | exact bit_nz (by assumption) tkC_bit
          · exact ⟨rfl, rfl, rfl, _, rfl, by rw [tkA, if_neg zc5, if_neg (fun z => absurd z.1 (Int32.not_le.mpr zc17)), if_neg zc38, if_neg zc49]⟩
        · refine t_aload0 dX3_take_52 ?_
          refine g_callV0I (C_rSep (l := l) hlt ht) rfl ft3 rfl mc_X3_takeSeparator ml_X3_40 mi_X3_takeSeparator ms_X3_takeSeparator in_X3 (okc_X3_takeSeparator (by decide)) dX3_take_53 (by assumption) (cat_le (Nat.le_of_ble_eq_true rfl)) (fun zx53 zim53 zh53 => ?_)
          refine pw_if_eq 63 dX3_take_56 (by decide) (fun zc56 => ?_) (fun zc56 => ?_)
          · refine pw_iconst (0) dX3_take_63 (by decide) ?_
            refine pw_zret dX3_take_64 rfl ?_ ?_
            · first | rfl | exact bit_nz (by assumption) tkK_bit | exact bit_nz (by assumption) tkD_bit | exact bit_nz (by assumption) tkC_bit
            · exact ⟨rfl, rfl, rfl, _, rfl, by rw [tkA, if_neg zc5, if_neg (fun z => absurd z.1 (Int32.not_le.mpr zc17)), if_neg zc38, if_pos (Classical.not_not.mp zc49), ← zh53, zc56]⟩
          · refine pw_iconst (1) dX3_take_59 (by decide) ?_
            refine pw_goto 64 dX3_take_60 (by decide) ?_
            refine pw_zret dX3_take_64 rfl ?_ ?_
            · first | rfl | exact bit_nz (by assumption) tkK_bit | exact bit_nz (by assumption) tkD_bit | exact bit_nz (by assumption) tkC_bit
            · exact ⟨rfl, rfl, rfl, _, rfl, by rw [tkA, if_neg zc5, if_neg (fun z => absurd z.1 (Int32.not_le.mpr zc17)), if_neg zc38, if_pos (Classical.not_not.mp zc49), ← zh53, (show zx53 = 1 from (show zx53 = 0 ∨ zx53 = 1 from (zh53 ▸ tkS_bit : bitP (zx53, zim53))).resolve_left zc56)]⟩
      · refine t_aload0 dX3_take_41 ?_
        refine g_callV0I (C_rComma (l := l) hlt ht) rfl ft3 rfl mc_X3_takeComma ml_X3_36 mi_X3_takeComma ms_X3_takeComma in_X3 (okc_X3_takeComma (by decide)) dX3_take_42 (by assumption) (cat_le (Nat.le_of_ble_eq_true rfl)) (fun zx42 zim42 zh42 => ?_)
        refine pw_zret dX3_take_45 rfl ?_ ?_
        · first | rfl | exact bit_nz (by assumption) tkK_bit | exact bit_nz (by assumption) tkD_bit | exact bit_nz (by assumption) tkC_bit
        · exact ⟨rfl, rfl, rfl, _, rfl, by rw [tkA, if_neg zc5, if_neg (fun z => absurd z.1 (Int32.not_le.mpr zc17)), if_pos (Classical.not_not.mp zc38)]; exact zh42⟩
    · refine t_iload1 dX3_take_20 ?_
      refine pw_bipush (57) dX3_take_21 (by decide) ?_
      refine pw_icmp_gt 35 dX3_take_23 (by decide) (fun zc23 => ?_) (fun zc23 => ?_)
      · refine t_iload1 dX3_take_35 ?_
        refine pw_bipush (44) dX3_take_36 (by decide) ?_
        refine pw_icmp_ne 46 dX3_take_38 (by decide) (fun zc38 => ?_) (fun zc38 => ?_)
        · refine t_iload1 dX3_take_46 ?_
          refine pw_bipush (59) dX3_take_47 (by decide) ?_
          refine pw_icmp_ne 63 dX3_take_49 (by decide) (fun zc49 => ?_) (fun zc49 => ?_)
          · refine pw_iconst (0) dX3_take_63 (by decide) ?_
            refine pw_zret dX3_take_64 rfl ?_ ?_
            · first | rfl | exact bit_nz (by assumption) tkK_bit | exact bit_nz (by assumption) tkD_bit | exact bit_nz (by assumption) tkC_bit
            · exact ⟨rfl, rfl, rfl, _, rfl, by rw [tkA, if_neg zc5, if_neg (fun z => absurd z.2 (Int32.not_le.mpr zc23)), if_neg zc38, if_neg zc49]⟩
          · refine t_aload0 dX3_take_52 ?_
            refine g_callV0I (C_rSep (l := l) hlt ht) rfl ft3 rfl mc_X3_takeSeparator ml_X3_40 mi_X3_takeSeparator ms_X3_takeSeparator in_X3 (okc_X3_takeSeparator (by decide)) dX3_take_53 (by assumption) (cat_le (Nat.le_of_ble_eq_true rfl)) (fun zx53 zim53 zh53 => ?_)
            refine pw_if_eq 63 dX3_take_56 (by decide) (fun zc56 => ?_) (fun zc56 => ?_)
            · refine pw_iconst (0) dX3_take_63 (by decide) ?_
              refine pw_zret dX3_take_64 rfl ?_ ?_
              · first | rfl | exact bit_nz (by assumption) tkK_bit | exact bit_nz (by assumption) tkD_bit | exact bit_nz (by assumption) tkC_bit
              · exact ⟨rfl, rfl, rfl, _, rfl, by rw [tkA, if_neg zc5, if_neg (fun z => absurd z.2 (Int32.not_le.mpr zc23)), if_neg zc38, if_pos (Classical.not_not.mp zc49), ← zh53, zc56]⟩
            · refine pw_iconst (1) dX3_take_59 (by decide) ?_
              refine pw_goto 64 dX3_take_60 (by decide) ?_
              refine pw_zret dX3_take_64 rfl ?_ ?_
              · first | rfl | exact bit_nz (by assumption) tkK_bit | exact bit_nz (by assumption) tkD_bit | exact bit_nz (by assumption) tkC_bit
              · exact ⟨rfl, rfl, rfl, _, rfl, by rw [tkA, if_neg zc5, if_neg (fun z => absurd z.2 (Int32.not_le.mpr zc23)), if_neg zc38, if_pos (Classical.not_not.mp zc49), ← zh53, (show zx53 = 1 from (show zx53 = 0 ∨ zx53 = 1 from (zh53 ▸ tkS_bit : bitP (zx53, zim53))).resolve_left zc56)]⟩
        · refine t_aload0 dX3_take_41 ?_
          refine g_callV0I (C_rComma (l := l) hlt ht) rfl ft3 rfl mc_X3_takeComma ml_X3_36 mi_X3_takeComma ms_X3_takeComma in_X3 (okc_X3_takeComma (by decide)) dX3_take_42 (by assumption) (cat_le (Nat.le_of_ble_eq_true rfl)) (fun zx42 zim42 zh42 => ?_)
          refine pw_zret dX3_take_45 rfl ?_ ?_
          · first | rfl | exact bit_nz (by assumption) tkK_bit | exact bit_nz (by assumption) tkD_bit | exact bit_nz (by assumption) tkC_bit
          · exact ⟨rfl, rfl, rfl, _, rfl, by rw [tkA, if_neg zc5, if_neg (fun z => absurd z.2 (Int32.not_le.mpr zc23)), if_pos (Classical.not_not.mp zc38)]; exact zh42⟩
      · refine t_aload0 dX3_take_26 ?_
        refine t_iload1 dX3_take_27 ?_
        refine pw_bipush (48) dX3_take_28 (by decide) ?_
        refine pw_isub dX3_take_30 ?_
        refine g_callV1I (C_rDigit (l := l) hlt ht) rfl ft3 rfl mc_X3_takeDigit ml_X3_33 mi_X3_takeDigit ms_X3_takeDigit in_X3 (okc_X3_takeDigit (by decide)) dX3_take_31 (by assumption) (cat_le (Nat.le_of_ble_eq_true rfl)) (fun zx31 zim31 zh31 => ?_)
        refine pw_zret dX3_take_34 rfl ?_ ?_
        · first | rfl | exact bit_nz (by assumption) tkK_bit | exact bit_nz (by assumption) tkD_bit | exact bit_nz (by assumption) tkC_bit
        · exact ⟨rfl, rfl, rfl, _, rfl, by rw [tkA, if_neg zc5, if_pos ⟨Int32.not_lt.mp zc17, Int32.not_lt.mp zc23⟩]; exact zh31⟩
  · refine t_aload0 dX3_take_8 ?_
    refine t_iload1 dX3_take_9 ?_
    refine g_callV1I (C_rKind (l := l) hlt) rfl ft3 rfl mc_X3_takeKind ml_X3_29 mi_X3_takeKind ms_X3_takeKind in_X3 (okc_X3_takeKind (by decide)) dX3_take_10 (by assumption) (cat_le (Nat.le_of_ble_eq_true rfl)) (fun zx10 zim10 zh10 => ?_)
    refine pw_zret dX3_take_13 rfl ?_ ?_
    · first | rfl | exact bit_nz (by assumption) tkK_bit | exact bit_nz (by assumption) tkD_bit | exact bit_nz (by assumption) tkC_bit
    · exact ⟨rfl, rfl, rfl, _, rfl, by rw [tkA, if_pos (Classical.not_not.mp zc5)]; exact zh10⟩

/-! Doubles: what is done with the share -/
abbrev d2c : UInt64 := 4611686018427387904
abbrev dPc : UInt64 := 4841369599423283200
def isN (x : UInt64) (E t : Nat) : Prop := x.toNat = E * 4503599627370496 + t ∧ t < 4503599627370496
theorem of_n {n : Nat} (h : n < 18446744073709551616) : (UInt64.ofNat n).toNat = n := by rw [UInt64.toNat_ofNat']; exact Nat.mod_eq_of_lt h
theorem isN.dd {x : UInt64} {E t : Nat} (h : isN x E t) (h1 : 1 ≤ E) (h2 : E ≤ 2046) : FP.Core.decode FP.Core.b64 x.toNat = .fin false (4503599627370496 + t) ((E : Int) - 1075) := dec h.1 h.2 h1 h2
theorem d2_is : isN d2c 1024 0 := ⟨by decide, by decide⟩
theorem dP_is : isN dPc 1075 0 := ⟨by decide, by decide⟩
theorem d1_is : isN FP.dconst1 1023 0 := ⟨by decide, by decide⟩
theorem round_is {c : Nat} {q : Int} : FP.Core.round FP.Core.b64 (.fin false c q) = FP.Core.roundRatio FP.Core.b64 false c 1 q := rfl
/-- times a power of two -/
theorem mul_is {x y : UInt64} {E t F : Nat} (h : isN x E t) (g : isN y F 0) (h1 : 1 ≤ E) (h2 : E ≤ 1023) (g1 : 1024 ≤ F) (g2 : F ≤ 1075) : isN (FP.dmul x y) (E + F - 1023) t := by
  have ht := h.2
  refine ⟨?_, ht⟩
  show (UInt64.ofNat (FP.Core.encode FP.Core.b64 (FP.Core.round FP.Core.b64 (FP.Core.exactProduct (FP.Core.decode FP.Core.b64 x.toNat) (FP.Core.decode FP.Core.b64 y.toNat))))).toNat = _
  rw [h.dd h1 (by omega), g.dd (by omega) (by omega)]
  show (UInt64.ofNat (FP.Core.encode FP.Core.b64 (FP.Core.round FP.Core.b64 (.fin false ((4503599627370496 + t) * 4503599627370496) ((E : Int) - 1075 + ((F : Int) - 1075)))))).toNat = _
  rw [round_is]
  have l1 : ((4503599627370496 + t) * 4503599627370496).log2 = 104 := lg (by omega) (by omega)
  have hL : FP.Core.leading ((4503599627370496 + t) * 4503599627370496) 1 = 104 := by
    unfold FP.Core.leading
    rw [l1, show Nat.log2 1 = 0 by decide]
    dsimp only
    rw [if_pos (by simp; omega)]
    rfl
  have hu : FP.Core.unitsNum ((4503599627370496 + t) * 4503599627370496) ((E : Int) - 1075 + ((F : Int) - 1075)) (104 + ((E : Int) - 1075 + ((F : Int) - 1075)) - 52) = (4503599627370496 + t) * 4503599627370496 ∧ FP.Core.unitsDen 1 ((E : Int) - 1075 + ((F : Int) - 1075)) (104 + ((E : Int) - 1075 + ((F : Int) - 1075)) - 52) = 4503599627370496 := by
    unfold FP.Core.unitsNum FP.Core.unitsDen
    rw [show (((E : Int) - 1075 + ((F : Int) - 1075)) - (104 + ((E : Int) - 1075 + ((F : Int) - 1075)) - 52)).toNat = 0 by omega, show (104 + ((E : Int) - 1075 + ((F : Int) - 1075)) - 52 - ((E : Int) - 1075 + ((F : Int) - 1075))).toNat = 52 by omega]
    exact ⟨by omega, by decide⟩
  rw [rr_at (M := 4503599627370496 + t) (by omega) hL rfl (by omega) (by omega) (by rw [hu.1, hu.2]; exact near_ex (by decide)) (by omega), if_pos (by omega)]
  rw [enc (E := E + F - 1023) (by omega) (by omega) (by omega), of_n (by omega)]
  omega
/-- less one -/
theorem sub_is {x : UInt64} {t : Nat} (h : isN x 1023 t) : (FP.dsub x FP.dconst1).toNat = 0 ∨ ∃ E u, isN (FP.dsub x FP.dconst1) E u ∧ 1 ≤ E ∧ E ≤ 1023 := by
  have ht := h.2
  have e : FP.dsub x FP.dconst1 = UInt64.ofNat (FP.Core.encode FP.Core.b64 (FP.Core.roundRatio FP.Core.b64 false t 1 (-52))) := by
    show UInt64.ofNat (FP.Core.encode FP.Core.b64 (FP.Core.round FP.Core.b64 (FP.Core.exactSum (FP.Core.decode FP.Core.b64 x.toNat) (FP.Core.negate (FP.Core.decode FP.Core.b64 FP.dconst1.toNat))))) = _
    rw [h.dd (by omega) (by omega), d1_is.dd (by omega) (by omega)]
    congr 2
    have hs : FP.Core.sumUnits false (4503599627370496 + t) ((1023 : Nat) - 1075 : Int) true (4503599627370496 + 0) ((1023 : Nat) - 1075 : Int) (min ((1023 : Nat) - 1075 : Int) ((1023 : Nat) - 1075 : Int)) = (t : Int) := by
      unfold FP.Core.sumUnits FP.Core.signed FP.Core.inUnits
      simp
      omega
    show FP.Core.round FP.Core.b64 (.fin (FP.Core.sumSign false true (FP.Core.sumUnits false (4503599627370496 + t) ((1023 : Nat) - 1075 : Int) true (4503599627370496 + 0) ((1023 : Nat) - 1075 : Int) (min ((1023 : Nat) - 1075 : Int) ((1023 : Nat) - 1075 : Int)))) (FP.Core.sumUnits false (4503599627370496 + t) ((1023 : Nat) - 1075 : Int) true (4503599627370496 + 0) ((1023 : Nat) - 1075 : Int) (min ((1023 : Nat) - 1075 : Int) ((1023 : Nat) - 1075 : Int))).natAbs (min ((1023 : Nat) - 1075 : Int) ((1023 : Nat) - 1075 : Int))) = _
    rw [hs]
    have hsg : FP.Core.sumSign false true (t : Int) = false := by
      unfold FP.Core.sumSign
      by_cases h0 : (t : Int) = 0
      · rw [if_pos h0]; rfl
      · rw [if_neg h0]; exact decide_eq_false (by omega)
    rw [hsg, Int.natAbs_natCast]
    rfl
  rw [e]
  by_cases h0 : t = 0
  · left
    subst h0
    unfold FP.Core.roundRatio
    rw [if_pos rfl, f_m]
    decide +kernel
  · right
    have a := (Nat.le_log2 h0).mp (Nat.le_refl _)
    have b := (Nat.log2_lt h0).mp (Nat.lt_succ_self _)
    have c := (Nat.log2_lt (k := 52) h0).mpr (by omega)
    have hL : FP.Core.leading t 1 = (t.log2 : Int) := by
      unfold FP.Core.leading
      rw [show Nat.log2 1 = 0 by decide]
      dsimp only
      rw [if_pos (by simpa using a)]
      simp
    have hM1 : 4503599627370496 ≤ t * 2 ^ (52 - t.log2) := by
      have := Nat.mul_le_mul_right (2 ^ (52 - t.log2)) a
      rw [← Nat.pow_add, show t.log2 + (52 - t.log2) = 52 by omega] at this
      exact this
    have hM2 : t * 2 ^ (52 - t.log2) < 9007199254740992 := by
      have := Nat.mul_lt_mul_of_pos_right b (Nat.two_pow_pos (52 - t.log2))
      rw [← Nat.pow_add, show t.log2 + 1 + (52 - t.log2) = 53 by omega] at this
      exact this
    have hu : FP.Core.unitsNum t (-52) ((t.log2 : Int) + -52 - 52) = t * 2 ^ (52 - t.log2) ∧ FP.Core.unitsDen 1 (-52) ((t.log2 : Int) + -52 - 52) = 1 := by
      unfold FP.Core.unitsNum FP.Core.unitsDen
      rw [show (-52 - ((t.log2 : Int) + -52 - 52)).toNat = 52 - t.log2 by omega, show ((t.log2 : Int) + -52 - 52 - -52).toNat = 0 by omega]
      exact ⟨rfl, by decide⟩
    rw [rr_at (M := t * 2 ^ (52 - t.log2)) h0 hL rfl (by omega) (by omega) (by rw [hu.1, hu.2]; have := near_ex (M := t * 2 ^ (52 - t.log2)) (D := 1) (by decide); rw [Nat.mul_one] at this; exact this) (by omega), if_pos hM2]
    refine ⟨t.log2 + 971, t * 2 ^ (52 - t.log2) - 4503599627370496, ⟨?_, by omega⟩, by omega, by omega⟩
    rw [enc (E := t.log2 + 971) hM1 (by omega) (by omega), of_n (by omega)]
theorem mul_0 {x : UInt64} (h : x.toNat = 0) : (FP.dmul x dPc).toNat = 0 := by
  have : x = 0 := UInt64.toNat_inj.mp h
  subst this
  decide +kernel
theorem n64_of {r : UInt64} (h : r.toNat ≤ 9218868437227405312) : vf_n64 r := by
  unfold vf_n64
  rw [UInt64.le_iff_toNat_le, UInt64.toNat_and]
  exact Nat.le_trans Nat.and_le_left h
theorem isN.n64 {x : UInt64} {E t : Nat} (h : isN x E t) (h2 : E ≤ 2046) : vf_n64 x := n64_of (by have := h.1; have := h.2; omega)
theorem cmp_lt {a b : Int} (h : a < b) : compare a b = .lt := by
  show compareOfLessAndEq a b = .lt
  unfold compareOfLessAndEq
  rw [if_pos h]
theorem cmp_ge {a b : Int} (h : b ≤ a) : compare a b = .eq ∨ compare a b = .gt := by
  show compareOfLessAndEq a b = .eq ∨ compareOfLessAndEq a b = .gt
  unfold compareOfLessAndEq
  rw [if_neg (by omega)]
  by_cases e : a = b
  · rw [if_pos e]; exact Or.inl rfl
  · rw [if_neg e]; exact Or.inr rfl
theorem cmp_gt {a b : Int} (h : b < a) : compare a b = .gt := by
  show compareOfLessAndEq a b = .gt
  unfold compareOfLessAndEq
  rw [if_neg (by omega), if_neg (by omega)]
theorem lt1 {x : UInt64} {E t : Nat} (h : isN x E t) (h1 : 1 ≤ E) (h2 : E ≤ 1022) : FP.dcmp x FP.dconst1 = some .lt := by
  have ht := h.2
  show FP.Core.order (FP.Core.decode FP.Core.b64 x.toNat) (FP.Core.decode FP.Core.b64 FP.dconst1.toNat) = _
  rw [h.dd h1 (by omega), d1_is.dd (by omega) (by omega)]
  show some (compare (FP.Core.signed false (FP.Core.inUnits (4503599627370496 + t) ((E : Int) - 1075) (min ((E : Int) - 1075) ((1023 : Nat) - 1075 : Int)))) (FP.Core.signed false (FP.Core.inUnits (4503599627370496 + 0) ((1023 : Nat) - 1075 : Int) (min ((E : Int) - 1075) ((1023 : Nat) - 1075 : Int))))) = _
  rw [show min ((E : Int) - 1075) ((1023 : Nat) - 1075 : Int) = (E : Int) - 1075 by omega]
  unfold FP.Core.signed FP.Core.inUnits
  rw [show ((E : Int) - 1075 - ((E : Int) - 1075)).toNat = 0 by omega, show (((1023 : Nat) - 1075 : Int) - ((E : Int) - 1075)).toNat = (1022 - E) + 1 by omega]
  refine congrArg some (cmp_lt ?_)
  have : 1 ≤ 2 ^ (1022 - E) := Nat.one_le_two_pow
  simp only [Nat.pow_zero, Nat.mul_one, Nat.add_zero, Bool.false_eq_true, if_false, Nat.pow_succ]
  have h3 : 4503599627370496 * (2 ^ (1022 - E) * 2) ≥ 9007199254740992 := by omega
  omega
theorem ge1 {x : UInt64} {t : Nat} (h : isN x 1023 t) : FP.dcmp x FP.dconst1 = some .eq ∨ FP.dcmp x FP.dconst1 = some .gt := by
  have ht := h.2
  have e : FP.dcmp x FP.dconst1 = some (compare ((4503599627370496 + t : Nat) : Int) ((4503599627370496 : Nat) : Int)) := by
    show FP.Core.order (FP.Core.decode FP.Core.b64 x.toNat) (FP.Core.decode FP.Core.b64 FP.dconst1.toNat) = _
    rw [h.dd (by omega) (by omega), d1_is.dd (by omega) (by omega)]
    show some (compare (FP.Core.signed false (FP.Core.inUnits (4503599627370496 + t) ((1023 : Nat) - 1075 : Int) (min ((1023 : Nat) - 1075 : Int) ((1023 : Nat) - 1075 : Int)))) (FP.Core.signed false (FP.Core.inUnits (4503599627370496 + 0) ((1023 : Nat) - 1075 : Int) (min ((1023 : Nat) - 1075 : Int) ((1023 : Nat) - 1075 : Int))))) = _
    unfold FP.Core.signed FP.Core.inUnits
    simp
  rw [e]
  rcases cmp_ge (a := ((4503599627370496 + t : Nat) : Int)) (b := ((4503599627370496 : Nat) : Int)) (by omega) with z | z
  · exact Or.inl (by rw [z])
  · exact Or.inr (by rw [z])
theorem gt0 {x : UInt64} {E t : Nat} (h : isN x E t) (h1 : 1 ≤ E) (h2 : E ≤ 1023) : FP.dcmp x FP.dconst0 = some .gt := by
  have ht := h.2
  have e0 : FP.Core.decode FP.Core.b64 FP.dconst0.toNat = .fin false 0 (-1074) := by decide +kernel
  show FP.Core.order (FP.Core.decode FP.Core.b64 x.toNat) (FP.Core.decode FP.Core.b64 FP.dconst0.toNat) = _
  rw [h.dd h1 (by omega), e0]
  show some (compare (FP.Core.signed false (FP.Core.inUnits (4503599627370496 + t) ((E : Int) - 1075) (min ((E : Int) - 1075) (-1074)))) (FP.Core.signed false (FP.Core.inUnits 0 (-1074) (min ((E : Int) - 1075) (-1074))))) = _
  rw [show min ((E : Int) - 1075) (-1074) = -1074 by omega]
  unfold FP.Core.signed FP.Core.inUnits
  refine congrArg some (cmp_gt ?_)
  have h3 := Nat.two_pow_pos ((E : Int) - 1075 - -1074).toNat
  have h4 : 0 < (4503599627370496 + t) * 2 ^ ((E : Int) - 1075 - -1074).toNat := Nat.mul_pos (by omega) h3
  simp only [Nat.zero_mul, Bool.false_eq_true, if_false]
  omega
theorem eq0 {x : UInt64} (h : x.toNat = 0) : FP.dcmp x FP.dconst0 = some .eq := by
  have : x = 0 := UInt64.toNat_inj.mp h
  subst this
  decide +kernel

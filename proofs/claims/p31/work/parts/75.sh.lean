/-! The share of sacks in time, its bits, by both -/
theorem cv_lt {op : CmpOp} : Op.cmpValue (some .lt) op = -1 := by cases op <;> rfl
theorem cv_eq {op : CmpOp} : Op.cmpValue (some .eq) op = 0 := by cases op <;> rfl
theorem cv_gt {op : CmpOp} : Op.cmpValue (some .gt) op = 1 := by cases op <;> rfl
def shD (S : CS) : UInt64 := if S.1 6 = 0 then FP.dconst1 else FP.ddiv (FP.i2d (S.1 6 - S.1 7)) (FP.i2d (S.1 6))
theorem sh_is {x : UInt64} {E t : Nat} (h : isN x E t) (h1 : 1013 ≤ E) (h2 : E ≤ 1023) (h3 : E = 1023 → t = 0) : sh01 x := Or.inr ⟨E, t, h.1, h.2, h1, h2, h3⟩
theorem WF.g {S : CS} (h : WF S) : ∃ g la, S.1 6 = nI g ∧ S.1 7 = nI la ∧ la ≤ g ∧ g ≤ 999 := by
  obtain ⟨-, -, -, c, g, la, k1, k2, k3, k4, k5, k6, k7, k8⟩ := h.2.1
  exact ⟨g, la, k4, k5, k6, by omega⟩
theorem shD_ok {S : CS} (h : WF S) : sh01 (shD S) := by
  obtain ⟨g, la, e1, e2, e3, e4⟩ := h.g
  unfold shD
  rw [e1, e2]
  by_cases h0 : g = 0
  · rw [if_pos (by rw [h0]; rfl)]; exact sh_is d1_is (by decide) (by decide) (fun _ => rfl)
  · rw [if_neg (nI_ne0 (by omega) (by omega)), pk_sub e3]; exact sh_div (by omega) e4 (by omega)
theorem sh01.n64 {x : UInt64} (h : sh01 x) : vf_n64 x := by
  rcases h with h | ⟨E, t, h1, h2, h3, h4, -⟩
  · exact n64_of (by omega)
  · exact n64_of (by omega)
theorem sh01.self {x : UInt64} (h : sh01 x) : FP.dcmp x x = some .eq := by
  rcases h with h | ⟨E, t, h1, h2, h3, h4, -⟩
  · have : x = 0 := UInt64.toNat_inj.mp h
    subst this
    decide +kernel
  · show FP.Core.order (FP.Core.decode FP.Core.b64 x.toNat) (FP.Core.decode FP.Core.b64 x.toNat) = _
    rw [isN.dd ⟨h1, h2⟩ (by omega) (by omega)]
    generalize (E : Int) - 1075 = q
    show some (compare (FP.Core.signed false (FP.Core.inUnits (4503599627370496 + t) q (min q q))) (FP.Core.signed false (FP.Core.inUnits (4503599627370496 + t) q (min q q)))) = _
    generalize FP.Core.signed false (FP.Core.inUnits (4503599627370496 + t) q (min q q)) = z
    show some (compareOfLessAndEq z z) = _
    unfold compareOfLessAndEq
    rw [if_neg (Int.lt_irrefl z), if_pos rfl]
def dbN : Nat → UInt64 → UInt64
  | 0, x => x
  | n + 1, x => dbN n (FP.dmul x d2c)
def exN : Nat → Int64
  | 0 => 1023
  | n + 1 => exN n - 1
def btS (x : UInt64) : Int64 := if x.toNat = 0 then 0 else exN (1023 - x.toNat / 4503599627370496) * 4503599627370496 + FP.d2l (FP.dmul (FP.dsub (dbN (1023 - x.toNat / 4503599627370496) x) FP.dconst1) dPc)
theorem ex_shl {j : Nat} (h : j ≤ 10) : exN j <<< ((52 : Int32).toInt64 &&& 63) = exN j * 4503599627370496 := by
  rcases (show j = 0 ∨ j = 1 ∨ j = 2 ∨ j = 3 ∨ j = 4 ∨ j = 5 ∨ j = 6 ∨ j = 7 ∨ j = 8 ∨ j = 9 ∨ j = 10 by omega) with rfl | rfl | rfl | rfl | rfl | rfl | rfl | rfl | rfl | rfl | rfl <;> decide +kernel
theorem dbl_is {m : UInt64} {E t : Nat} (h : isN m E t) (h1 : 1 ≤ E) (h2 : E ≤ 1022) : isN (FP.dmul m d2c) (E + 1) t := by
  have := mul_is h d2_is h1 (by omega) (by decide) (by decide)
  rw [show E + 1024 - 1023 = E + 1 by omega] at this
  exact this
theorem sub_n64 {m : UInt64} {t : Nat} (h : isN m 1023 t) : vf_n64 (FP.dsub m FP.dconst1) := by
  rcases sub_is h with z | ⟨E, u, z, z1, z2⟩
  · exact n64_of (by omega)
  · exact z.n64 (by omega)
theorem pr_n64 {m : UInt64} {t : Nat} (h : isN m 1023 t) : vf_n64 (FP.dmul (FP.dsub m FP.dconst1) dPc) := by
  rcases sub_is h with z | ⟨E, u, z, z1, z2⟩
  · exact n64_of (by rw [mul_0 z]; omega)
  · exact (mul_is z dP_is z1 z2 (by decide) (by decide)).n64 (by omega)
theorem ge1v {m : UInt64} {t : Nat} {op : CmpOp} (h : isN m 1023 t) : ∃ v : Int32, Op.cmpValue (FP.dcmp m FP.dconst1) op = v ∧ 0 ≤ v := by
  rcases ge1 h with z | z
  · exact ⟨0, by rw [z, cv_eq], by decide⟩
  · exact ⟨1, by rw [z, cv_gt], by decide⟩
set_option maxHeartbeats 4000000 in
set_option maxRecDepth 100000 in
theorem C_share {l : Launch} (hlt : l.stackTraces = false) {im : TI} {rm : TP} {lm : TL} {S : CS} (hT : RT rm) (hC : RC rm) (hR : CR 1 S im) (hW : WF S) : Con l m_X4_shareInTime 0 0 0 NN [pv (some 0)] im rm lm (QP (.double (shD S)) im rm lm) noX := by
  have hk0 := kdT
  have hC1 := c1 hC
  have hk1 := hC1.1
  obtain ⟨t0, t1, t2, t4, t5, t7, t8⟩ := id hT
  have hg6 : im 1 10 = S.1 6 := hR.1.2.2.2.2.2 10 (by decide) (by decide)
  have hg7 : im 1 11 = S.1 7 := hR.1.2.2.2.2.2 11 (by decide) (by decide)
  refine Con.ofN (k := 1) (L0 := [some (pv (some 0)), none]) hlt (by decide +kernel) rfl rfl (by rw [en1 pv_cat, en0]; exact Nat.le_of_ble_eq_true rfl) (by rw [en1 pv_cat, en0]; rfl) ?_
  refine t_aload0 dX4_shareInTime_0 ?_
  refine g_getr ft4 fl_X4_10 (j := 0) (by decide) dX4_shareInTime_1 (by assumption) (by assumption) ?_
  refine g_geti ft0 fl_X4_111 (j := 10) (by decide) dX4_shareInTime_4 (by assumption) ?_
  refine t_istore1 dX4_shareInTime_7 (by decide) okp_r ?_
  refine t_iload1 dX4_shareInTime_8 ?_
  refine pw_if_gt 14 dX4_shareInTime_9 (by decide) (fun zc9 => ?_) (fun zc9 => ?_)
  · have hz : ¬ S.1 6 = 0 := fun z => by rw [hg6, z] at zc9; exact absurd zc9 (by decide)
    refine t_iload1 dX4_shareInTime_14 ?_
    refine t_aload0 dX4_shareInTime_15 ?_
    refine g_getr ft4 fl_X4_10 (j := 0) (by decide) dX4_shareInTime_16 (by assumption) (by assumption) ?_
    refine g_geti ft0 fl_X4_314 (j := 11) (by decide) dX4_shareInTime_19 (by assumption) ?_
    refine pw_isub dX4_shareInTime_22 ?_
    refine pw_i2d dX4_shareInTime_23 ?_
    refine t_iload1 dX4_shareInTime_24 ?_
    refine pw_i2d dX4_shareInTime_25 ?_
    refine pw_ddiv dX4_shareInTime_26 (by have := (shD_ok hW).n64; rw [shD, if_neg hz] at this; rw [hg6, hg7]; exact this) ?_
    refine pw_dret dX4_shareInTime_27 rfl ?_
    exact ⟨rfl, by rw [shD, if_neg hz, hg6, hg7], rfl, rfl, rfl⟩
  · have hz : S.1 6 = 0 := by
      rw [hg6] at zc9
      obtain ⟨g, la, e1, e2, e3, e4⟩ := hW.g
      rw [e1] at zc9 ⊢
      by_cases h0 : g = 0
      · rw [h0]; rfl
      · exact absurd ((nI_ltI (a := 0) (by decide) (by omega)).mpr (by omega)) zc9
    refine pw_dconst1 dX4_shareInTime_12 ?_
    refine pw_dret dX4_shareInTime_13 rfl ?_
    exact ⟨rfl, by rw [shD, if_pos hz], rfl, rfl, rfl⟩
set_option maxHeartbeats 4000000 in
set_option maxRecDepth 100000 in
theorem C_inTime {l : Launch} (hlt : l.stackTraces = false) {im : TI} {rm : TP} {lm : TL} {Z : TI × TP} {S : CS} {n : Nat} {T : Nat → CS} {sn : Option CS} {bl : Nat} {B : Nat → Int32} (hTS : TS Z S n T sn bl B im rm) (hW : WF S) : Con l m_X4_inTime 8 0 0 NN [pv (some 0)] im rm lm (QP (.double (shD S)) im rm lm) noX := by
  obtain ⟨⟨hT, hC⟩, ⟨hR, hI⟩, hTS2⟩ := id hTS
  have hk0 := kdT
  have hk79 := kd79
  have hC1 := c1 hC
  have hk1 := hC1.1
  obtain ⟨t0, t1, t2, t4, t5, t7, t8⟩ := id hT
  refine Con.ofN (k := 0) (L0 := [some (pv (some 0))]) hlt (by decide +kernel) rfl rfl (by rw [en1 pv_cat, en0]; exact Nat.le_of_ble_eq_true rfl) (by rw [en1 pv_cat, en0]; rfl) ?_
  refine t_aload0 dX4_inTime_0 ?_
  refine g_callV0P (C_share (l := l) hlt hT hC hR hW) rfl ft4 rfl mc_X4_shareInTime ml_X4_233 mi_X4_shareInTime ms_X4_shareInTime in_X4 (okc_X4_shareInTime (by decide)) dX4_inTime_1 (by assumption) (cat_le (Nat.le_of_ble_eq_true rfl)) ?_
  refine pw_dret dX4_inTime_4 rfl ?_
  exact ⟨rfl, rfl, rfl, rfl, rfl⟩

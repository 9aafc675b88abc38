/-! The share of sacks in time, its bits, by both -/
theorem cv_lt {op : CmpOp} : Op.cmpValue (some .lt) op = -1 := by cases op <;> rfl
theorem cv_eq {op : CmpOp} : Op.cmpValue (some .eq) op = 0 := by cases op <;> rfl
theorem cv_gt {op : CmpOp} : Op.cmpValue (some .gt) op = 1 := by cases op <;> rfl
def shD (S : CS) : UInt64 := if S.1 6 = 0 then FP.dconst1 else FP.ddiv (FP.i2d (S.1 6 - S.1 7)) (FP.i2d (S.1 6))
theorem sh_is {x : UInt64} {E t : Nat} (h : isN x E t) (h1 : 1013 ≤ E) (h2 : E ≤ 1023) (h3 : E = 1023 → t = 0) : sh01 x := Or.inr ⟨E, t, h.1, h.2, h1, h2, h3⟩
theorem WF.g {S : CS} (h : WF S) : ∃ g la, S.1 6 = nI g ∧ S.1 7 = nI la ∧ la ≤ g ∧ g ≤ 999 := by
  obtain ⟨-, -, -, c, g, la, k1, k2, k3, k4, k5, k6, k7, k8⟩ := h.2.1
  exact ⟨g, la, k4, k5, k6, by omega⟩
theorem shD_ok {S : CS} (h : WF S) : sh01 (shD S) := by
  obtain ⟨g, la, e1, e2, e3, e4⟩ := h.g
  unfold shD
  rw [e1, e2]
  by_cases h0 : g = 0
  · rw [if_pos (by rw [h0]; rfl)]; exact sh_is d1_is (by decide) (by decide) (fun _ => rfl)
  · rw [if_neg (nI_ne0 (by omega) (by omega)), pk_sub e3]; exact sh_div (by omega) e4 (by omega)
theorem sh01.n64 {x : UInt64} (h : sh01 x) : vf_n64 x := by
  rcases h with h | ⟨E, t, h1, h2, h3, h4, -⟩
  · exact n64_of (by omega)
  · exact n64_of (by omega)
theorem sh01.self {x : UInt64} (h : sh01 x) : FP.dcmp x x = some .eq := by
  rcases h with h | ⟨E, t, h1, h2, h3, h4, -⟩
  · have : x = 0 := UInt64.toNat_inj.mp h
    subst this
    decide +kernel
  · show FP.Core.order (FP.Core.decode FP.Core.b64 x.toNat) (FP.Core.decode FP.Core.b64 x.toNat) = _
    rw [isN.dd ⟨h1, h2⟩ (by omega) (by omega)]
    generalize (E : Int) - 1075 = q
    show some (compare (FP.Core.signed false (FP.Core.inUnits (4503599627370496 + t) q (min q q))) (FP.Core.signed false (FP.Core.inUnits (4503599627370496 + t) q (min q q)))) = _
    generalize FP.Core.signed false (FP.Core.inUnits (4503599627370496 + t) q (min q q)) = z
    show some (compareOfLessAndEq z z) = _
    unfold compareOfLessAndEq
    rw [if_neg (Int.lt_irrefl z), if_pos rfl]
def dbN : Nat → UInt64 → UInt64
  | 0, x => x
  | n + 1, x => dbN n (FP.dmul x d2c)
def exN : Nat → Int64
  | 0 => 1023
  | n + 1 => exN n - 1
def btS (x : UInt64) : Int64 := if x.toNat = 0 then 0 else exN (1023 - x.toNat / 4503599627370496) * 4503599627370496 + FP.d2l (FP.dmul (FP.dsub (dbN (1023 - x.toNat / 4503599627370496) x) FP.dconst1) dPc)
theorem ex_shl {j : Nat} (h : j ≤ 10) : exN j <<< ((52 : Int32).toInt64 &&& 63) = exN j * 4503599627370496 := by
  rcases (show j = 0 ∨ j = 1 ∨ j = 2 ∨ j = 3 ∨ j = 4 ∨ j = 5 ∨ j = 6 ∨ j = 7 ∨ j = 8 ∨ j = 9 ∨ j = 10 by omega) with rfl | rfl | rfl | rfl | rfl | rfl | rfl | rfl | rfl | rfl | rfl <;> decide +kernel
theorem dbl_is {m : UInt64} {E t : Nat} (h : isN m E t) (h1 : 1 ≤ E) (h2 : E ≤ 1022) : isN (FP.dmul m d2c) (E + 1) t := by
  have := mul_is h d2_is h1 (by omega) (by decide) (by decide)
  rw [show E + 1024 - 1023 = E + 1 by omega] at this
  exact this
theorem sub_n64 {m : UInt64} {t : Nat} (h : isN m 1023 t) : vf_n64 (FP.dsub m FP.dconst1) := by
  rcases sub_is h with z | ⟨E, u, z, z1, z2⟩
  · exact n64_of (by omega)
  · exact z.n64 (by omega)
theorem pr_n64 {m : UInt64} {t : Nat} (h : isN m 1023 t) : vf_n64 (FP.dmul (FP.dsub m FP.dconst1) dPc) := by
  rcases sub_is h with z | ⟨E, u, z, z1, z2⟩
  · exact n64_of (by rw [mul_0 z]; omega)
  · exact (mul_is z dP_is z1 z2 (by decide) (by decide)).n64 (by omega)
theorem ge1v {m : UInt64} {t : Nat} {op : CmpOp} (h : isN m 1023 t) : ∃ v : Int32, Op.cmpValue (FP.dcmp m FP.dconst1) op = v ∧ 0 ≤ v := by
  rcases ge1 h with z | z
  · exact ⟨0, by rw [z, cv_eq], by decide⟩
  · exact ⟨1, by rw [z, cv_gt], by decide⟩
set_option maxHeartbeats 4000000 in
set_option maxRecDepth 100000 in
theorem C_share {l : Launch} (hlt : l.stackTraces = false) {im : TI} {rm : TP} {lm : TL} {S : CS} (hT : RT rm) (hC : RC rm) (hR : CR 1 S im) (hW : WF S) : Con l m_X4_shareInTime 0 0 0 NN [pv (some 0)] im rm lm (QP (.double (shD S)) im rm lm) noX := by
  have hk0 := kdT
  have hC1 := c1 hC
  have hk1 := hC1.1
  obtain ⟨t0, t1, t2, t4, t5, t7, t8⟩ := id hT
  have hg6 : im 1 10 = S.1 6 := hR.1.2.2.2.2.2 10 (by decide) (by decide)
  have hg7 : im 1 11 = S.1 7 := hR.1.2.2.2.2.2 11 (by decide) (by decide)
  refine Con.ofN (k := 1) (L0 := [some (pv (some 0)), none]) hlt (by decide +kernel) rfl rfl (by rw [en1 pv_cat, en0]; exact Nat.le_of_ble_eq_true rfl) (by rw [en1 pv_cat, en0]; rfl) ?_
  refine t_aload0 dX4_shareInTime_0 ?_
  refine g_getr ft4 fl_X4_10 (j := 0) (by decide) dX4_shareInTime_1 (by assumption) (by assumption) ?_
  refine g_geti ft0 fl_X4_111 (j := 10) (by decide) dX4_shareInTime_4 (by assumption) ?_
  refine t_istore1 dX4_shareInTime_7 (by decide) okp_r ?_
  refine t_iload1 dX4_shareInTime_8 ?_
  refine pw_if_gt 14 dX4_shareInTime_9 (by decide) (fun zc9 => ?_) (fun zc9 => ?_)
  · have hz : ¬ S.1 6 = 0 := fun z => by rw [hg6, z] at zc9; exact absurd zc9 (by decide)
    refine t_iload1 dX4_shareInTime_14 ?_
    refine t_aload0 dX4_shareInTime_15 ?_
    refine g_getr ft4 fl_X4_10 (j := 0) (by decide) dX4_shareInTime_16 (by assumption) (by assumption) ?_
    refine g_geti ft0 fl_X4_314 (j := 11) (by decide) dX4_shareInTime_19 (by assumption) ?_
    refine pw_isub dX4_shareInTime_22 ?_
    refine pw_i2d dX4_shareInTime_23 ?_
    refine t_iload1 dX4_shareInTime_24 ?_
    refine pw_i2d dX4_shareInTime_25 ?_
    refine pw_ddiv dX4_shareInTime_26 (by have := (shD_ok hW).n64; rw [shD, if_neg hz] at this; rw [hg6, hg7]; exact this) ?_
    refine pw_dret dX4_shareInTime_27 rfl ?_
    exact ⟨rfl, by rw [shD, if_neg hz, hg6, hg7], rfl, rfl, rfl⟩
  · have hz : S.1 6 = 0 := by
      rw [hg6] at zc9
      obtain ⟨g, la, e1, e2, e3, e4⟩ := hW.g
      rw [e1] at zc9 ⊢
      by_cases h0 : g = 0
      · rw [h0]; rfl
      · exact absurd ((nI_ltI (a := 0) (by decide) (by omega)).mpr (by omega)) zc9
    refine pw_dconst1 dX4_shareInTime_12 ?_
    refine pw_dret dX4_shareInTime_13 rfl ?_
    exact ⟨rfl, by rw [shD, if_pos hz], rfl, rfl, rfl⟩
set_option maxHeartbeats 4000000 in
set_option maxRecDepth 100000 in
theorem M_share {l : Launch} (hlt : l.stackTraces = false) {im : TI} {rm : TP} {lm : TL} {i0 : TI} {S : CS} (hM : MM rm) (hR : MS i0 S im) (hW : WF S) : Con l m_X5_shareInTime 0 0 0 NN [pv (some 240)] im rm lm (QP (.double (shD S)) im rm lm) noX := by
  have hk0 := kdM
  have hks := kds
  obtain ⟨r0, r1, r3, r5, r6, r11⟩ := id hM
  refine Con.ofN (k := 0) (L0 := [some (pv (some 240))]) hlt (by decide +kernel) rfl rfl (by rw [en1 pv_cat, en0]; exact Nat.le_of_ble_eq_true rfl) (by rw [en1 pv_cat, en0]; rfl) ?_
  refine t_aload0 dX5_shareInTime_0 ?_
  refine g_getr ft5 fl_X5_7 (j := 0) (by decide) dX5_shareInTime_1 (by assumption) (by assumption) ?_
  refine pw_bipush (6) dX5_shareInTime_4 (by decide) ?_
  refine m_ldG (j := 6) dX5_shareInTime_6 hR rfl (by decide) ?_
  refine pw_if_ne 14 dX5_shareInTime_7 (by decide) (fun zc7 => ?_) (fun zc7 => ?_)
  · refine t_aload0 dX5_shareInTime_14 ?_
    refine g_getr ft5 fl_X5_7 (j := 0) (by decide) dX5_shareInTime_15 (by assumption) (by assumption) ?_
    refine pw_bipush (6) dX5_shareInTime_18 (by decide) ?_
    refine m_ldG (j := 6) dX5_shareInTime_20 hR rfl (by decide) ?_
    refine t_aload0 dX5_shareInTime_21 ?_
    refine g_getr ft5 fl_X5_7 (j := 0) (by decide) dX5_shareInTime_22 (by assumption) (by assumption) ?_
    refine pw_bipush (7) dX5_shareInTime_25 (by decide) ?_
    refine m_ldG (j := 7) dX5_shareInTime_27 hR rfl (by decide) ?_
    refine pw_isub dX5_shareInTime_28 ?_
    refine pw_i2d dX5_shareInTime_29 ?_
    refine t_aload0 dX5_shareInTime_30 ?_
    refine g_getr ft5 fl_X5_7 (j := 0) (by decide) dX5_shareInTime_31 (by assumption) (by assumption) ?_
    refine pw_bipush (6) dX5_shareInTime_34 (by decide) ?_
    refine m_ldG (j := 6) dX5_shareInTime_36 hR rfl (by decide) ?_
    refine pw_i2d dX5_shareInTime_37 ?_
    refine pw_ddiv dX5_shareInTime_38 (by have := (shD_ok hW).n64; rw [shD, if_neg zc7] at this; exact this) ?_
    refine pw_dret dX5_shareInTime_39 rfl ?_
    exact ⟨rfl, by rw [shD, if_neg zc7], rfl, rfl, rfl⟩
  · refine pw_dconst1 dX5_shareInTime_10 ?_
    refine pw_goto 39 dX5_shareInTime_11 (by decide) ?_
    refine pw_dret dX5_shareInTime_39 rfl ?_
    exact ⟨rfl, by rw [shD, if_pos (Classical.not_not.mp zc7)], rfl, rfl, rfl⟩
set_option maxHeartbeats 4000000 in
set_option maxRecDepth 100000 in
theorem C_bits {l : Launch} (hlt : l.stackTraces = false) {im : TI} {rm : TP} {lm : TL} {x : UInt64} (hx : sh01 x) : Con l m_X4_bitsOfShare 0 0 0 NN [.double (x)] im rm lm (QP (.long (btS x)) im rm lm) noX := by
  refine Con.ofN (k := 6) (L0 := [some (.double (x)), none, none, none, none, none, none, none]) hlt (by decide +kernel) rfl rfl (by rw [en2 rfl, en0]; exact Nat.le_of_ble_eq_true rfl) (by rw [en2 rfl, en0]; rfl) ?_
  rcases hx with hx0 | ⟨E, t, hx1, hx2, hx3, hx4, -⟩
  · refine t_dload0 dX4_bitsOfShare_0 ?_
    refine pw_dconst0 dX4_bitsOfShare_1 ?_
    refine pw_dcmp dX4_bitsOfShare_2 ?_
    rw [eq0 hx0, cv_eq]
    refine pw_if_gt 8 dX4_bitsOfShare_3 (by decide) (fun h => absurd h (by decide)) (fun _ => ?_)
    refine pw_lconst (0) dX4_bitsOfShare_6 (by decide) ?_
    refine pw_lret dX4_bitsOfShare_7 rfl ?_
    exact ⟨rfl, by rw [btS, if_pos hx0], rfl, rfl, rfl⟩
  · have hE : x.toNat / 4503599627370496 = E := by omega
    have loop : ∀ (n j : Nat) (m : UInt64), j + n = (1023 - x.toNat / 4503599627370496) → isN m (E + j) t → dbN n m = dbN (1023 - x.toNat / 4503599627370496) x → PW l m_X4_bitsOfShare 0 0 0 NN 18 [some (.double x), none, some (.double m), none, some (.long (exN j)), none, some (.int (nI j)), none] [] im rm lm (QP (.long (btS x)) im rm lm) noX := by
      intro n
      induction n using Nat.strongRecOn with
      | _ n ih =>
        intro j m hj hm hd
        by_cases hn : n = 0
        · have hm0 : isN m 1023 t := by rw [show E + j = 1023 by omega] at hm; exact hm
          rw [hn] at hd
          have at50 : PW l m_X4_bitsOfShare 0 0 0 NN 50 [some (.double x), none, some (.double m), none, some (.long (exN j)), none, some (.int (nI j)), none] [] im rm lm (QP (.long (btS x)) im rm lm) noX := by
            refine t_dload2 dX4_bitsOfShare_50 ?_
            refine pw_dconst1 dX4_bitsOfShare_51 ?_
            refine pw_dsub dX4_bitsOfShare_52 (sub_n64 hm0) ?_
            refine pw_ldc2d k_X4_331 dX4_bitsOfShare_53 ?_
            refine pw_dmul dX4_bitsOfShare_56 (pr_n64 hm0) ?_
            refine pw_d2l dX4_bitsOfShare_57 ?_
            refine t_lstore6 dX4_bitsOfShare_58 (by decide) okp_n ?_
            refine t_lload4 dX4_bitsOfShare_60 ?_
            refine pw_bipush (52) dX4_bitsOfShare_62 (by decide) ?_
            refine pw_lshl dX4_bitsOfShare_64 ?_
            refine t_lload6 dX4_bitsOfShare_65 ?_
            refine pw_ladd dX4_bitsOfShare_67 ?_
            refine pw_lret dX4_bitsOfShare_68 rfl ?_
            exact ⟨rfl, by rw [ex_shl (by omega), btS, if_neg (by omega), ← hd, hE, show 1023 - E = j by omega]; rfl, rfl, rfl, rfl⟩
          refine t_iload6 dX4_bitsOfShare_18 ?_
          refine pw_sipush (1022) dX4_bitsOfShare_20 (by decide) ?_
          refine pw_icmp_ge 50 dX4_bitsOfShare_23 (by decide) (fun zc23 => ?_) (fun zc23 => ?_)
          · exact absurd ((nI_leI (a := 1022) (by decide) (by omega)).mp zc23) (by omega)
          · refine t_dload2 dX4_bitsOfShare_26 ?_
            refine pw_dconst1 dX4_bitsOfShare_27 ?_
            refine pw_dcmp dX4_bitsOfShare_28 ?_
            obtain ⟨cv, hcv, hcv0⟩ := ge1v (op := .g) hm0
            rw [hcv]
            refine pw_if_ge 50 dX4_bitsOfShare_29 (by decide) (fun zc29 => ?_) (fun zc29 => ?_)
            · exact at50
            · exact absurd hcv0 zc29
        · refine t_iload6 dX4_bitsOfShare_18 ?_
          refine pw_sipush (1022) dX4_bitsOfShare_20 (by decide) ?_
          refine pw_icmp_ge 50 dX4_bitsOfShare_23 (by decide) (fun zc23 => ?_) (fun zc23 => ?_)
          · exact absurd ((nI_leI (a := 1022) (by decide) (by omega)).mp zc23) (by omega)
          · refine t_dload2 dX4_bitsOfShare_26 ?_
            refine pw_dconst1 dX4_bitsOfShare_27 ?_
            refine pw_dcmp dX4_bitsOfShare_28 ?_
            rw [lt1 hm (by omega) (by omega), cv_lt]
            refine pw_if_ge 50 dX4_bitsOfShare_29 (by decide) (fun h => absurd h (by decide)) (fun _ => ?_)
            refine t_dload2 dX4_bitsOfShare_32 ?_
            refine pw_ldc2d k_X4_329 dX4_bitsOfShare_33 ?_
            refine pw_dmul dX4_bitsOfShare_36 ((dbl_is hm (by omega) (by omega)).n64 (by omega)) ?_
            refine t_dstore2 dX4_bitsOfShare_37 (by decide) okp_n ?_
            refine t_lload4 dX4_bitsOfShare_38 ?_
            refine pw_lconst (1) dX4_bitsOfShare_40 (by decide) ?_
            refine pw_lsub dX4_bitsOfShare_41 ?_
            refine t_lstore4 dX4_bitsOfShare_42 (by decide) okp_n ?_
            refine t_iinc6 (1) dX4_bitsOfShare_44 (by decide) (by decide) okp_n ?_
            refine pw_goto 18 dX4_bitsOfShare_47 (by decide) ?_
            rw [nI_1]
            exact ih (n - 1) (by omega) (j + 1) _ (by omega) (by have := dbl_is hm (by omega) (by omega); rw [show E + j + 1 = E + (j + 1) by omega] at this; exact this) (by rw [← hd, show n = (n - 1) + 1 by omega]; rfl)
    refine t_dload0 dX4_bitsOfShare_0 ?_
    refine pw_dconst0 dX4_bitsOfShare_1 ?_
    refine pw_dcmp dX4_bitsOfShare_2 ?_
    rw [gt0 ⟨hx1, hx2⟩ (by omega) (by omega), cv_gt]
    refine pw_if_gt 8 dX4_bitsOfShare_3 (by decide) (fun _ => ?_) (fun h => absurd (by decide) h)
    refine t_dload0 dX4_bitsOfShare_8 ?_
    refine t_dstore2 dX4_bitsOfShare_9 (by decide) okp_n ?_
    refine pw_ldc2 k_X4_327 dX4_bitsOfShare_10 ?_
    refine t_lstore4 dX4_bitsOfShare_13 (by decide) okp_n ?_
    refine pw_iconst (0) dX4_bitsOfShare_15 (by decide) ?_
    refine t_istore6 dX4_bitsOfShare_16 (by decide) okp_n ?_
    exact loop (1023 - x.toNat / 4503599627370496) 0 x (by omega) ⟨hx1, hx2⟩ rfl
set_option maxHeartbeats 4000000 in
set_option maxRecDepth 100000 in
theorem M_bits {l : Launch} (hlt : l.stackTraces = false) {im : TI} {rm : TP} {lm : TL} {x : UInt64} (hx : sh01 x) : Con l m_X5_bitsOf 0 0 0 NN [.double (x)] im rm lm (QP (.long (btS x)) im rm lm) noX := by
  refine Con.ofN (k := 4) (L0 := [some (.double (x)), none, none, none, none, none]) hlt (by decide +kernel) rfl rfl (by rw [en2 rfl, en0]; exact Nat.le_of_ble_eq_true rfl) (by rw [en2 rfl, en0]; rfl) ?_
  rcases hx with hx0 | ⟨E, t, hx1, hx2, hx3, hx4, -⟩
  · refine t_dload0 dX5_bitsOf_0 ?_
    refine pw_dconst0 dX5_bitsOf_1 ?_
    refine pw_dcmp dX5_bitsOf_2 ?_
    rw [eq0 hx0, cv_eq]
    refine pw_if_ne 8 dX5_bitsOf_3 (by decide) (fun h => absurd h (by decide)) (fun _ => ?_)
    refine pw_lconst (0) dX5_bitsOf_6 (by decide) ?_
    refine pw_lret dX5_bitsOf_7 rfl ?_
    exact ⟨rfl, by rw [btS, if_pos hx0], rfl, rfl, rfl⟩
  · have hE : x.toNat / 4503599627370496 = E := by omega
    have loop : ∀ (n j : Nat) (m : UInt64), j + n = (1023 - x.toNat / 4503599627370496) → isN m (E + j) t → dbN n m = dbN (1023 - x.toNat / 4503599627370496) x → PW l m_X5_bitsOf 0 0 0 NN 15 [some (.double x), none, some (.long (exN j)), none, some (.double m), none] [] im rm lm (QP (.long (btS x)) im rm lm) noX := by
      intro n
      induction n using Nat.strongRecOn with
      | _ n ih =>
        intro j m hj hm hd
        by_cases hn : n = 0
        · have hm0 : isN m 1023 t := by rw [show E + j = 1023 by omega] at hm; exact hm
          rw [hn] at hd
          refine t_dload4 dX5_bitsOf_15 ?_
          refine pw_dconst1 dX5_bitsOf_17 ?_
          refine pw_dcmp dX5_bitsOf_18 ?_
          obtain ⟨cv, hcv, hcv0⟩ := ge1v (op := .g) hm0
          rw [hcv]
          refine pw_if_ge 37 dX5_bitsOf_19 (by decide) (fun zc19 => ?_) (fun zc19 => ?_)
          · refine t_lload2 dX5_bitsOf_37 ?_
            refine pw_ldc2 k_X5_196 dX5_bitsOf_38 ?_
            refine pw_lmul dX5_bitsOf_41 ?_
            refine t_dload4 dX5_bitsOf_42 ?_
            refine pw_dconst1 dX5_bitsOf_44 ?_
            refine pw_dsub dX5_bitsOf_45 (sub_n64 hm0) ?_
            refine pw_ldc2d k_X5_198 dX5_bitsOf_46 ?_
            refine pw_dmul dX5_bitsOf_49 (pr_n64 hm0) ?_
            refine pw_d2l dX5_bitsOf_50 ?_
            refine pw_ladd dX5_bitsOf_51 ?_
            refine pw_lret dX5_bitsOf_52 rfl ?_
            exact ⟨rfl, by rw [btS, if_neg (by omega), ← hd, hE, show 1023 - E = j by omega]; rfl, rfl, rfl, rfl⟩
          · exact absurd hcv0 zc19
        · refine t_dload4 dX5_bitsOf_15 ?_
          refine pw_dconst1 dX5_bitsOf_17 ?_
          refine pw_dcmp dX5_bitsOf_18 ?_
          rw [lt1 hm (by omega) (by omega), cv_lt]
          refine pw_if_ge 37 dX5_bitsOf_19 (by decide) (fun h => absurd h (by decide)) (fun _ => ?_)
          refine t_dload4 dX5_bitsOf_22 ?_
          refine pw_ldc2d k_X5_194 dX5_bitsOf_24 ?_
          refine pw_dmul dX5_bitsOf_27 ((dbl_is hm (by omega) (by omega)).n64 (by omega)) ?_
          refine t_dstore4 dX5_bitsOf_28 (by decide) okp_n ?_
          refine t_lload2 dX5_bitsOf_30 ?_
          refine pw_lconst (1) dX5_bitsOf_31 (by decide) ?_
          refine pw_lsub dX5_bitsOf_32 ?_
          refine t_lstore2 dX5_bitsOf_33 (by decide) okp_n ?_
          refine pw_goto 15 dX5_bitsOf_34 (by decide) ?_
          exact ih (n - 1) (by omega) (j + 1) _ (by omega) (by have := dbl_is hm (by omega) (by omega); rw [show E + j + 1 = E + (j + 1) by omega] at this; exact this) (by rw [← hd, show n = (n - 1) + 1 by omega]; rfl)
    refine t_dload0 dX5_bitsOf_0 ?_
    refine pw_dconst0 dX5_bitsOf_1 ?_
    refine pw_dcmp dX5_bitsOf_2 ?_
    rw [gt0 ⟨hx1, hx2⟩ (by omega) (by omega), cv_gt]
    refine pw_if_ne 8 dX5_bitsOf_3 (by decide) (fun _ => ?_) (fun h => absurd (by decide) h)
    refine pw_ldc2 k_X5_192 dX5_bitsOf_8 ?_
    refine t_lstore2 dX5_bitsOf_11 (by decide) okp_n ?_
    refine t_dload0 dX5_bitsOf_12 ?_
    refine t_dstore4 dX5_bitsOf_13 (by decide) okp_n ?_
    exact loop (1023 - x.toNat / 4503599627370496) 0 x (by omega) ⟨hx1, hx2⟩ rfl
set_option maxHeartbeats 4000000 in
set_option maxRecDepth 100000 in
theorem C_inTime {l : Launch} (hlt : l.stackTraces = false) {im : TI} {rm : TP} {lm : TL} {Z : TI × TP} {S : CS} {n : Nat} {T : Nat → CS} {sn : Option CS} {bl : Nat} {B : Nat → Int32} (hTS : TS Z S n T sn bl B im rm) (hW : WF S) : Con l m_X4_inTime 9 0 0 NN [pv (some 0)] im rm lm (QP (.double (shD S)) im rm lm) noX := by
  obtain ⟨⟨hT, hC⟩, ⟨hR, hI⟩, hTS2⟩ := id hTS
  have hk0 := kdT
  have hk79 := kd79
  have hC1 := c1 hC
  have hk1 := hC1.1
  obtain ⟨t0, t1, t2, t4, t5, t7, t8⟩ := id hT
  refine Con.ofN (k := 0) (L0 := [some (pv (some 0))]) hlt (by decide +kernel) rfl rfl (by rw [en1 pv_cat, en0]; exact Nat.le_of_ble_eq_true rfl) (by rw [en1 pv_cat, en0]; rfl) ?_
  refine t_aload0 dX4_inTime_0 ?_
  refine g_callV0P (C_share (l := l) hlt hT hC hR hW) rfl ft4 rfl mc_X4_shareInTime ml_X4_233 mi_X4_shareInTime ms_X4_shareInTime in_X4 (okc_X4_shareInTime (by decide)) dX4_inTime_1 (by assumption) (cat_le (Nat.le_of_ble_eq_true rfl)) ?_
  refine pw_dret dX4_inTime_4 rfl ?_
  exact ⟨rfl, rfl, rfl, rfl, rfl⟩
set_option maxHeartbeats 4000000 in
set_option maxRecDepth 100000 in
theorem M_inTime {l : Launch} (hlt : l.stackTraces = false) {im : TI} {rm : TP} {lm : TL} {Y : TI} {S : CS} {n : Nat} {T : Nat → CS} {sn : Option CS} {bl : Nat} {B : Nat → Int32} (hM : MM rm) (hZ : MZ Y S n T sn bl B im) (hW : WF S) : Con l m_X5_inTime 9 0 0 NN [pv (some 240)] im rm lm (QG (fun v i r q => v = some (.double (shD S)) ∧ r = rm ∧ q = lm ∧ MZ Y S n T sn bl B i)) noX := by
  have hk0 := kdM
  have hks := kds
  obtain ⟨r0, r1, r3, r5, r6, r11⟩ := id hM
  have hR : MS im S im := ⟨hZ.1, fun _ _ => rfl⟩
  refine Con.ofN (k := 0) (L0 := [some (pv (some 240))]) hlt (by decide +kernel) rfl rfl (by rw [en1 pv_cat, en0]; exact Nat.le_of_ble_eq_true rfl) (by rw [en1 pv_cat, en0]; rfl) ?_
  refine t_aload0 dX5_inTime_0 ?_
  refine pw_iconst (0) dX5_inTime_1 (by decide) ?_
  refine g_puti ft5 fl_X5_32 (j := 8) (by decide) ⟨rfl, rfl⟩ dX5_inTime_2 (by assumption) ?_
  have hZ1 := hZ.th (x := 0)
  have hR : MS (ui im 240 8 0) S (ui im 240 8 0) := ⟨hZ1.1, fun _ _ => rfl⟩
  refine t_aload0 dX5_inTime_5 ?_
  refine g_callV0P (M_share (l := l) hlt hM hR hW) rfl ft5 rfl mc_X5_shareInTime ml_X5_188 mi_X5_shareInTime ms_X5_shareInTime in_X5 (okc_X5_shareInTime (by decide)) dX5_inTime_6 (by assumption) (cat_le (Nat.le_of_ble_eq_true rfl)) ?_
  refine pw_dret dX5_inTime_9 rfl ?_
  exact ⟨rfl, rfl, rfl, rfl, hZ1⟩

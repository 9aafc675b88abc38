/-! TideMills$Creek: what it tells -/
theorem rm12 (h : Int32) : -11 ≤ (h - h / 12 * 12).toInt ∧ (h - h / 12 * 12).toInt ≤ 11 := by
  rw [rem_toInt]
  have t := tmod_bounds (a := h.toInt) (M := (12 : Int32).toInt) (by decide)
  rw [show (12 : Int32).toInt = 12 by decide] at t ⊢
  generalize h.toInt.tmod 12 = z at t ⊢
  omega
theorem ab_lt {r : Int32} (h : -11 ≤ r.toInt ∧ r.toInt ≤ 11) (g : r < 6) : ab (6 - r) = 6 - r := by
  rw [Int32.lt_iff_toInt_lt, show (6 : Int32).toInt = 6 by decide] at g
  have e : (6 - r).toInt = 6 - r.toInt := by
    rw [Jvm.Kit.i32_sub (by rw [show (6 : Int32).toInt = 6 by decide]; omega) (by rw [show (6 : Int32).toInt = 6 by decide]; omega)]
    rfl
  unfold ab
  rw [if_pos (by rw [Int32.le_iff_toInt_le, e, show (0 : Int32).toInt = 0 by decide]; omega)]
theorem ab_ge {r : Int32} (h : -11 ≤ r.toInt ∧ r.toInt ≤ 11) (g : 6 ≤ r) : ab (6 - r) = r - 6 := by
  rw [Int32.le_iff_toInt_le, show (6 : Int32).toInt = 6 by decide] at g
  have e : (6 - r).toInt = 6 - r.toInt := by
    rw [Jvm.Kit.i32_sub (by rw [show (6 : Int32).toInt = 6 by decide]; omega) (by rw [show (6 : Int32).toInt = 6 by decide]; omega)]
    rfl
  unfold ab
  by_cases c : r.toInt = 6
  · have : r = 6 := Int32.toInt_inj.mp c
    rw [this]; decide
  · rw [if_neg (by rw [Int32.le_iff_toInt_le, e, show (0 : Int32).toInt = 0 by decide]; omega), Int32.zero_sub, Int32.neg_sub]
set_option maxHeartbeats 4000000 in
set_option maxRecDepth 100000 in
theorem C_tideIn {l : Launch} (hlt : l.stackTraces = false) {im : TI} {rm : TP} {lm : TL} {c : Nat} {h : Int32} (hkc : kd c = 0) : Con l m_X0_tideIn 1 0 0 NN [pv (some c), .int (h)] im rm lm (QP (.int (im c 1 * ab (6 - (h - h / 12 * 12)))) im rm lm) noX := by
  refine Con.ofN (k := 1) (L0 := [some (pv (some c)), some (.int (h)), none]) hlt (by decide +kernel) rfl rfl (by rw [en1 pv_cat, en1 rfl, en0]; exact Nat.le_of_ble_eq_true rfl) (by rw [en1 pv_cat, en1 rfl, en0]; rfl) ?_
  refine t_iload1 dX0_tideIn_0 ?_
  refine pw_bipush (12) dX0_tideIn_1 (by decide) ?_
  refine pw_irem dX0_tideIn_3 (by decide) ?_
  refine t_istore2 dX0_tideIn_4 (by decide) okp_i ?_
  refine t_aload0 dX0_tideIn_5 ?_
  refine g_geti ft0 fl_X0_9 (j := 1) (by decide) dX0_tideIn_6 (by assumption) ?_
  refine t_iload2 dX0_tideIn_9 ?_
  refine pw_bipush (6) dX0_tideIn_10 (by decide) ?_
  refine pw_icmp_ge 22 dX0_tideIn_12 (by decide) (fun zc12 => ?_) (fun zc12 => ?_)
  · refine t_iload2 dX0_tideIn_22 ?_
    refine pw_bipush (6) dX0_tideIn_23 (by decide) ?_
    refine pw_isub dX0_tideIn_25 ?_
    refine pw_imul dX0_tideIn_26 ?_
    refine pw_iret dX0_tideIn_27 rfl ?_
    exact ⟨rfl, by rw [ab_ge (rm12 h) zc12], rfl, rfl, rfl⟩
  · refine pw_bipush (6) dX0_tideIn_15 (by decide) ?_
    refine t_iload2 dX0_tideIn_17 ?_
    refine pw_isub dX0_tideIn_18 ?_
    refine pw_goto 26 dX0_tideIn_19 (by decide) ?_
    refine pw_imul dX0_tideIn_26 ?_
    refine pw_iret dX0_tideIn_27 rfl ?_
    exact ⟨rfl, by rw [ab_lt (rm12 h) (Int32.not_le.mp zc12)], rfl, rfl, rfl⟩
theorem td_of {c : Nat} {S : CS} {im : TI} {h : Int32} (hR : CR c S im) : im c 1 * ab (6 - (h - h / 12 * 12)) = tdF S h := by rw [hR.1.1]; rfl
theorem hd_of {c m : Nat} {S : CS} {im : TI} (hR : CR c S im) (hm : m < 5) : hdF (im (mA c m)) (im c 1 * ab (6 - (im c 4 - im c 4 / 12 * 12))) = hd S m := by
  rw [hdF_of (hR.2 m hm), hR.1.1, hR.1.2.2.2.1]; rfl
theorem ck_of {rm : TP} {c m : Nat} (hC : isC rm c) (hm : m < 5) : kd (mA c m) = 2 := (hC.2.2.1 m hm).1
theorem w11 {c m : Nat} {S : CS} {im : TI} (hR : CR c S im) (hm : m < 5) : im (mA c m) 11 = S.2.1 m 9 := (hR.2 m hm).2.1 9 (by decide)
theorem w3 {c m : Nat} {S : CS} {im : TI} (hR : CR c S im) (hm : m < 5) : im (mA c m) 3 = S.2.1 m 1 := (hR.2 m hm).2.1 1 (by decide)
theorem fd_of {c m : Nat} {S : CS} {im : TI} (hR : CR c S im) (hm : m < 5) : (if 0 < im (mA c m) 11 then im (mA c m + 4) 0 else -1) = fdF S m := by
  rw [w11 hR hm, ((hR.2 m hm).2.2 0 (by decide)).2.2.2]; rfl
set_option maxHeartbeats 4000000 in
set_option maxRecDepth 100000 in
theorem C_reason {l : Launch} (hlt : l.stackTraces = false) {im : TI} {rm : TP} {lm : TL} {c : Nat} {S : CS} (hC : isC rm c) (hR : CR c S im) {m : Nat} (hm : m < 5) : Con l m_X0_reasonToRest 2 0 0 NN [pv (some c), pv (some (mA c m))] im rm lm (QP (.int (rsF S m)) im rm lm) noX := by
  have hkc := hC.1
  have hkm := ck_of hC hm
  refine Con.ofN (k := 0) (L0 := [some (pv (some c)), some (pv (some (mA c m)))]) hlt (by decide +kernel) rfl rfl (by rw [en1 pv_cat, en1 pv_cat, en0]; exact Nat.le_of_ble_eq_true rfl) (by rw [en1 pv_cat, en1 pv_cat, en0]; rfl) ?_
  refine t_aload1 dX0_reasonToRest_0 ?_
  refine g_geti ft2 fl_X0_81 (j := 11) (by decide) dX0_reasonToRest_1 (by assumption) ?_
  refine pw_if_ne 9 dX0_reasonToRest_4 (by decide) (fun zc4 => ?_) (fun zc4 => ?_)
  · refine t_aload1 dX0_reasonToRest_9 ?_
    refine t_aload0 dX0_reasonToRest_10 ?_
    refine t_aload0 dX0_reasonToRest_11 ?_
    refine g_geti ft0 fl_X0_21 (j := 4) (by decide) dX0_reasonToRest_12 (by assumption) ?_
    refine g_callV1P (C_tideIn (l := l) hlt hkc) rfl ft0 rfl mc_X0_tideIn ml_X0_95 mi_X0_tideIn ms_X0_tideIn in_X0 (okc_X0_tideIn (by decide)) dX0_reasonToRest_15 (by assumption) (cat_le (Nat.le_of_ble_eq_true rfl)) ?_
    refine g_callV1P (C_headAt (l := l) hlt hkm) rfl ft2 rfl mc_X2_headAt ml_X0_98 mi_X2_headAt ms_X2_headAt in_X2 (okc_X2_headAt (by decide)) dX0_reasonToRest_18 (by assumption) (cat_le (Nat.le_of_ble_eq_true rfl)) ?_
    refine t_aload0 dX0_reasonToRest_21 ?_
    refine g_geti ft0 fl_X0_15 (j := 2) (by decide) dX0_reasonToRest_22 (by assumption) ?_
    refine pw_icmp_ge 30 dX0_reasonToRest_25 (by decide) (fun zc25 => ?_) (fun zc25 => ?_)
    · refine t_aload1 dX0_reasonToRest_30 ?_
      refine g_geti ft2 fl_X0_78 (j := 3) (by decide) dX0_reasonToRest_31 (by assumption) ?_
      refine t_aload0 dX0_reasonToRest_34 ?_
      refine g_geti ft0 fl_X0_18 (j := 3) (by decide) dX0_reasonToRest_35 (by assumption) ?_
      refine pw_icmp_ge 45 dX0_reasonToRest_38 (by decide) (fun zc38 => ?_) (fun zc38 => ?_)
      · refine pw_iconst (0) dX0_reasonToRest_45 (by decide) ?_
        refine pw_iret dX0_reasonToRest_46 rfl ?_
        exact ⟨rfl, by rw [rsF, if_neg (by rw [← w11 hR hm]; exact zc4), if_neg (by rw [← hd_of hR hm, ← hR.1.2.1]; exact Int32.not_lt.mpr zc25), if_neg (by rw [← w3 hR hm, ← hR.1.2.2.1]; exact Int32.not_lt.mpr zc38)], rfl, rfl, rfl⟩
      · refine pw_iconst (3) dX0_reasonToRest_41 (by decide) ?_
        refine pw_goto 46 dX0_reasonToRest_42 (by decide) ?_
        refine pw_iret dX0_reasonToRest_46 rfl ?_
        exact ⟨rfl, by rw [rsF, if_neg (by rw [← w11 hR hm]; exact zc4), if_neg (by rw [← hd_of hR hm, ← hR.1.2.1]; exact Int32.not_lt.mpr zc25), if_pos (by rw [← w3 hR hm, ← hR.1.2.2.1]; exact Int32.not_le.mp zc38)], rfl, rfl, rfl⟩
    · refine pw_iconst (2) dX0_reasonToRest_28 (by decide) ?_
      refine pw_iret dX0_reasonToRest_29 rfl ?_
      exact ⟨rfl, by rw [rsF, if_neg (by rw [← w11 hR hm]; exact zc4), if_pos (by rw [← hd_of hR hm, ← hR.1.2.1]; exact Int32.not_le.mp zc25)], rfl, rfl, rfl⟩
  · refine pw_iconst (1) dX0_reasonToRest_7 (by decide) ?_
    refine pw_iret dX0_reasonToRest_8 rfl ?_
    exact ⟨rfl, by rw [rsF, if_pos (by rw [← w11 hR hm]; exact Classical.not_not.mp zc4)], rfl, rfl, rfl⟩
set_option maxHeartbeats 4000000 in
set_option maxRecDepth 100000 in
theorem C_ahead {l : Launch} (hlt : l.stackTraces = false) {im : TI} {rm : TP} {lm : TL} {c : Nat} {S : CS} (hC : isC rm c) (hR : CR c S im) {m m2 : Nat} (hm : m < 5) (hm2 : m2 < 5) : Con l m_X0_turnsAheadOf 2 0 0 NN [pv (some c), pv (some (mA c m)), pv (some (mA c m2))] im rm lm (QP (.int (bI (ahF S m m2))) im rm lm) noX := by
  have hkc := hC.1
  have hkm := ck_of hC hm
  have hkm2 := ck_of hC hm2
  refine Con.ofN (k := 5) (L0 := [some (pv (some c)), some (pv (some (mA c m))), some (pv (some (mA c m2))), none, none, none, none, none]) hlt (by decide +kernel) rfl rfl (by rw [en1 pv_cat, en1 pv_cat, en1 pv_cat, en0]; exact Nat.le_of_ble_eq_true rfl) (by rw [en1 pv_cat, en1 pv_cat, en1 pv_cat, en0]; rfl) ?_
  refine t_aload1 dX0_turnsAheadOf_0 ?_
  refine g_callV0P (C_firstDue (l := l) hlt (hC.2.2.1 m hm)) rfl ft2 rfl mc_X2_firstDue ml_X0_101 mi_X2_firstDue ms_X2_firstDue in_X2 (okc_X2_firstDue (by decide)) dX0_turnsAheadOf_1 (by assumption) (cat_le (Nat.le_of_ble_eq_true rfl)) ?_
  refine t_istore3 dX0_turnsAheadOf_4 (by decide) okp_r ?_
  refine t_aload2 dX0_turnsAheadOf_5 ?_
  refine g_callV0P (C_firstDue (l := l) hlt (hC.2.2.1 m2 hm2)) rfl ft2 rfl mc_X2_firstDue ml_X0_101 mi_X2_firstDue ms_X2_firstDue in_X2 (okc_X2_firstDue (by decide)) dX0_turnsAheadOf_6 (by assumption) (cat_le (Nat.le_of_ble_eq_true rfl)) ?_
  refine t_istore4 dX0_turnsAheadOf_9 (by decide) okp_i ?_
  refine t_iload3 dX0_turnsAheadOf_11 ?_
  refine t_iload4 dX0_turnsAheadOf_12 ?_
  refine pw_icmp_eq 29 dX0_turnsAheadOf_14 (by decide) (fun zc14 => ?_) (fun zc14 => ?_)
  · refine t_aload0 dX0_turnsAheadOf_29 ?_
    refine t_aload0 dX0_turnsAheadOf_30 ?_
    refine g_geti ft0 fl_X0_21 (j := 4) (by decide) dX0_turnsAheadOf_31 (by assumption) ?_
    refine g_callV1P (C_tideIn (l := l) hlt hkc) rfl ft0 rfl mc_X0_tideIn ml_X0_95 mi_X0_tideIn ms_X0_tideIn in_X0 (okc_X0_tideIn (by decide)) dX0_turnsAheadOf_34 (by assumption) (cat_le (Nat.le_of_ble_eq_true rfl)) ?_
    refine t_istore5 dX0_turnsAheadOf_37 (by decide) okp_i ?_
    refine t_aload1 dX0_turnsAheadOf_39 ?_
    refine t_iload5 dX0_turnsAheadOf_40 ?_
    refine g_callV1P (C_headAt (l := l) hlt hkm) rfl ft2 rfl mc_X2_headAt ml_X0_98 mi_X2_headAt ms_X2_headAt in_X2 (okc_X2_headAt (by decide)) dX0_turnsAheadOf_42 (by assumption) (cat_le (Nat.le_of_ble_eq_true rfl)) ?_
    refine t_istore6 dX0_turnsAheadOf_45 (by decide) okp_i ?_
    refine t_aload2 dX0_turnsAheadOf_47 ?_
    refine t_iload5 dX0_turnsAheadOf_48 ?_
    refine g_callV1P (C_headAt (l := l) hlt hkm2) rfl ft2 rfl mc_X2_headAt ml_X0_98 mi_X2_headAt ms_X2_headAt in_X2 (okc_X2_headAt (by decide)) dX0_turnsAheadOf_50 (by assumption) (cat_le (Nat.le_of_ble_eq_true rfl)) ?_
    refine t_istore7 dX0_turnsAheadOf_53 (by decide) okp_i ?_
    refine t_iload6 dX0_turnsAheadOf_55 ?_
    refine t_iload7 dX0_turnsAheadOf_57 ?_
    refine pw_icmp_ne 81 dX0_turnsAheadOf_59 (by decide) (fun zc59 => ?_) (fun zc59 => ?_)
    · refine t_iload6 dX0_turnsAheadOf_81 ?_
      refine t_iload7 dX0_turnsAheadOf_83 ?_
      refine pw_icmp_le 92 dX0_turnsAheadOf_85 (by decide) (fun zc85 => ?_) (fun zc85 => ?_)
      · refine pw_iconst (0) dX0_turnsAheadOf_92 (by decide) ?_
        refine pw_zret dX0_turnsAheadOf_93 rfl ?_ ?_
        · rfl
        · rw [fd_of hR hm, fd_of hR hm2] at zc14
          rw [hd_of hR hm, hd_of hR hm2] at zc59
          rw [hd_of hR hm, hd_of hR hm2] at zc85
          refine ⟨rfl, ?_, rfl, rfl, rfl⟩
          rw [bI_f]
          unfold ahF; rw [if_pos zc14, if_neg zc59]; exact Int32.not_lt.mpr zc85
      · refine pw_iconst (1) dX0_turnsAheadOf_88 (by decide) ?_
        refine pw_goto 93 dX0_turnsAheadOf_89 (by decide) ?_
        refine pw_zret dX0_turnsAheadOf_93 rfl ?_ ?_
        · rfl
        · rw [fd_of hR hm, fd_of hR hm2] at zc14
          rw [hd_of hR hm, hd_of hR hm2] at zc59
          rw [hd_of hR hm, hd_of hR hm2] at zc85
          refine ⟨rfl, ?_, rfl, rfl, rfl⟩
          rw [bI_t]
          unfold ahF; rw [if_pos zc14, if_neg zc59]; exact Int32.not_le.mp zc85
    · refine t_aload1 dX0_turnsAheadOf_62 ?_
      refine g_geti ft2 fl_X0_64 (j := 0) (by decide) dX0_turnsAheadOf_63 (by assumption) ?_
      refine t_aload2 dX0_turnsAheadOf_66 ?_
      refine g_geti ft2 fl_X0_64 (j := 0) (by decide) dX0_turnsAheadOf_67 (by assumption) ?_
      refine pw_icmp_ge 77 dX0_turnsAheadOf_70 (by decide) (fun zc70 => ?_) (fun zc70 => ?_)
      · refine pw_iconst (0) dX0_turnsAheadOf_77 (by decide) ?_
        refine pw_goto 93 dX0_turnsAheadOf_78 (by decide) ?_
        refine pw_zret dX0_turnsAheadOf_93 rfl ?_ ?_
        · rfl
        · rw [fd_of hR hm, fd_of hR hm2] at zc14
          rw [hd_of hR hm, hd_of hR hm2] at zc59
          rw [(hR.2 _ hm).1, (hR.2 _ hm2).1] at zc70
          refine ⟨rfl, ?_, rfl, rfl, rfl⟩
          rw [bI_f]
          unfold ahF; rw [if_pos zc14, if_pos (Classical.not_not.mp zc59)]; exact Nat.not_lt.mpr ((nI_leI (by omega) (by omega)).mp zc70)
      · refine pw_iconst (1) dX0_turnsAheadOf_73 (by decide) ?_
        refine pw_goto 93 dX0_turnsAheadOf_74 (by decide) ?_
        refine pw_zret dX0_turnsAheadOf_93 rfl ?_ ?_
        · rfl
        · rw [fd_of hR hm, fd_of hR hm2] at zc14
          rw [hd_of hR hm, hd_of hR hm2] at zc59
          rw [(hR.2 _ hm).1, (hR.2 _ hm2).1] at zc70
          refine ⟨rfl, ?_, rfl, rfl, rfl⟩
          rw [bI_t]
          unfold ahF; rw [if_pos zc14, if_pos (Classical.not_not.mp zc59)]; exact Nat.not_le.mp (fun z => zc70 ((nI_leI (by omega) (by omega)).mpr z))
  · refine t_iload3 dX0_turnsAheadOf_17 ?_
    refine t_iload4 dX0_turnsAheadOf_18 ?_
    refine pw_icmp_ge 27 dX0_turnsAheadOf_20 (by decide) (fun zc20 => ?_) (fun zc20 => ?_)
    · refine pw_iconst (0) dX0_turnsAheadOf_27 (by decide) ?_
      refine pw_zret dX0_turnsAheadOf_28 rfl ?_ ?_
      · rfl
      · rw [fd_of hR hm, fd_of hR hm2] at zc14
        rw [fd_of hR hm, fd_of hR hm2] at zc20
        refine ⟨rfl, ?_, rfl, rfl, rfl⟩
        rw [bI_f]
        unfold ahF; rw [if_neg zc14]; exact Int32.not_lt.mpr zc20
    · refine pw_iconst (1) dX0_turnsAheadOf_23 (by decide) ?_
      refine pw_goto 28 dX0_turnsAheadOf_24 (by decide) ?_
      refine pw_zret dX0_turnsAheadOf_28 rfl ?_ ?_
      · rfl
      · rw [fd_of hR hm, fd_of hR hm2] at zc14
        rw [fd_of hR hm, fd_of hR hm2] at zc20
        refine ⟨rfl, ?_, rfl, rfl, rfl⟩
        rw [bI_t]
        unfold ahF; rw [if_neg zc14]; exact Int32.not_le.mp zc20
set_option maxHeartbeats 4000000 in
set_option maxRecDepth 100000 in
theorem C_behind {l : Launch} (hlt : l.stackTraces = false) {im : TI} {rm : TP} {lm : TL} {c : Nat} {S : CS} (hC : isC rm c) (hR : CR c S im) {prev : Option Nat} (hp : ∀ q, prev = some q → q < 5) : Con l m_X0_millBehind 3 0 0 NN [pv (some c), pv (gm c prev)] im rm lm (QP (pv (gm c (bhN S prev 5 0 none))) im rm lm) noX := by
  have hkc := hC.1
  refine Con.ofN (k := 3) (L0 := [some (pv (some c)), some (pv (gm c prev)), none, none, none]) hlt (by decide +kernel) rfl rfl (by rw [en1 pv_cat, en1 pv_cat, en0]; exact Nat.le_of_ble_eq_true rfl) (by rw [en1 pv_cat, en1 pv_cat, en0]; rfl) ?_
  have loop : ∀ (n m : Nat) (b : Option Nat), n = 5 - m → (∀ q, b = some q → q < 5) → bhN S prev 5 0 none = bhN S prev n m b → PW l m_X0_millBehind 3 0 0 NN 7 [some (pv (some c)), some (pv (gm c prev)), some (pv (gm c b)), some (pv (mo c m)), none] [] im rm lm (QP (pv (gm c (bhN S prev 5 0 none))) im rm lm) noX := by
    intro n
    induction n using Nat.strongRecOn with
    | _ n ih =>
      intro m b hn hb hf
      refine t_aload3 dX0_millBehind_7 ?_
      refine pw_ifnull 67 dX0_millBehind_8 (by decide) (fun zc8 => ?_) (fun zy8 zc8 => ?_)
      · have zm5 := mo_none zc8
        refine t_aload2 dX0_millBehind_67 ?_
        refine pw_aret dX0_millBehind_68 rfl ?_
        exact ⟨rfl, by rw [hf, show n = 0 by omega]; rfl, rfl, rfl, rfl⟩
      · obtain ⟨zhm, rfl⟩ := mo_some zc8
        rw [mo_of zhm]
        have hkm := ck_of hC zhm
        refine t_aload0 dX0_millBehind_11 ?_
        refine t_aload3 dX0_millBehind_12 ?_
        refine g_callV1P (C_reason (l := l) hlt hC hR zhm) rfl ft0 rfl mc_X0_reasonToRest ml_X0_105 mi_X0_reasonToRest ms_X0_reasonToRest in_X0 (okc_X0_reasonToRest (by decide)) dX0_millBehind_13 (by assumption) (cat_le (Nat.le_of_ble_eq_true rfl)) ?_
        refine pw_if_ne 36 dX0_millBehind_16 (by decide) (fun zc16 => ?_) (fun zc16 => ?_)
        · refine pw_iconst (0) dX0_millBehind_36 (by decide) ?_
          refine t_istore4 dX0_millBehind_37 (by decide) okp_r ?_
          refine t_iload4 dX0_millBehind_39 ?_
          refine pw_if_eq 59 dX0_millBehind_41 (by decide) (fun _ => ?_) (fun h => absurd (by decide) h)
          refine t_aload3 dX0_millBehind_59 ?_
          refine g_getr ft2 fl_X0_61 (j := 1) (by decide) dX0_millBehind_60 (by assumption) (by first | assumption | exact hC.2.2.2 _ zhm) ?_
          refine t_astore3 dX0_millBehind_63 (by decide) okp_r ?_
          refine pw_goto 7 dX0_millBehind_64 (by decide) ?_
          have zm5 : m < 5 := zhm
          obtain ⟨n', rfl⟩ : ∃ n', n = n' + 1 := ⟨n - 1, by omega⟩
          refine PW.sub (s_e (s_e (s_e (s_e (s_n s_z))))) ?_
          exact ih n' (by omega) (m + 1) b (by omega) hb (by rw [hf, bhN, if_neg (fun z => zc16 z.1.1)])
        · refine t_aload1 dX0_millBehind_19 ?_
          refine pw_ifnull 32 dX0_millBehind_20 (by decide) (fun zc20 => ?_) (fun zy20 zc20 => ?_)
          · obtain rfl := gm_none zc20
            refine pw_iconst (1) dX0_millBehind_32 (by decide) ?_
            refine pw_goto 37 dX0_millBehind_33 (by decide) ?_
            refine t_istore4 dX0_millBehind_37 (by decide) okp_r ?_
            refine t_iload4 dX0_millBehind_39 ?_
            refine pw_if_eq 59 dX0_millBehind_41 (by decide) (fun h => absurd h (by decide)) (fun _ => ?_)
            refine t_aload2 dX0_millBehind_44 ?_
            refine pw_ifnull 57 dX0_millBehind_45 (by decide) (fun zc45 => ?_) (fun zy45 zc45 => ?_)
            · obtain rfl := gm_none zc45
              refine t_aload3 dX0_millBehind_57 ?_
              refine t_astore2 dX0_millBehind_58 (by decide) okp_r ?_
              refine t_aload3 dX0_millBehind_59 ?_
              refine g_getr ft2 fl_X0_61 (j := 1) (by decide) dX0_millBehind_60 (by assumption) (by first | assumption | exact hC.2.2.2 _ zhm) ?_
              refine t_astore3 dX0_millBehind_63 (by decide) okp_r ?_
              refine pw_goto 7 dX0_millBehind_64 (by decide) ?_
              have zm5 : m < 5 := zhm
              obtain ⟨n', rfl⟩ : ∃ n', n = n' + 1 := ⟨n - 1, by omega⟩
              refine PW.sub (s_e (s_e (s_e (s_e (s_n s_z))))) ?_
              exact ih n' (by omega) (m + 1) (some m) (by omega) (fun q hq => by cases hq; omega) (by rw [hf, bhN, if_pos ⟨⟨Classical.not_not.mp zc16, fun q hq => by cases hq⟩, fun q hq => by cases hq⟩])
            · obtain ⟨zq, rfl, rfl⟩ := gm_some zc45
              rw [gm_s]
              have zhq := hb zq rfl
              refine t_aload0 dX0_millBehind_48 ?_
              refine t_aload3 dX0_millBehind_49 ?_
              refine t_aload2 dX0_millBehind_50 ?_
              refine g_callV2P (C_ahead (l := l) hlt hC hR zhm zhq) rfl ft0 rfl mc_X0_turnsAheadOf ml_X0_109 mi_X0_turnsAheadOf ms_X0_turnsAheadOf in_X0 (okc_X0_turnsAheadOf (by decide)) dX0_millBehind_51 (by assumption) (cat_le (Nat.le_of_ble_eq_true rfl)) ?_
              refine pw_if_eq 59 dX0_millBehind_54 (by decide) (fun zc54 => ?_) (fun zc54 => ?_)
              · refine t_aload3 dX0_millBehind_59 ?_
                refine g_getr ft2 fl_X0_61 (j := 1) (by decide) dX0_millBehind_60 (by assumption) (by first | assumption | exact hC.2.2.2 _ zhm) ?_
                refine t_astore3 dX0_millBehind_63 (by decide) okp_r ?_
                refine pw_goto 7 dX0_millBehind_64 (by decide) ?_
                have zm5 : m < 5 := zhm
                obtain ⟨n', rfl⟩ : ∃ n', n = n' + 1 := ⟨n - 1, by omega⟩
                refine PW.sub (s_e (s_e (s_e (s_e (s_n s_z))))) ?_
                exact ih n' (by omega) (m + 1) (some zq) (by omega) (fun q hq => by cases hq; omega) (by rw [hf, bhN, if_neg (fun z => (bI_0.mp zc54) (z.2 _ rfl))])
              · refine t_aload3 dX0_millBehind_57 ?_
                refine t_astore2 dX0_millBehind_58 (by decide) okp_r ?_
                refine t_aload3 dX0_millBehind_59 ?_
                refine g_getr ft2 fl_X0_61 (j := 1) (by decide) dX0_millBehind_60 (by assumption) (by first | assumption | exact hC.2.2.2 _ zhm) ?_
                refine t_astore3 dX0_millBehind_63 (by decide) okp_r ?_
                refine pw_goto 7 dX0_millBehind_64 (by decide) ?_
                have zm5 : m < 5 := zhm
                obtain ⟨n', rfl⟩ : ∃ n', n = n' + 1 := ⟨n - 1, by omega⟩
                refine PW.sub (s_e (s_e (s_e (s_e (s_n s_z))))) ?_
                exact ih n' (by omega) (m + 1) (some m) (by omega) (fun q hq => by cases hq; omega) (by rw [hf, bhN, if_pos ⟨⟨Classical.not_not.mp zc16, fun q hq => by cases hq⟩, fun q hq => by cases hq; exact Classical.not_not.mp (fun z => zc54 (bI_0.mpr z))⟩])
          · obtain ⟨zp, rfl, rfl⟩ := gm_some zc20
            rw [gm_s]
            have zhp := hp zp rfl
            refine t_aload0 dX0_millBehind_23 ?_
            refine t_aload1 dX0_millBehind_24 ?_
            refine t_aload3 dX0_millBehind_25 ?_
            refine g_callV2P (C_ahead (l := l) hlt hC hR zhp zhm) rfl ft0 rfl mc_X0_turnsAheadOf ml_X0_109 mi_X0_turnsAheadOf ms_X0_turnsAheadOf in_X0 (okc_X0_turnsAheadOf (by decide)) dX0_millBehind_26 (by assumption) (cat_le (Nat.le_of_ble_eq_true rfl)) ?_
            refine pw_if_eq 36 dX0_millBehind_29 (by decide) (fun zc29 => ?_) (fun zc29 => ?_)
            · refine pw_iconst (0) dX0_millBehind_36 (by decide) ?_
              refine t_istore4 dX0_millBehind_37 (by decide) okp_r ?_
              refine t_iload4 dX0_millBehind_39 ?_
              refine pw_if_eq 59 dX0_millBehind_41 (by decide) (fun _ => ?_) (fun h => absurd (by decide) h)
              refine t_aload3 dX0_millBehind_59 ?_
              refine g_getr ft2 fl_X0_61 (j := 1) (by decide) dX0_millBehind_60 (by assumption) (by first | assumption | exact hC.2.2.2 _ zhm) ?_
              refine t_astore3 dX0_millBehind_63 (by decide) okp_r ?_
              refine pw_goto 7 dX0_millBehind_64 (by decide) ?_
              have zm5 : m < 5 := zhm
              obtain ⟨n', rfl⟩ : ∃ n', n = n' + 1 := ⟨n - 1, by omega⟩
              refine PW.sub (s_e (s_e (s_e (s_e (s_n s_z))))) ?_
              exact ih n' (by omega) (m + 1) b (by omega) hb (by rw [hf, bhN, if_neg (fun z => (bI_0.mp zc29) (z.1.2 _ rfl))])
            · refine pw_iconst (1) dX0_millBehind_32 (by decide) ?_
              refine pw_goto 37 dX0_millBehind_33 (by decide) ?_
              refine t_istore4 dX0_millBehind_37 (by decide) okp_r ?_
              refine t_iload4 dX0_millBehind_39 ?_
              refine pw_if_eq 59 dX0_millBehind_41 (by decide) (fun h => absurd h (by decide)) (fun _ => ?_)
              refine t_aload2 dX0_millBehind_44 ?_
              refine pw_ifnull 57 dX0_millBehind_45 (by decide) (fun zc45 => ?_) (fun zy45 zc45 => ?_)
              · obtain rfl := gm_none zc45
                refine t_aload3 dX0_millBehind_57 ?_
                refine t_astore2 dX0_millBehind_58 (by decide) okp_r ?_
                refine t_aload3 dX0_millBehind_59 ?_
                refine g_getr ft2 fl_X0_61 (j := 1) (by decide) dX0_millBehind_60 (by assumption) (by first | assumption | exact hC.2.2.2 _ zhm) ?_
                refine t_astore3 dX0_millBehind_63 (by decide) okp_r ?_
                refine pw_goto 7 dX0_millBehind_64 (by decide) ?_
                have zm5 : m < 5 := zhm
                obtain ⟨n', rfl⟩ : ∃ n', n = n' + 1 := ⟨n - 1, by omega⟩
                refine PW.sub (s_e (s_e (s_e (s_e (s_n s_z))))) ?_
                exact ih n' (by omega) (m + 1) (some m) (by omega) (fun q hq => by cases hq; omega) (by rw [hf, bhN, if_pos ⟨⟨Classical.not_not.mp zc16, fun q hq => by cases hq; exact Classical.not_not.mp (fun z => zc29 (bI_0.mpr z))⟩, fun q hq => by cases hq⟩])
              · obtain ⟨zq, rfl, rfl⟩ := gm_some zc45
                rw [gm_s]
                have zhq := hb zq rfl
                refine t_aload0 dX0_millBehind_48 ?_
                refine t_aload3 dX0_millBehind_49 ?_
                refine t_aload2 dX0_millBehind_50 ?_
                refine g_callV2P (C_ahead (l := l) hlt hC hR zhm zhq) rfl ft0 rfl mc_X0_turnsAheadOf ml_X0_109 mi_X0_turnsAheadOf ms_X0_turnsAheadOf in_X0 (okc_X0_turnsAheadOf (by decide)) dX0_millBehind_51 (by assumption) (cat_le (Nat.le_of_ble_eq_true rfl)) ?_
                refine pw_if_eq 59 dX0_millBehind_54 (by decide) (fun zc54 => ?_) (fun zc54 => ?_)
                · refine t_aload3 dX0_millBehind_59 ?_
                  refine g_getr ft2 fl_X0_61 (j := 1) (by decide) dX0_millBehind_60 (by assumption) (by first | assumption | exact hC.2.2.2 _ zhm) ?_
                  refine t_astore3 dX0_millBehind_63 (by decide) okp_r ?_
                  refine pw_goto 7 dX0_millBehind_64 (by decide) ?_
                  have zm5 : m < 5 := zhm
                  obtain ⟨n', rfl⟩ : ∃ n', n = n' + 1 := ⟨n - 1, by omega⟩
                  refine PW.sub (s_e (s_e (s_e (s_e (s_n s_z))))) ?_
                  exact ih n' (by omega) (m + 1) (some zq) (by omega) (fun q hq => by cases hq; omega) (by rw [hf, bhN, if_neg (fun z => (bI_0.mp zc54) (z.2 _ rfl))])
                · refine t_aload3 dX0_millBehind_57 ?_
                  refine t_astore2 dX0_millBehind_58 (by decide) okp_r ?_
                  refine t_aload3 dX0_millBehind_59 ?_
                  refine g_getr ft2 fl_X0_61 (j := 1) (by decide) dX0_millBehind_60 (by assumption) (by first | assumption | exact hC.2.2.2 _ zhm) ?_
                  refine t_astore3 dX0_millBehind_63 (by decide) okp_r ?_
                  refine pw_goto 7 dX0_millBehind_64 (by decide) ?_
                  have zm5 : m < 5 := zhm
                  obtain ⟨n', rfl⟩ : ∃ n', n = n' + 1 := ⟨n - 1, by omega⟩
                  refine PW.sub (s_e (s_e (s_e (s_e (s_n s_z))))) ?_
                  exact ih n' (by omega) (m + 1) (some m) (by omega) (fun q hq => by cases hq; omega) (by rw [hf, bhN, if_pos ⟨⟨Classical.not_not.mp zc16, fun q hq => by cases hq; exact Classical.not_not.mp (fun z => zc29 (bI_0.mpr z))⟩, fun q hq => by cases hq; exact Classical.not_not.mp (fun z => zc54 (bI_0.mpr z))⟩])
  refine g_null dX0_millBehind_0 ?_
  refine t_astore2 dX0_millBehind_1 (by decide) okp_r ?_
  refine t_aload0 dX0_millBehind_2 ?_
  refine g_getr ft0 fl_X0_53 (j := 0) (by decide) dX0_millBehind_3 (by assumption) (hC.2.1) ?_
  refine t_astore3 dX0_millBehind_6 (by decide) okp_r ?_
  exact loop 5 0 none rfl (fun q hq => by cases hq) rfl

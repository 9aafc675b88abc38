/-! TideMills$Mill -/
theorem i32_nle {x : Int32} (h : ¬ x ≤ 0) : 0 < x := Int32.not_le.mp h
theorem i32_le {x : Int32} (h : x ≤ 0) : ¬ 0 < x := Int32.not_lt.mpr h
def isM (rm : TP) (a : Nat) : Prop := kd a = 2 ∧ (kd (a + 1) = 6 ∧ kd (a + 2) = 6 ∧ kd (a + 3) = 6 ∧ kd (a + 4) = 6) ∧ (al (a + 1) = 6 ∧ al (a + 2) = 6 ∧ al (a + 3) = 6 ∧ al (a + 4) = 6) ∧ rm a 12 = some (a + 1) ∧ rm a 13 = some (a + 2) ∧ rm a 14 = some (a + 3) ∧ rm a 15 = some (a + 4)
/-- the head of a mill's row -/
def hdF (r : Nat → Int32) (t : Int32) : Int32 := (if 0 < r 2 then r 3 * 100 / r 2 else 0) - t
def toF (r : Nat → Int32) (t : Int32) : Int32 := if 0 < r 8 then t * r 7 / r 8 else 0

set_option maxHeartbeats 4000000 in
set_option maxRecDepth 100000 in
theorem C_headAt {l : Launch} (hlt : l.stackTraces = false) {im : TI} {rm : TP} {lm : TL} {a : Nat} {t : Int32} (hk : kd a = 2) : Con l m_X2_headAt 0 0 0 NN [pv (some a), .int (t)] im rm lm (QP (.int (hdF (im a) t)) im rm lm) noX := by
  refine Con.ofN (k := 1) (L0 := [some (pv (some a)), some (.int (t)), none]) hlt (by decide +kernel) rfl rfl (by rw [en1 pv_cat, en1 rfl, en0]; exact Nat.le_of_ble_eq_true rfl) (by rw [en1 pv_cat, en1 rfl, en0]; rfl) ?_
  refine t_aload0 dX2_headAt_0 ?_
  refine g_geti ft2 fl_X2_9 (j := 2) (by decide) dX2_headAt_1 (by assumption) ?_
  refine pw_if_le 22 dX2_headAt_4 (by decide) (fun zc4 => ?_) (fun zc4 => ?_)
  · refine pw_iconst (0) dX2_headAt_22 (by decide) ?_
    refine t_istore2 dX2_headAt_23 (by decide) okp_i ?_
    refine t_iload2 dX2_headAt_24 ?_
    refine t_iload1 dX2_headAt_25 ?_
    refine pw_isub dX2_headAt_26 ?_
    refine pw_iret dX2_headAt_27 rfl ?_
    exact ⟨rfl, by simp [hdF, i32_le zc4], rfl, rfl, rfl⟩
  · refine t_aload0 dX2_headAt_7 ?_
    refine g_geti ft2 fl_X2_15 (j := 3) (by decide) dX2_headAt_8 (by assumption) ?_
    refine pw_bipush (100) dX2_headAt_11 (by decide) ?_
    refine pw_imul dX2_headAt_13 ?_
    refine t_aload0 dX2_headAt_14 ?_
    refine g_geti ft2 fl_X2_9 (j := 2) (by decide) dX2_headAt_15 (by assumption) ?_
    refine pw_idiv dX2_headAt_18 (fun h => zc4 (by rw [h]; decide)) ?_
    refine pw_goto 23 dX2_headAt_19 (by decide) ?_
    refine t_istore2 dX2_headAt_23 (by decide) okp_i ?_
    refine t_iload2 dX2_headAt_24 ?_
    refine t_iload1 dX2_headAt_25 ?_
    refine pw_isub dX2_headAt_26 ?_
    refine pw_iret dX2_headAt_27 rfl ?_
    exact ⟨rfl, by simp [hdF, i32_nle zc4], rfl, rfl, rfl⟩
set_option maxHeartbeats 4000000 in
set_option maxRecDepth 100000 in
theorem C_turnsOfStone {l : Launch} (hlt : l.stackTraces = false) {im : TI} {rm : TP} {lm : TL} {a : Nat} {t : Int32} (hk : kd a = 2) : Con l m_X2_turnsOfStone 0 0 0 NN [pv (some a), .int (t)] im rm lm (QP (.int (toF (im a) t)) im rm lm) noX := by
  refine Con.ofN (k := 0) (L0 := [some (pv (some a)), some (.int (t))]) hlt (by decide +kernel) rfl rfl (by rw [en1 pv_cat, en1 rfl, en0]; exact Nat.le_of_ble_eq_true rfl) (by rw [en1 pv_cat, en1 rfl, en0]; rfl) ?_
  refine t_aload0 dX2_turnsOfStone_0 ?_
  refine g_geti ft2 fl_X2_30 (j := 8) (by decide) dX2_turnsOfStone_1 (by assumption) ?_
  refine pw_if_le 21 dX2_turnsOfStone_4 (by decide) (fun zc4 => ?_) (fun zc4 => ?_)
  · refine pw_iconst (0) dX2_turnsOfStone_21 (by decide) ?_
    refine pw_iret dX2_turnsOfStone_22 rfl ?_
    exact ⟨rfl, by simp [toF, i32_le zc4], rfl, rfl, rfl⟩
  · refine t_iload1 dX2_turnsOfStone_7 ?_
    refine t_aload0 dX2_turnsOfStone_8 ?_
    refine g_geti ft2 fl_X2_27 (j := 7) (by decide) dX2_turnsOfStone_9 (by assumption) ?_
    refine pw_imul dX2_turnsOfStone_12 ?_
    refine t_aload0 dX2_turnsOfStone_13 ?_
    refine g_geti ft2 fl_X2_30 (j := 8) (by decide) dX2_turnsOfStone_14 (by assumption) ?_
    refine pw_idiv dX2_turnsOfStone_17 (fun h => zc4 (by rw [h]; decide)) ?_
    refine pw_goto 22 dX2_turnsOfStone_18 (by decide) ?_
    refine pw_iret dX2_turnsOfStone_22 rfl ?_
    exact ⟨rfl, by simp [toF, i32_nle zc4], rfl, rfl, rfl⟩
set_option maxHeartbeats 4000000 in
set_option maxRecDepth 100000 in
theorem C_isPlace {l : Launch} (hlt : l.stackTraces = false) {im : TI} {rm : TP} {lm : TL} {a : Nat} {p : Int32} (hk : kd a = 2) : Con l m_X2_isPlace 0 0 0 NN [pv (some a), .int (p)] im rm lm (QP (.int (if ¬ p < 0 ∧ p < im a 11 ∧ p < 6 then 1 else 0)) im rm lm) noX := by
  refine Con.ofN (k := 0) (L0 := [some (pv (some a)), some (.int (p))]) hlt (by decide +kernel) rfl rfl (by rw [en1 pv_cat, en1 rfl, en0]; exact Nat.le_of_ble_eq_true rfl) (by rw [en1 pv_cat, en1 rfl, en0]; rfl) ?_
  refine t_iload1 dX2_isPlace_0 ?_
  refine pw_if_lt 22 dX2_isPlace_1 (by decide) (fun zc1 => ?_) (fun zc1 => ?_)
  · refine pw_iconst (0) dX2_isPlace_22 (by decide) ?_
    refine pw_zret dX2_isPlace_23 rfl ?_ ?_
    · first | rfl | exact bI_n
    · exact ⟨rfl, by rw [if_neg]; exact fun h => absurd zc1 h.1, rfl, rfl, rfl⟩
  · refine t_iload1 dX2_isPlace_4 ?_
    refine t_aload0 dX2_isPlace_5 ?_
    refine g_geti ft2 fl_X2_39 (j := 11) (by decide) dX2_isPlace_6 (by assumption) ?_
    refine pw_icmp_ge 22 dX2_isPlace_9 (by decide) (fun zc9 => ?_) (fun zc9 => ?_)
    · refine pw_iconst (0) dX2_isPlace_22 (by decide) ?_
      refine pw_zret dX2_isPlace_23 rfl ?_ ?_
      · first | rfl | exact bI_n
      · exact ⟨rfl, by first | (rw [if_neg]; intro h; first | exact h.1 zc1 | exact absurd h.2.1 (Int32.not_lt.mpr zc9) | exact absurd h.2.2 (Int32.not_lt.mpr zc15)) | (rw [if_pos]; exact ⟨zc1, Int32.not_le.mp zc9, Int32.not_le.mp zc15⟩), rfl, rfl, rfl⟩
    · refine t_iload1 dX2_isPlace_12 ?_
      refine pw_bipush (6) dX2_isPlace_13 (by decide) ?_
      refine pw_icmp_ge 22 dX2_isPlace_15 (by decide) (fun zc15 => ?_) (fun zc15 => ?_)
      · refine pw_iconst (0) dX2_isPlace_22 (by decide) ?_
        refine pw_zret dX2_isPlace_23 rfl ?_ ?_
        · first | rfl | exact bI_n
        · exact ⟨rfl, by first | (rw [if_neg]; intro h; first | exact h.1 zc1 | exact absurd h.2.1 (Int32.not_lt.mpr zc9) | exact absurd h.2.2 (Int32.not_lt.mpr zc15)) | (rw [if_pos]; exact ⟨zc1, Int32.not_le.mp zc9, Int32.not_le.mp zc15⟩), rfl, rfl, rfl⟩
      · refine pw_iconst (1) dX2_isPlace_18 (by decide) ?_
        refine pw_goto 23 dX2_isPlace_19 (by decide) ?_
        refine pw_zret dX2_isPlace_23 rfl ?_ ?_
        · first | rfl | exact bI_n
        · exact ⟨rfl, by first | (rw [if_neg]; intro h; first | exact h.1 zc1 | exact absurd h.2.1 (Int32.not_lt.mpr zc9) | exact absurd h.2.2 (Int32.not_lt.mpr zc15)) | (rw [if_pos]; exact ⟨zc1, Int32.not_le.mp zc9, Int32.not_le.mp zc15⟩), rfl, rfl, rfl⟩
set_option maxHeartbeats 4000000 in
set_option maxRecDepth 100000 in
theorem C_numberAt {l : Launch} (hlt : l.stackTraces = false) {im : TI} {rm : TP} {lm : TL} {a : Nat} {p : Int32} (ha : isM rm a) : Con l m_X2_numberAt 1 0 0 NN [pv (some a), .int (p)] im rm lm (QP (.int (if ¬ p < 0 ∧ p < im a 11 ∧ p < 6 then im (a + 1) p.toNatClampNeg else -1)) im rm lm) noX := by
  obtain ⟨hk, ⟨hk1, hk2, hk3, hk4⟩, ⟨ha1, ha2, ha3, ha4⟩, hr1, hr2, hr3, hr4⟩ := ha
  refine Con.ofN (k := 0) (L0 := [some (pv (some a)), some (.int (p))]) hlt (by decide +kernel) rfl rfl (by rw [en1 pv_cat, en1 rfl, en0]; exact Nat.le_of_ble_eq_true rfl) (by rw [en1 pv_cat, en1 rfl, en0]; rfl) ?_
  refine t_aload0 dX2_numberAt_0 ?_
  refine t_iload1 dX2_numberAt_1 ?_
  refine g_callV1P (C_isPlace (l := l) hlt hk) rfl ft2 rfl mc_X2_isPlace ml_X2_68 mi_X2_isPlace ms_X2_isPlace in_X2 (okc_X2_isPlace (by decide)) dX2_numberAt_2 (by assumption) (cat_le (Nat.le_of_ble_eq_true rfl)) ?_
  refine pw_if_eq 17 dX2_numberAt_5 (by decide) (fun zc5 => ?_) (fun zc5 => ?_)
  · refine pw_iconst (-1) dX2_numberAt_17 (by decide) ?_
    refine pw_iret dX2_numberAt_18 rfl ?_
    exact ⟨rfl, by rw [if_neg (by split at zc5 <;> simp_all)], rfl, rfl, rfl⟩
  · refine t_aload0 dX2_numberAt_8 ?_
    refine g_getr ft2 fl_X2_42 (j := 12) (by decide) dX2_numberAt_9 (by assumption) (by assumption) ?_
    refine t_iload1 dX2_numberAt_12 ?_
    refine g_iald dX2_numberAt_13 (by assumption) (by rw [ha1]; split at zc5 <;> first | (rename_i hh; exact vin hh.1 hh.2.2 rfl) | simp_all) ?_
    refine pw_goto 18 dX2_numberAt_14 (by decide) ?_
    refine pw_iret dX2_numberAt_18 rfl ?_
    exact ⟨rfl, by rw [if_pos (by split at zc5 <;> simp_all)], rfl, rfl, rfl⟩
set_option maxHeartbeats 4000000 in
set_option maxRecDepth 100000 in
theorem C_hardnessAt {l : Launch} (hlt : l.stackTraces = false) {im : TI} {rm : TP} {lm : TL} {a : Nat} {p : Int32} (ha : isM rm a) : Con l m_X2_hardnessAt 1 0 0 NN [pv (some a), .int (p)] im rm lm (QP (.int (if ¬ p < 0 ∧ p < im a 11 ∧ p < 6 then im (a + 2) p.toNatClampNeg else -1)) im rm lm) noX := by
  obtain ⟨hk, ⟨hk1, hk2, hk3, hk4⟩, ⟨ha1, ha2, ha3, ha4⟩, hr1, hr2, hr3, hr4⟩ := ha
  refine Con.ofN (k := 0) (L0 := [some (pv (some a)), some (.int (p))]) hlt (by decide +kernel) rfl rfl (by rw [en1 pv_cat, en1 rfl, en0]; exact Nat.le_of_ble_eq_true rfl) (by rw [en1 pv_cat, en1 rfl, en0]; rfl) ?_
  refine t_aload0 dX2_hardnessAt_0 ?_
  refine t_iload1 dX2_hardnessAt_1 ?_
  refine g_callV1P (C_isPlace (l := l) hlt hk) rfl ft2 rfl mc_X2_isPlace ml_X2_68 mi_X2_isPlace ms_X2_isPlace in_X2 (okc_X2_isPlace (by decide)) dX2_hardnessAt_2 (by assumption) (cat_le (Nat.le_of_ble_eq_true rfl)) ?_
  refine pw_if_eq 17 dX2_hardnessAt_5 (by decide) (fun zc5 => ?_) (fun zc5 => ?_)
  · refine pw_iconst (-1) dX2_hardnessAt_17 (by decide) ?_
    refine pw_iret dX2_hardnessAt_18 rfl ?_
    exact ⟨rfl, by rw [if_neg (by split at zc5 <;> simp_all)], rfl, rfl, rfl⟩
  · refine t_aload0 dX2_hardnessAt_8 ?_
    refine g_getr ft2 fl_X2_46 (j := 13) (by decide) dX2_hardnessAt_9 (by assumption) (by assumption) ?_
    refine t_iload1 dX2_hardnessAt_12 ?_
    refine g_iald dX2_hardnessAt_13 (by assumption) (by rw [ha2]; split at zc5 <;> first | (rename_i hh; exact vin hh.1 hh.2.2 rfl) | simp_all) ?_
    refine pw_goto 18 dX2_hardnessAt_14 (by decide) ?_
    refine pw_iret dX2_hardnessAt_18 rfl ?_
    exact ⟨rfl, by rw [if_pos (by split at zc5 <;> simp_all)], rfl, rfl, rfl⟩
set_option maxHeartbeats 4000000 in
set_option maxRecDepth 100000 in
theorem C_restAt {l : Launch} (hlt : l.stackTraces = false) {im : TI} {rm : TP} {lm : TL} {a : Nat} {p : Int32} (ha : isM rm a) : Con l m_X2_restAt 1 0 0 NN [pv (some a), .int (p)] im rm lm (QP (.int (if ¬ p < 0 ∧ p < im a 11 ∧ p < 6 then im (a + 3) p.toNatClampNeg else -1)) im rm lm) noX := by
  obtain ⟨hk, ⟨hk1, hk2, hk3, hk4⟩, ⟨ha1, ha2, ha3, ha4⟩, hr1, hr2, hr3, hr4⟩ := ha
  refine Con.ofN (k := 0) (L0 := [some (pv (some a)), some (.int (p))]) hlt (by decide +kernel) rfl rfl (by rw [en1 pv_cat, en1 rfl, en0]; exact Nat.le_of_ble_eq_true rfl) (by rw [en1 pv_cat, en1 rfl, en0]; rfl) ?_
  refine t_aload0 dX2_restAt_0 ?_
  refine t_iload1 dX2_restAt_1 ?_
  refine g_callV1P (C_isPlace (l := l) hlt hk) rfl ft2 rfl mc_X2_isPlace ml_X2_68 mi_X2_isPlace ms_X2_isPlace in_X2 (okc_X2_isPlace (by decide)) dX2_restAt_2 (by assumption) (cat_le (Nat.le_of_ble_eq_true rfl)) ?_
  refine pw_if_eq 17 dX2_restAt_5 (by decide) (fun zc5 => ?_) (fun zc5 => ?_)
  · refine pw_iconst (-1) dX2_restAt_17 (by decide) ?_
    refine pw_iret dX2_restAt_18 rfl ?_
    exact ⟨rfl, by rw [if_neg (by split at zc5 <;> simp_all)], rfl, rfl, rfl⟩
  · refine t_aload0 dX2_restAt_8 ?_
    refine g_getr ft2 fl_X2_49 (j := 14) (by decide) dX2_restAt_9 (by assumption) (by assumption) ?_
    refine t_iload1 dX2_restAt_12 ?_
    refine g_iald dX2_restAt_13 (by assumption) (by rw [ha3]; split at zc5 <;> first | (rename_i hh; exact vin hh.1 hh.2.2 rfl) | simp_all) ?_
    refine pw_goto 18 dX2_restAt_14 (by decide) ?_
    refine pw_iret dX2_restAt_18 rfl ?_
    exact ⟨rfl, by rw [if_pos (by split at zc5 <;> simp_all)], rfl, rfl, rfl⟩
set_option maxHeartbeats 4000000 in
set_option maxRecDepth 100000 in
theorem C_dueAt {l : Launch} (hlt : l.stackTraces = false) {im : TI} {rm : TP} {lm : TL} {a : Nat} {p : Int32} (ha : isM rm a) : Con l m_X2_dueAt 1 0 0 NN [pv (some a), .int (p)] im rm lm (QP (.int (if ¬ p < 0 ∧ p < im a 11 ∧ p < 6 then im (a + 4) p.toNatClampNeg else -1)) im rm lm) noX := by
  obtain ⟨hk, ⟨hk1, hk2, hk3, hk4⟩, ⟨ha1, ha2, ha3, ha4⟩, hr1, hr2, hr3, hr4⟩ := ha
  refine Con.ofN (k := 0) (L0 := [some (pv (some a)), some (.int (p))]) hlt (by decide +kernel) rfl rfl (by rw [en1 pv_cat, en1 rfl, en0]; exact Nat.le_of_ble_eq_true rfl) (by rw [en1 pv_cat, en1 rfl, en0]; rfl) ?_
  refine t_aload0 dX2_dueAt_0 ?_
  refine t_iload1 dX2_dueAt_1 ?_
  refine g_callV1P (C_isPlace (l := l) hlt hk) rfl ft2 rfl mc_X2_isPlace ml_X2_68 mi_X2_isPlace ms_X2_isPlace in_X2 (okc_X2_isPlace (by decide)) dX2_dueAt_2 (by assumption) (cat_le (Nat.le_of_ble_eq_true rfl)) ?_
  refine pw_if_eq 17 dX2_dueAt_5 (by decide) (fun zc5 => ?_) (fun zc5 => ?_)
  · refine pw_iconst (-1) dX2_dueAt_17 (by decide) ?_
    refine pw_iret dX2_dueAt_18 rfl ?_
    exact ⟨rfl, by rw [if_neg (by split at zc5 <;> simp_all)], rfl, rfl, rfl⟩
  · refine t_aload0 dX2_dueAt_8 ?_
    refine g_getr ft2 fl_X2_52 (j := 15) (by decide) dX2_dueAt_9 (by assumption) (by assumption) ?_
    refine t_iload1 dX2_dueAt_12 ?_
    refine g_iald dX2_dueAt_13 (by assumption) (by rw [ha4]; split at zc5 <;> first | (rename_i hh; exact vin hh.1 hh.2.2 rfl) | simp_all) ?_
    refine pw_goto 18 dX2_dueAt_14 (by decide) ?_
    refine pw_iret dX2_dueAt_18 rfl ?_
    exact ⟨rfl, by rw [if_pos (by split at zc5 <;> simp_all)], rfl, rfl, rfl⟩
set_option maxHeartbeats 4000000 in
set_option maxRecDepth 100000 in
theorem C_firstDue {l : Launch} (hlt : l.stackTraces = false) {im : TI} {rm : TP} {lm : TL} {a : Nat} (ha : isM rm a) : Con l m_X2_firstDue 0 0 0 NN [pv (some a)] im rm lm (QP (.int (if 0 < im a 11 then im (a + 4) 0 else -1)) im rm lm) noX := by
  obtain ⟨hk, ⟨hk1, hk2, hk3, hk4⟩, ⟨ha1, ha2, ha3, ha4⟩, hr1, hr2, hr3, hr4⟩ := ha
  refine Con.ofN (k := 0) (L0 := [some (pv (some a))]) hlt (by decide +kernel) rfl rfl (by rw [en1 pv_cat, en0]; exact Nat.le_of_ble_eq_true rfl) (by rw [en1 pv_cat, en0]; rfl) ?_
  refine t_aload0 dX2_firstDue_0 ?_
  refine g_geti ft2 fl_X2_39 (j := 11) (by decide) dX2_firstDue_1 (by assumption) ?_
  refine pw_if_le 16 dX2_firstDue_4 (by decide) (fun zc4 => ?_) (fun zc4 => ?_)
  · refine pw_iconst (-1) dX2_firstDue_16 (by decide) ?_
    refine pw_iret dX2_firstDue_17 rfl ?_
    exact ⟨rfl, by simp [i32_le zc4], rfl, rfl, rfl⟩
  · refine t_aload0 dX2_firstDue_7 ?_
    refine g_getr ft2 fl_X2_52 (j := 15) (by decide) dX2_firstDue_8 (by assumption) (by assumption) ?_
    refine pw_iconst (0) dX2_firstDue_11 (by decide) ?_
    refine g_iald dX2_firstDue_12 (by assumption) (by rw [ha4]; exact vp_in_nI (n := 0) (by decide) (by decide)) ?_
    refine pw_goto 17 dX2_firstDue_13 (by decide) ?_
    refine pw_iret dX2_firstDue_17 rfl ?_
    exact ⟨rfl, by simp [i32_nle zc4], rfl, rfl, rfl⟩

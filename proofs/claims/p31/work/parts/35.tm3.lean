/-! TideMills: numbers that are told -/
/-- something of a mill -/
def mlS (S : CS) (m v : Nat) : Int32 := if v < 7 then S.2.1 m v else if v = 7 then S.2.1 m 9 else if v = 8 then hd S m + 1000 else if v = 9 then S.2.1 m 7 else S.2.1 m 8
/-- a number of all -/
def alS (S : CS) (n : Nat) (v : Nat) : Int32 := if v = 0 then S.1 0 else if v = 1 then S.1 1 - 1 else if v = 2 then S.1 2 else if v = 3 then S.1 3 else if v = 4 then S.1 4 else if v = 5 then smN (fun m => S.2.1 m 1) 5 0 0 else if v = 6 then S.1 5 else if v = 7 then smN (fun m => S.2.1 m 9) 5 0 0 else if v = 8 then S.1 6 else if v = 9 then S.1 7 else if v = 10 then S.1 8 else if v = 11 then S.1 9 else if v = 12 then S.1 10 else if v = 13 then S.1 11 else nI n
theorem le_11 {v : Nat} : v ≤ 10 ↔ v = 0 ∨ v = 1 ∨ v = 2 ∨ v = 3 ∨ v = 4 ∨ v = 5 ∨ v = 6 ∨ v = 7 ∨ v = 8 ∨ v = 9 ∨ v = 10 := by omega
theorem le_15 {v : Nat} : v ≤ 14 ↔ v = 0 ∨ v = 1 ∨ v = 2 ∨ v = 3 ∨ v = 4 ∨ v = 5 ∨ v = 6 ∨ v = 7 ∨ v = 8 ∨ v = 9 ∨ v = 10 ∨ v = 11 ∨ v = 12 ∨ v = 13 ∨ v = 14 := by omega
theorem le_5 {v : Nat} : v ≤ 4 ↔ v = 0 ∨ v = 1 ∨ v = 2 ∨ v = 3 ∨ v = 4 := by omega
set_option maxHeartbeats 4000000 in
set_option maxRecDepth 100000 in
theorem C_numMill_0 {l : Launch} (hlt : l.stackTraces = false) {im : TI} {rm : TP} {lm : TL} {S : CS} (hT : RT rm) (hC : RC rm) (hR : CR 1 S im) {m : Nat} (hm : m < 5) : Con l m_X4_numberOfMill 3 0 0 NN [pv (some 0), pv (some (mA 1 m)), .int (0)] im rm lm (QP (.int (mlS S m 0)) im rm lm) noX := by
  have hk0 := kdT
  have hC1 := c1 hC
  have hk1 := hC1.1
  obtain ⟨t0, t1, t2, t4, t5, t7, t8⟩ := id hT
  have hkm := ck_of hC1 hm
  have hM := (c1 hC).2.2.1 m hm
  refine Con.ofN (k := 0) (L0 := [some (pv (some 0)), some (pv (some (mA 1 m))), some (.int (0))]) hlt (by decide +kernel) rfl rfl (by rw [en1 pv_cat, en1 pv_cat, en1 rfl, en0]; exact Nat.le_of_ble_eq_true rfl) (by rw [en1 pv_cat, en1 pv_cat, en1 rfl, en0]; rfl) ?_
  refine t_iload2 dX4_numberOfMill_0 ?_
  refine pw_table (off := 55) 56 dX4_numberOfMill_1 (by decide) (by decide) (by decide) (by decide) ?_
  refine t_aload1 dX4_numberOfMill_56 ?_
  refine g_geti ft2 fl_X4_69 (j := 2) (by decide) dX4_numberOfMill_57 (by assumption) ?_
  refine pw_iret dX4_numberOfMill_60 rfl ?_
  exact ⟨rfl, by rw [(hR.2 m hm).2.1 0 (by decide)]; rfl, rfl, rfl, rfl⟩
set_option maxHeartbeats 4000000 in
set_option maxRecDepth 100000 in
theorem C_numMill_1 {l : Launch} (hlt : l.stackTraces = false) {im : TI} {rm : TP} {lm : TL} {S : CS} (hT : RT rm) (hC : RC rm) (hR : CR 1 S im) {m : Nat} (hm : m < 5) : Con l m_X4_numberOfMill 3 0 0 NN [pv (some 0), pv (some (mA 1 m)), .int (1)] im rm lm (QP (.int (mlS S m 1)) im rm lm) noX := by
  have hk0 := kdT
  have hC1 := c1 hC
  have hk1 := hC1.1
  obtain ⟨t0, t1, t2, t4, t5, t7, t8⟩ := id hT
  have hkm := ck_of hC1 hm
  have hM := (c1 hC).2.2.1 m hm
  refine Con.ofN (k := 0) (L0 := [some (pv (some 0)), some (pv (some (mA 1 m))), some (.int (1))]) hlt (by decide +kernel) rfl rfl (by rw [en1 pv_cat, en1 pv_cat, en1 rfl, en0]; exact Nat.le_of_ble_eq_true rfl) (by rw [en1 pv_cat, en1 pv_cat, en1 rfl, en0]; rfl) ?_
  refine t_iload2 dX4_numberOfMill_0 ?_
  refine pw_table (off := 60) 61 dX4_numberOfMill_1 (by decide) (by decide) (by decide) (by decide) ?_
  refine t_aload1 dX4_numberOfMill_61 ?_
  refine g_geti ft2 fl_X4_56 (j := 3) (by decide) dX4_numberOfMill_62 (by assumption) ?_
  refine pw_iret dX4_numberOfMill_65 rfl ?_
  exact ⟨rfl, by rw [(hR.2 m hm).2.1 1 (by decide)]; rfl, rfl, rfl, rfl⟩
set_option maxHeartbeats 4000000 in
set_option maxRecDepth 100000 in
theorem C_numMill_2 {l : Launch} (hlt : l.stackTraces = false) {im : TI} {rm : TP} {lm : TL} {S : CS} (hT : RT rm) (hC : RC rm) (hR : CR 1 S im) {m : Nat} (hm : m < 5) : Con l m_X4_numberOfMill 3 0 0 NN [pv (some 0), pv (some (mA 1 m)), .int (2)] im rm lm (QP (.int (mlS S m 2)) im rm lm) noX := by
  have hk0 := kdT
  have hC1 := c1 hC
  have hk1 := hC1.1
  obtain ⟨t0, t1, t2, t4, t5, t7, t8⟩ := id hT
  have hkm := ck_of hC1 hm
  have hM := (c1 hC).2.2.1 m hm
  refine Con.ofN (k := 0) (L0 := [some (pv (some 0)), some (pv (some (mA 1 m))), some (.int (2))]) hlt (by decide +kernel) rfl rfl (by rw [en1 pv_cat, en1 pv_cat, en1 rfl, en0]; exact Nat.le_of_ble_eq_true rfl) (by rw [en1 pv_cat, en1 pv_cat, en1 rfl, en0]; rfl) ?_
  refine t_iload2 dX4_numberOfMill_0 ?_
  refine pw_table (off := 65) 66 dX4_numberOfMill_1 (by decide) (by decide) (by decide) (by decide) ?_
  refine t_aload1 dX4_numberOfMill_66 ?_
  refine g_geti ft2 fl_X4_72 (j := 4) (by decide) dX4_numberOfMill_67 (by assumption) ?_
  refine pw_iret dX4_numberOfMill_70 rfl ?_
  exact ⟨rfl, by rw [(hR.2 m hm).2.1 2 (by decide)]; rfl, rfl, rfl, rfl⟩
set_option maxHeartbeats 4000000 in
set_option maxRecDepth 100000 in
theorem C_numMill_3 {l : Launch} (hlt : l.stackTraces = false) {im : TI} {rm : TP} {lm : TL} {S : CS} (hT : RT rm) (hC : RC rm) (hR : CR 1 S im) {m : Nat} (hm : m < 5) : Con l m_X4_numberOfMill 3 0 0 NN [pv (some 0), pv (some (mA 1 m)), .int (3)] im rm lm (QP (.int (mlS S m 3)) im rm lm) noX := by
  have hk0 := kdT
  have hC1 := c1 hC
  have hk1 := hC1.1
  obtain ⟨t0, t1, t2, t4, t5, t7, t8⟩ := id hT
  have hkm := ck_of hC1 hm
  have hM := (c1 hC).2.2.1 m hm
  refine Con.ofN (k := 0) (L0 := [some (pv (some 0)), some (pv (some (mA 1 m))), some (.int (3))]) hlt (by decide +kernel) rfl rfl (by rw [en1 pv_cat, en1 pv_cat, en1 rfl, en0]; exact Nat.le_of_ble_eq_true rfl) (by rw [en1 pv_cat, en1 pv_cat, en1 rfl, en0]; rfl) ?_
  refine t_iload2 dX4_numberOfMill_0 ?_
  refine pw_table (off := 70) 71 dX4_numberOfMill_1 (by decide) (by decide) (by decide) (by decide) ?_
  refine t_aload1 dX4_numberOfMill_71 ?_
  refine g_geti ft2 fl_X4_78 (j := 5) (by decide) dX4_numberOfMill_72 (by assumption) ?_
  refine pw_iret dX4_numberOfMill_75 rfl ?_
  exact ⟨rfl, by rw [(hR.2 m hm).2.1 3 (by decide)]; rfl, rfl, rfl, rfl⟩
set_option maxHeartbeats 4000000 in
set_option maxRecDepth 100000 in
theorem C_numMill_4 {l : Launch} (hlt : l.stackTraces = false) {im : TI} {rm : TP} {lm : TL} {S : CS} (hT : RT rm) (hC : RC rm) (hR : CR 1 S im) {m : Nat} (hm : m < 5) : Con l m_X4_numberOfMill 3 0 0 NN [pv (some 0), pv (some (mA 1 m)), .int (4)] im rm lm (QP (.int (mlS S m 4)) im rm lm) noX := by
  have hk0 := kdT
  have hC1 := c1 hC
  have hk1 := hC1.1
  obtain ⟨t0, t1, t2, t4, t5, t7, t8⟩ := id hT
  have hkm := ck_of hC1 hm
  have hM := (c1 hC).2.2.1 m hm
  refine Con.ofN (k := 0) (L0 := [some (pv (some 0)), some (pv (some (mA 1 m))), some (.int (4))]) hlt (by decide +kernel) rfl rfl (by rw [en1 pv_cat, en1 pv_cat, en1 rfl, en0]; exact Nat.le_of_ble_eq_true rfl) (by rw [en1 pv_cat, en1 pv_cat, en1 rfl, en0]; rfl) ?_
  refine t_iload2 dX4_numberOfMill_0 ?_
  refine pw_table (off := 75) 76 dX4_numberOfMill_1 (by decide) (by decide) (by decide) (by decide) ?_
  refine t_aload1 dX4_numberOfMill_76 ?_
  refine g_geti ft2 fl_X4_75 (j := 6) (by decide) dX4_numberOfMill_77 (by assumption) ?_
  refine pw_iret dX4_numberOfMill_80 rfl ?_
  exact ⟨rfl, by rw [(hR.2 m hm).2.1 4 (by decide)]; rfl, rfl, rfl, rfl⟩
set_option maxHeartbeats 4000000 in
set_option maxRecDepth 100000 in
theorem C_numMill_5 {l : Launch} (hlt : l.stackTraces = false) {im : TI} {rm : TP} {lm : TL} {S : CS} (hT : RT rm) (hC : RC rm) (hR : CR 1 S im) {m : Nat} (hm : m < 5) : Con l m_X4_numberOfMill 3 0 0 NN [pv (some 0), pv (some (mA 1 m)), .int (5)] im rm lm (QP (.int (mlS S m 5)) im rm lm) noX := by
  have hk0 := kdT
  have hC1 := c1 hC
  have hk1 := hC1.1
  obtain ⟨t0, t1, t2, t4, t5, t7, t8⟩ := id hT
  have hkm := ck_of hC1 hm
  have hM := (c1 hC).2.2.1 m hm
  refine Con.ofN (k := 0) (L0 := [some (pv (some 0)), some (pv (some (mA 1 m))), some (.int (5))]) hlt (by decide +kernel) rfl rfl (by rw [en1 pv_cat, en1 pv_cat, en1 rfl, en0]; exact Nat.le_of_ble_eq_true rfl) (by rw [en1 pv_cat, en1 pv_cat, en1 rfl, en0]; rfl) ?_
  refine t_iload2 dX4_numberOfMill_0 ?_
  refine pw_table (off := 80) 81 dX4_numberOfMill_1 (by decide) (by decide) (by decide) (by decide) ?_
  refine t_aload1 dX4_numberOfMill_81 ?_
  refine g_geti ft2 fl_X4_81 (j := 7) (by decide) dX4_numberOfMill_82 (by assumption) ?_
  refine pw_iret dX4_numberOfMill_85 rfl ?_
  exact ⟨rfl, by rw [(hR.2 m hm).2.1 5 (by decide)]; rfl, rfl, rfl, rfl⟩
set_option maxHeartbeats 4000000 in
set_option maxRecDepth 100000 in
theorem C_numMill_6 {l : Launch} (hlt : l.stackTraces = false) {im : TI} {rm : TP} {lm : TL} {S : CS} (hT : RT rm) (hC : RC rm) (hR : CR 1 S im) {m : Nat} (hm : m < 5) : Con l m_X4_numberOfMill 3 0 0 NN [pv (some 0), pv (some (mA 1 m)), .int (6)] im rm lm (QP (.int (mlS S m 6)) im rm lm) noX := by
  have hk0 := kdT
  have hC1 := c1 hC
  have hk1 := hC1.1
  obtain ⟨t0, t1, t2, t4, t5, t7, t8⟩ := id hT
  have hkm := ck_of hC1 hm
  have hM := (c1 hC).2.2.1 m hm
  refine Con.ofN (k := 0) (L0 := [some (pv (some 0)), some (pv (some (mA 1 m))), some (.int (6))]) hlt (by decide +kernel) rfl rfl (by rw [en1 pv_cat, en1 pv_cat, en1 rfl, en0]; exact Nat.le_of_ble_eq_true rfl) (by rw [en1 pv_cat, en1 pv_cat, en1 rfl, en0]; rfl) ?_
  refine t_iload2 dX4_numberOfMill_0 ?_
  refine pw_table (off := 85) 86 dX4_numberOfMill_1 (by decide) (by decide) (by decide) (by decide) ?_
  refine t_aload1 dX4_numberOfMill_86 ?_
  refine g_geti ft2 fl_X4_84 (j := 8) (by decide) dX4_numberOfMill_87 (by assumption) ?_
  refine pw_iret dX4_numberOfMill_90 rfl ?_
  exact ⟨rfl, by rw [(hR.2 m hm).2.1 6 (by decide)]; rfl, rfl, rfl, rfl⟩
set_option maxHeartbeats 4000000 in
set_option maxRecDepth 100000 in
theorem C_numMill_7 {l : Launch} (hlt : l.stackTraces = false) {im : TI} {rm : TP} {lm : TL} {S : CS} (hT : RT rm) (hC : RC rm) (hR : CR 1 S im) {m : Nat} (hm : m < 5) : Con l m_X4_numberOfMill 3 0 0 NN [pv (some 0), pv (some (mA 1 m)), .int (7)] im rm lm (QP (.int (mlS S m 7)) im rm lm) noX := by
  have hk0 := kdT
  have hC1 := c1 hC
  have hk1 := hC1.1
  obtain ⟨t0, t1, t2, t4, t5, t7, t8⟩ := id hT
  have hkm := ck_of hC1 hm
  have hM := (c1 hC).2.2.1 m hm
  refine Con.ofN (k := 0) (L0 := [some (pv (some 0)), some (pv (some (mA 1 m))), some (.int (7))]) hlt (by decide +kernel) rfl rfl (by rw [en1 pv_cat, en1 pv_cat, en1 rfl, en0]; exact Nat.le_of_ble_eq_true rfl) (by rw [en1 pv_cat, en1 pv_cat, en1 rfl, en0]; rfl) ?_
  refine t_iload2 dX4_numberOfMill_0 ?_
  refine pw_table (off := 90) 91 dX4_numberOfMill_1 (by decide) (by decide) (by decide) (by decide) ?_
  refine t_aload1 dX4_numberOfMill_91 ?_
  refine g_geti ft2 fl_X4_129 (j := 11) (by decide) dX4_numberOfMill_92 (by assumption) ?_
  refine pw_iret dX4_numberOfMill_95 rfl ?_
  exact ⟨rfl, by rw [(hR.2 m hm).2.1 9 (by decide)]; rfl, rfl, rfl, rfl⟩
set_option maxHeartbeats 4000000 in
set_option maxRecDepth 100000 in
theorem C_numMill_8 {l : Launch} (hlt : l.stackTraces = false) {im : TI} {rm : TP} {lm : TL} {S : CS} (hT : RT rm) (hC : RC rm) (hR : CR 1 S im) {m : Nat} (hm : m < 5) : Con l m_X4_numberOfMill 3 0 0 NN [pv (some 0), pv (some (mA 1 m)), .int (8)] im rm lm (QP (.int (mlS S m 8)) im rm lm) noX := by
  have hk0 := kdT
  have hC1 := c1 hC
  have hk1 := hC1.1
  obtain ⟨t0, t1, t2, t4, t5, t7, t8⟩ := id hT
  have hkm := ck_of hC1 hm
  have hM := (c1 hC).2.2.1 m hm
  refine Con.ofN (k := 0) (L0 := [some (pv (some 0)), some (pv (some (mA 1 m))), some (.int (8))]) hlt (by decide +kernel) rfl rfl (by rw [en1 pv_cat, en1 pv_cat, en1 rfl, en0]; exact Nat.le_of_ble_eq_true rfl) (by rw [en1 pv_cat, en1 pv_cat, en1 rfl, en0]; rfl) ?_
  refine t_iload2 dX4_numberOfMill_0 ?_
  refine pw_table (off := 95) 96 dX4_numberOfMill_1 (by decide) (by decide) (by decide) (by decide) ?_
  refine t_aload1 dX4_numberOfMill_96 ?_
  refine t_aload0 dX4_numberOfMill_97 ?_
  refine g_getr ft4 fl_X4_10 (j := 0) (by decide) dX4_numberOfMill_98 (by assumption) (by assumption) ?_
  refine t_aload0 dX4_numberOfMill_101 ?_
  refine g_getr ft4 fl_X4_10 (j := 0) (by decide) dX4_numberOfMill_102 (by assumption) (by assumption) ?_
  refine g_geti ft0 fl_X4_184 (j := 4) (by decide) dX4_numberOfMill_105 (by assumption) ?_
  refine g_callV1P (C_tideIn (l := l) hlt hk1) rfl ft0 rfl mc_X0_tideIn ml_X4_207 mi_X0_tideIn ms_X0_tideIn in_X0 (okc_X0_tideIn (by decide)) dX4_numberOfMill_108 (by assumption) (cat_le (Nat.le_of_ble_eq_true rfl)) ?_
  refine g_callV1P (C_headAt (l := l) hlt hkm) rfl ft2 rfl mc_X2_headAt ml_X4_286 mi_X2_headAt ms_X2_headAt in_X2 (okc_X2_headAt (by decide)) dX4_numberOfMill_111 (by assumption) (cat_le (Nat.le_of_ble_eq_true rfl)) ?_
  refine pw_sipush (1000) dX4_numberOfMill_114 (by decide) ?_
  refine pw_iadd dX4_numberOfMill_117 ?_
  refine pw_iret dX4_numberOfMill_118 rfl ?_
  exact ⟨rfl, by rw [hd_of hR hm]; rfl, rfl, rfl, rfl⟩
set_option maxHeartbeats 4000000 in
set_option maxRecDepth 100000 in
theorem C_numMill_9 {l : Launch} (hlt : l.stackTraces = false) {im : TI} {rm : TP} {lm : TL} {S : CS} (hT : RT rm) (hC : RC rm) (hR : CR 1 S im) {m : Nat} (hm : m < 5) : Con l m_X4_numberOfMill 3 0 0 NN [pv (some 0), pv (some (mA 1 m)), .int (9)] im rm lm (QP (.int (mlS S m 9)) im rm lm) noX := by
  have hk0 := kdT
  have hC1 := c1 hC
  have hk1 := hC1.1
  obtain ⟨t0, t1, t2, t4, t5, t7, t8⟩ := id hT
  have hkm := ck_of hC1 hm
  have hM := (c1 hC).2.2.1 m hm
  refine Con.ofN (k := 0) (L0 := [some (pv (some 0)), some (pv (some (mA 1 m))), some (.int (9))]) hlt (by decide +kernel) rfl rfl (by rw [en1 pv_cat, en1 pv_cat, en1 rfl, en0]; exact Nat.le_of_ble_eq_true rfl) (by rw [en1 pv_cat, en1 pv_cat, en1 rfl, en0]; rfl) ?_
  refine t_iload2 dX4_numberOfMill_0 ?_
  refine pw_table (off := 118) 119 dX4_numberOfMill_1 (by decide) (by decide) (by decide) (by decide) ?_
  refine t_aload1 dX4_numberOfMill_119 ?_
  refine g_geti ft2 fl_X4_289 (j := 9) (by decide) dX4_numberOfMill_120 (by assumption) ?_
  refine pw_iret dX4_numberOfMill_123 rfl ?_
  exact ⟨rfl, by rw [(hR.2 m hm).2.1 7 (by decide)]; rfl, rfl, rfl, rfl⟩
set_option maxHeartbeats 4000000 in
set_option maxRecDepth 100000 in
theorem C_numMill_10 {l : Launch} (hlt : l.stackTraces = false) {im : TI} {rm : TP} {lm : TL} {S : CS} (hT : RT rm) (hC : RC rm) (hR : CR 1 S im) {m : Nat} (hm : m < 5) : Con l m_X4_numberOfMill 3 0 0 NN [pv (some 0), pv (some (mA 1 m)), .int (10)] im rm lm (QP (.int (mlS S m 10)) im rm lm) noX := by
  have hk0 := kdT
  have hC1 := c1 hC
  have hk1 := hC1.1
  obtain ⟨t0, t1, t2, t4, t5, t7, t8⟩ := id hT
  have hkm := ck_of hC1 hm
  have hM := (c1 hC).2.2.1 m hm
  refine Con.ofN (k := 0) (L0 := [some (pv (some 0)), some (pv (some (mA 1 m))), some (.int (10))]) hlt (by decide +kernel) rfl rfl (by rw [en1 pv_cat, en1 pv_cat, en1 rfl, en0]; exact Nat.le_of_ble_eq_true rfl) (by rw [en1 pv_cat, en1 pv_cat, en1 rfl, en0]; rfl) ?_
  refine t_iload2 dX4_numberOfMill_0 ?_
  refine pw_tableD 124 dX4_numberOfMill_1 (by decide) (by decide) ?_
  refine t_aload1 dX4_numberOfMill_124 ?_
  refine g_geti ft2 fl_X4_292 (j := 10) (by decide) dX4_numberOfMill_125 (by assumption) ?_
  refine pw_iret dX4_numberOfMill_128 rfl ?_
  exact ⟨rfl, by rw [(hR.2 m hm).2.1 8 (by decide)]; rfl, rfl, rfl, rfl⟩
theorem C_numMill {l : Launch} (hlt : l.stackTraces = false) {im : TI} {rm : TP} {lm : TL} {S : CS} (hT : RT rm) (hC : RC rm) (hR : CR 1 S im) {m : Nat} (hm : m < 5) {v : Nat} {x : Int32} (hv : v ≤ 10) (hx : x = nI v) : Con l m_X4_numberOfMill 3 0 0 NN [pv (some 0), pv (some (mA 1 m)), .int x] im rm lm (QP (.int (mlS S m v)) im rm lm) noX := by
  subst hx
  rcases le_11.mp hv with rfl | rfl | rfl | rfl | rfl | rfl | rfl | rfl | rfl | rfl | rfl
  · exact C_numMill_0 hlt hT hC hR hm
  · exact C_numMill_1 hlt hT hC hR hm
  · exact C_numMill_2 hlt hT hC hR hm
  · exact C_numMill_3 hlt hT hC hR hm
  · exact C_numMill_4 hlt hT hC hR hm
  · exact C_numMill_5 hlt hT hC hR hm
  · exact C_numMill_6 hlt hT hC hR hm
  · exact C_numMill_7 hlt hT hC hR hm
  · exact C_numMill_8 hlt hT hC hR hm
  · exact C_numMill_9 hlt hT hC hR hm
  · exact C_numMill_10 hlt hT hC hR hm
set_option maxHeartbeats 4000000 in
set_option maxRecDepth 100000 in
theorem C_numSack_0 {l : Launch} (hlt : l.stackTraces = false) {im : TI} {rm : TP} {lm : TL} {S : CS} (hT : RT rm) (hC : RC rm) (hR : CR 1 S im) (hI : CI S) {m p : Nat} {y : Int32} (hm : m < 5) (hp : p < cnt S m) (hy : y = nI p) : Con l m_X4_numberOfSack 2 0 0 NN [pv (some (mA 1 m)), .int (y), .int (0)] im rm lm (QP (.int (if 0 = 0 then nI m else if 0 = 4 then nI p else S.2.2 m p 0)) im rm lm) noX := by
  have hk0 := kdT
  have hC1 := c1 hC
  have hk1 := hC1.1
  obtain ⟨t0, t1, t2, t4, t5, t7, t8⟩ := id hT
  have hkm := ck_of hC1 hm
  have hM := (c1 hC).2.2.1 m hm
  have hp6 : p < 6 := Nat.lt_of_lt_of_le hp (hI.c hm).1
  refine Con.ofN (k := 0) (L0 := [some (pv (some (mA 1 m))), some (.int (y)), some (.int (0))]) hlt (by decide +kernel) rfl rfl (by rw [en1 pv_cat, en1 rfl, en1 rfl, en0]; exact Nat.le_of_ble_eq_true rfl) (by rw [en1 pv_cat, en1 rfl, en1 rfl, en0]; rfl) ?_
  subst hy
  refine t_iload2 dX4_numberOfSack_0 ?_
  refine pw_table (off := 31) 32 dX4_numberOfSack_1 (by decide) (by decide) (by decide) (by decide) ?_
  refine t_aload0 dX4_numberOfSack_32 ?_
  refine g_geti ft2 fl_X4_269 (j := 0) (by decide) dX4_numberOfSack_33 (by assumption) ?_
  refine pw_iret dX4_numberOfSack_36 rfl ?_
  exact ⟨rfl, by rw [(hR.2 m hm).1]; rfl, rfl, rfl, rfl⟩
set_option maxHeartbeats 4000000 in
set_option maxRecDepth 100000 in
theorem C_numSack_1 {l : Launch} (hlt : l.stackTraces = false) {im : TI} {rm : TP} {lm : TL} {S : CS} (hT : RT rm) (hC : RC rm) (hR : CR 1 S im) (hI : CI S) {m p : Nat} {y : Int32} (hm : m < 5) (hp : p < cnt S m) (hy : y = nI p) : Con l m_X4_numberOfSack 2 0 0 NN [pv (some (mA 1 m)), .int (y), .int (1)] im rm lm (QP (.int (if 1 = 0 then nI m else if 1 = 4 then nI p else S.2.2 m p 1)) im rm lm) noX := by
  have hk0 := kdT
  have hC1 := c1 hC
  have hk1 := hC1.1
  obtain ⟨t0, t1, t2, t4, t5, t7, t8⟩ := id hT
  have hkm := ck_of hC1 hm
  have hM := (c1 hC).2.2.1 m hm
  have hp6 : p < 6 := Nat.lt_of_lt_of_le hp (hI.c hm).1
  refine Con.ofN (k := 0) (L0 := [some (pv (some (mA 1 m))), some (.int (y)), some (.int (1))]) hlt (by decide +kernel) rfl rfl (by rw [en1 pv_cat, en1 rfl, en1 rfl, en0]; exact Nat.le_of_ble_eq_true rfl) (by rw [en1 pv_cat, en1 rfl, en1 rfl, en0]; rfl) ?_
  subst hy
  refine t_iload2 dX4_numberOfSack_0 ?_
  refine pw_table (off := 36) 37 dX4_numberOfSack_1 (by decide) (by decide) (by decide) (by decide) ?_
  refine t_aload0 dX4_numberOfSack_37 ?_
  refine t_iload1 dX4_numberOfSack_38 ?_
  refine g_callV1P (C_hardnessAt (l := l) hlt hM) rfl ft2 rfl mc_X2_hardnessAt ml_X4_135 mi_X2_hardnessAt ms_X2_hardnessAt in_X2 (okc_X2_hardnessAt (by decide)) dX4_numberOfSack_39 (by assumption) (cat_le (Nat.le_of_ble_eq_true rfl)) ?_
  refine pw_iret dX4_numberOfSack_42 rfl ?_
  refine ⟨rfl, ?_, rfl, rfl, rfl⟩
  rw [if_pos ⟨nI_pos (by omega), by rw [w11 hR hm, (hI.c hm).2]; exact (nI_ltI (by omega) (by have := (hI.c hm).1; omega)).mpr hp, (nI_ltI (b := 6) (by omega) (by decide)).mpr hp6⟩, nI_clamp (by omega), ((hR.2 m hm).2.2 p hp6).2.1]
  rfl
set_option maxHeartbeats 4000000 in
set_option maxRecDepth 100000 in
theorem C_numSack_2 {l : Launch} (hlt : l.stackTraces = false) {im : TI} {rm : TP} {lm : TL} {S : CS} (hT : RT rm) (hC : RC rm) (hR : CR 1 S im) (hI : CI S) {m p : Nat} {y : Int32} (hm : m < 5) (hp : p < cnt S m) (hy : y = nI p) : Con l m_X4_numberOfSack 2 0 0 NN [pv (some (mA 1 m)), .int (y), .int (2)] im rm lm (QP (.int (if 2 = 0 then nI m else if 2 = 4 then nI p else S.2.2 m p 2)) im rm lm) noX := by
  have hk0 := kdT
  have hC1 := c1 hC
  have hk1 := hC1.1
  obtain ⟨t0, t1, t2, t4, t5, t7, t8⟩ := id hT
  have hkm := ck_of hC1 hm
  have hM := (c1 hC).2.2.1 m hm
  have hp6 : p < 6 := Nat.lt_of_lt_of_le hp (hI.c hm).1
  refine Con.ofN (k := 0) (L0 := [some (pv (some (mA 1 m))), some (.int (y)), some (.int (2))]) hlt (by decide +kernel) rfl rfl (by rw [en1 pv_cat, en1 rfl, en1 rfl, en0]; exact Nat.le_of_ble_eq_true rfl) (by rw [en1 pv_cat, en1 rfl, en1 rfl, en0]; rfl) ?_
  subst hy
  refine t_iload2 dX4_numberOfSack_0 ?_
  refine pw_table (off := 42) 43 dX4_numberOfSack_1 (by decide) (by decide) (by decide) (by decide) ?_
  refine t_aload0 dX4_numberOfSack_43 ?_
  refine t_iload1 dX4_numberOfSack_44 ?_
  refine g_callV1P (C_restAt (l := l) hlt hM) rfl ft2 rfl mc_X2_restAt ml_X4_138 mi_X2_restAt ms_X2_restAt in_X2 (okc_X2_restAt (by decide)) dX4_numberOfSack_45 (by assumption) (cat_le (Nat.le_of_ble_eq_true rfl)) ?_
  refine pw_iret dX4_numberOfSack_48 rfl ?_
  refine ⟨rfl, ?_, rfl, rfl, rfl⟩
  rw [if_pos ⟨nI_pos (by omega), by rw [w11 hR hm, (hI.c hm).2]; exact (nI_ltI (by omega) (by have := (hI.c hm).1; omega)).mpr hp, (nI_ltI (b := 6) (by omega) (by decide)).mpr hp6⟩, nI_clamp (by omega), ((hR.2 m hm).2.2 p hp6).2.2.1]
  rfl
set_option maxHeartbeats 4000000 in
set_option maxRecDepth 100000 in
theorem C_numSack_3 {l : Launch} (hlt : l.stackTraces = false) {im : TI} {rm : TP} {lm : TL} {S : CS} (hT : RT rm) (hC : RC rm) (hR : CR 1 S im) (hI : CI S) {m p : Nat} {y : Int32} (hm : m < 5) (hp : p < cnt S m) (hy : y = nI p) : Con l m_X4_numberOfSack 2 0 0 NN [pv (some (mA 1 m)), .int (y), .int (3)] im rm lm (QP (.int (if 3 = 0 then nI m else if 3 = 4 then nI p else S.2.2 m p 3)) im rm lm) noX := by
  have hk0 := kdT
  have hC1 := c1 hC
  have hk1 := hC1.1
  obtain ⟨t0, t1, t2, t4, t5, t7, t8⟩ := id hT
  have hkm := ck_of hC1 hm
  have hM := (c1 hC).2.2.1 m hm
  have hp6 : p < 6 := Nat.lt_of_lt_of_le hp (hI.c hm).1
  refine Con.ofN (k := 0) (L0 := [some (pv (some (mA 1 m))), some (.int (y)), some (.int (3))]) hlt (by decide +kernel) rfl rfl (by rw [en1 pv_cat, en1 rfl, en1 rfl, en0]; exact Nat.le_of_ble_eq_true rfl) (by rw [en1 pv_cat, en1 rfl, en1 rfl, en0]; rfl) ?_
  subst hy
  refine t_iload2 dX4_numberOfSack_0 ?_
  refine pw_table (off := 48) 49 dX4_numberOfSack_1 (by decide) (by decide) (by decide) (by decide) ?_
  refine t_aload0 dX4_numberOfSack_49 ?_
  refine t_iload1 dX4_numberOfSack_50 ?_
  refine g_callV1P (C_dueAt (l := l) hlt hM) rfl ft2 rfl mc_X2_dueAt ml_X4_141 mi_X2_dueAt ms_X2_dueAt in_X2 (okc_X2_dueAt (by decide)) dX4_numberOfSack_51 (by assumption) (cat_le (Nat.le_of_ble_eq_true rfl)) ?_
  refine pw_iret dX4_numberOfSack_54 rfl ?_
  refine ⟨rfl, ?_, rfl, rfl, rfl⟩
  rw [if_pos ⟨nI_pos (by omega), by rw [w11 hR hm, (hI.c hm).2]; exact (nI_ltI (by omega) (by have := (hI.c hm).1; omega)).mpr hp, (nI_ltI (b := 6) (by omega) (by decide)).mpr hp6⟩, nI_clamp (by omega), ((hR.2 m hm).2.2 p hp6).2.2.2]
  rfl
set_option maxHeartbeats 4000000 in
set_option maxRecDepth 100000 in
theorem C_numSack_4 {l : Launch} (hlt : l.stackTraces = false) {im : TI} {rm : TP} {lm : TL} {S : CS} (hT : RT rm) (hC : RC rm) (hR : CR 1 S im) (hI : CI S) {m p : Nat} {y : Int32} (hm : m < 5) (hp : p < cnt S m) (hy : y = nI p) : Con l m_X4_numberOfSack 2 0 0 NN [pv (some (mA 1 m)), .int (y), .int (4)] im rm lm (QP (.int (if 4 = 0 then nI m else if 4 = 4 then nI p else S.2.2 m p 4)) im rm lm) noX := by
  have hk0 := kdT
  have hC1 := c1 hC
  have hk1 := hC1.1
  obtain ⟨t0, t1, t2, t4, t5, t7, t8⟩ := id hT
  have hkm := ck_of hC1 hm
  have hM := (c1 hC).2.2.1 m hm
  have hp6 : p < 6 := Nat.lt_of_lt_of_le hp (hI.c hm).1
  refine Con.ofN (k := 0) (L0 := [some (pv (some (mA 1 m))), some (.int (y)), some (.int (4))]) hlt (by decide +kernel) rfl rfl (by rw [en1 pv_cat, en1 rfl, en1 rfl, en0]; exact Nat.le_of_ble_eq_true rfl) (by rw [en1 pv_cat, en1 rfl, en1 rfl, en0]; rfl) ?_
  subst hy
  refine t_iload2 dX4_numberOfSack_0 ?_
  refine pw_tableD 55 dX4_numberOfSack_1 (by decide) (by decide) ?_
  refine t_iload1 dX4_numberOfSack_55 ?_
  refine pw_iret dX4_numberOfSack_56 rfl ?_
  exact ⟨rfl, rfl, rfl, rfl, rfl⟩
theorem C_numSack {l : Launch} (hlt : l.stackTraces = false) {im : TI} {rm : TP} {lm : TL} {S : CS} (hT : RT rm) (hC : RC rm) (hR : CR 1 S im) (hI : CI S) {m p : Nat} {y : Int32} (hm : m < 5) (hp : p < cnt S m) (hy : y = nI p) {v : Nat} {x : Int32} (hv : v ≤ 4) (hx : x = nI v) : Con l m_X4_numberOfSack 2 0 0 NN [pv (some (mA 1 m)), .int y, .int x] im rm lm (QP (.int (if v = 0 then nI m else if v = 4 then nI p else S.2.2 m p v)) im rm lm) noX := by
  subst hx
  rcases le_5.mp hv with rfl | rfl | rfl | rfl | rfl
  · exact C_numSack_0 hlt hT hC hR hI hm hp hy
  · exact C_numSack_1 hlt hT hC hR hI hm hp hy
  · exact C_numSack_2 hlt hT hC hR hI hm hp hy
  · exact C_numSack_3 hlt hT hC hR hI hm hp hy
  · exact C_numSack_4 hlt hT hC hR hI hm hp hy
set_option maxHeartbeats 4000000 in
set_option maxRecDepth 100000 in
theorem C_numAll_0 {l : Launch} (hlt : l.stackTraces = false) {im : TI} {rm : TP} {lm : TL} {S : CS} (hT : RT rm) (hC : RC rm) (hR : CR 1 S im) {n : Nat} (hn : im 79 1 = nI n) : Con l m_X4_numberOfAll 2 0 0 NN [pv (some 0), .int (0)] im rm lm (QP (.int (alS S n 0)) im rm lm) noX := by
  have hk0 := kdT
  have hC1 := c1 hC
  have hk1 := hC1.1
  obtain ⟨t0, t1, t2, t4, t5, t7, t8⟩ := id hT
  have hk79 := kd79
  refine Con.ofN (k := 0) (L0 := [some (pv (some 0)), some (.int (0))]) hlt (by decide +kernel) rfl rfl (by rw [en1 pv_cat, en1 rfl, en0]; exact Nat.le_of_ble_eq_true rfl) (by rw [en1 pv_cat, en1 rfl, en0]; rfl) ?_
  refine t_iload1 dX4_numberOfAll_0 ?_
  refine pw_table (off := 75) 76 dX4_numberOfAll_1 (by decide) (by decide) (by decide) (by decide) ?_
  refine t_aload0 dX4_numberOfAll_76 ?_
  refine g_getr ft4 fl_X4_10 (j := 0) (by decide) dX4_numberOfAll_77 (by assumption) (by assumption) ?_
  refine g_geti ft0 fl_X4_184 (j := 4) (by decide) dX4_numberOfAll_80 (by assumption) ?_
  refine pw_iret dX4_numberOfAll_83 rfl ?_
  exact ⟨rfl, by rw [hR.1.2.2.2.1]; rfl, rfl, rfl, rfl⟩
set_option maxHeartbeats 4000000 in
set_option maxRecDepth 100000 in
theorem C_numAll_1 {l : Launch} (hlt : l.stackTraces = false) {im : TI} {rm : TP} {lm : TL} {S : CS} (hT : RT rm) (hC : RC rm) (hR : CR 1 S im) {n : Nat} (hn : im 79 1 = nI n) : Con l m_X4_numberOfAll 2 0 0 NN [pv (some 0), .int (1)] im rm lm (QP (.int (alS S n 1)) im rm lm) noX := by
  have hk0 := kdT
  have hC1 := c1 hC
  have hk1 := hC1.1
  obtain ⟨t0, t1, t2, t4, t5, t7, t8⟩ := id hT
  have hk79 := kd79
  refine Con.ofN (k := 0) (L0 := [some (pv (some 0)), some (.int (1))]) hlt (by decide +kernel) rfl rfl (by rw [en1 pv_cat, en1 rfl, en0]; exact Nat.le_of_ble_eq_true rfl) (by rw [en1 pv_cat, en1 rfl, en0]; rfl) ?_
  refine t_iload1 dX4_numberOfAll_0 ?_
  refine pw_table (off := 83) 84 dX4_numberOfAll_1 (by decide) (by decide) (by decide) (by decide) ?_
  refine t_aload0 dX4_numberOfAll_84 ?_
  refine g_getr ft4 fl_X4_10 (j := 0) (by decide) dX4_numberOfAll_85 (by assumption) (by assumption) ?_
  refine g_geti ft0 fl_X4_293 (j := 5) (by decide) dX4_numberOfAll_88 (by assumption) ?_
  refine pw_iret dX4_numberOfAll_91 rfl ?_
  exact ⟨rfl, by rw [hR.1.2.2.2.2.1]; rfl, rfl, rfl, rfl⟩
set_option maxHeartbeats 4000000 in
set_option maxRecDepth 100000 in
theorem C_numAll_2 {l : Launch} (hlt : l.stackTraces = false) {im : TI} {rm : TP} {lm : TL} {S : CS} (hT : RT rm) (hC : RC rm) (hR : CR 1 S im) {n : Nat} (hn : im 79 1 = nI n) : Con l m_X4_numberOfAll 2 0 0 NN [pv (some 0), .int (2)] im rm lm (QP (.int (alS S n 2)) im rm lm) noX := by
  have hk0 := kdT
  have hC1 := c1 hC
  have hk1 := hC1.1
  obtain ⟨t0, t1, t2, t4, t5, t7, t8⟩ := id hT
  have hk79 := kd79
  refine Con.ofN (k := 0) (L0 := [some (pv (some 0)), some (.int (2))]) hlt (by decide +kernel) rfl rfl (by rw [en1 pv_cat, en1 rfl, en0]; exact Nat.le_of_ble_eq_true rfl) (by rw [en1 pv_cat, en1 rfl, en0]; rfl) ?_
  refine t_iload1 dX4_numberOfAll_0 ?_
  refine pw_table (off := 91) 92 dX4_numberOfAll_1 (by decide) (by decide) (by decide) (by decide) ?_
  refine t_aload0 dX4_numberOfAll_92 ?_
  refine g_getr ft4 fl_X4_10 (j := 0) (by decide) dX4_numberOfAll_93 (by assumption) (by assumption) ?_
  refine g_geti ft0 fl_X4_296 (j := 6) (by decide) dX4_numberOfAll_96 (by assumption) ?_
  refine pw_iret dX4_numberOfAll_99 rfl ?_
  exact ⟨rfl, by rw [hR.1.2.2.2.2.2 6 (by decide) (by decide)]; rfl, rfl, rfl, rfl⟩
set_option maxHeartbeats 4000000 in
set_option maxRecDepth 100000 in
theorem C_numAll_3 {l : Launch} (hlt : l.stackTraces = false) {im : TI} {rm : TP} {lm : TL} {S : CS} (hT : RT rm) (hC : RC rm) (hR : CR 1 S im) {n : Nat} (hn : im 79 1 = nI n) : Con l m_X4_numberOfAll 2 0 0 NN [pv (some 0), .int (3)] im rm lm (QP (.int (alS S n 3)) im rm lm) noX := by
  have hk0 := kdT
  have hC1 := c1 hC
  have hk1 := hC1.1
  obtain ⟨t0, t1, t2, t4, t5, t7, t8⟩ := id hT
  have hk79 := kd79
  refine Con.ofN (k := 0) (L0 := [some (pv (some 0)), some (.int (3))]) hlt (by decide +kernel) rfl rfl (by rw [en1 pv_cat, en1 rfl, en0]; exact Nat.le_of_ble_eq_true rfl) (by rw [en1 pv_cat, en1 rfl, en0]; rfl) ?_
  refine t_iload1 dX4_numberOfAll_0 ?_
  refine pw_table (off := 99) 100 dX4_numberOfAll_1 (by decide) (by decide) (by decide) (by decide) ?_
  refine t_aload0 dX4_numberOfAll_100 ?_
  refine g_getr ft4 fl_X4_10 (j := 0) (by decide) dX4_numberOfAll_101 (by assumption) (by assumption) ?_
  refine g_geti ft0 fl_X4_299 (j := 7) (by decide) dX4_numberOfAll_104 (by assumption) ?_
  refine pw_iret dX4_numberOfAll_107 rfl ?_
  exact ⟨rfl, by rw [hR.1.2.2.2.2.2 7 (by decide) (by decide)]; rfl, rfl, rfl, rfl⟩
set_option maxHeartbeats 4000000 in
set_option maxRecDepth 100000 in
theorem C_numAll_4 {l : Launch} (hlt : l.stackTraces = false) {im : TI} {rm : TP} {lm : TL} {S : CS} (hT : RT rm) (hC : RC rm) (hR : CR 1 S im) {n : Nat} (hn : im 79 1 = nI n) : Con l m_X4_numberOfAll 2 0 0 NN [pv (some 0), .int (4)] im rm lm (QP (.int (alS S n 4)) im rm lm) noX := by
  have hk0 := kdT
  have hC1 := c1 hC
  have hk1 := hC1.1
  obtain ⟨t0, t1, t2, t4, t5, t7, t8⟩ := id hT
  have hk79 := kd79
  refine Con.ofN (k := 0) (L0 := [some (pv (some 0)), some (.int (4))]) hlt (by decide +kernel) rfl rfl (by rw [en1 pv_cat, en1 rfl, en0]; exact Nat.le_of_ble_eq_true rfl) (by rw [en1 pv_cat, en1 rfl, en0]; rfl) ?_
  refine t_iload1 dX4_numberOfAll_0 ?_
  refine pw_table (off := 107) 108 dX4_numberOfAll_1 (by decide) (by decide) (by decide) (by decide) ?_
  refine t_aload0 dX4_numberOfAll_108 ?_
  refine g_getr ft4 fl_X4_10 (j := 0) (by decide) dX4_numberOfAll_109 (by assumption) (by assumption) ?_
  refine g_geti ft0 fl_X4_302 (j := 8) (by decide) dX4_numberOfAll_112 (by assumption) ?_
  refine pw_iret dX4_numberOfAll_115 rfl ?_
  exact ⟨rfl, by rw [hR.1.2.2.2.2.2 8 (by decide) (by decide)]; rfl, rfl, rfl, rfl⟩
set_option maxHeartbeats 4000000 in
set_option maxRecDepth 100000 in
theorem C_numAll_5 {l : Launch} (hlt : l.stackTraces = false) {im : TI} {rm : TP} {lm : TL} {S : CS} (hT : RT rm) (hC : RC rm) (hR : CR 1 S im) {n : Nat} (hn : im 79 1 = nI n) : Con l m_X4_numberOfAll 2 0 0 NN [pv (some 0), .int (5)] im rm lm (QP (.int (alS S n 5)) im rm lm) noX := by
  have hk0 := kdT
  have hC1 := c1 hC
  have hk1 := hC1.1
  obtain ⟨t0, t1, t2, t4, t5, t7, t8⟩ := id hT
  have hk79 := kd79
  refine Con.ofN (k := 0) (L0 := [some (pv (some 0)), some (.int (5))]) hlt (by decide +kernel) rfl rfl (by rw [en1 pv_cat, en1 rfl, en0]; exact Nat.le_of_ble_eq_true rfl) (by rw [en1 pv_cat, en1 rfl, en0]; rfl) ?_
  refine t_iload1 dX4_numberOfAll_0 ?_
  refine pw_table (off := 115) 116 dX4_numberOfAll_1 (by decide) (by decide) (by decide) (by decide) ?_
  refine t_aload0 dX4_numberOfAll_116 ?_
  refine g_getr ft4 fl_X4_10 (j := 0) (by decide) dX4_numberOfAll_117 (by assumption) (by assumption) ?_
  refine g_callV0P (C_water (l := l) hlt hC1 hR) rfl ft0 rfl mc_X0_waterInPonds ml_X4_305 mi_X0_waterInPonds ms_X0_waterInPonds in_X0 (okc_X0_waterInPonds (by decide)) dX4_numberOfAll_120 (by assumption) (cat_le (Nat.le_of_ble_eq_true rfl)) ?_
  refine pw_iret dX4_numberOfAll_123 rfl ?_
  exact ⟨rfl, rfl, rfl, rfl, rfl⟩
set_option maxHeartbeats 4000000 in
set_option maxRecDepth 100000 in
theorem C_numAll_6 {l : Launch} (hlt : l.stackTraces = false) {im : TI} {rm : TP} {lm : TL} {S : CS} (hT : RT rm) (hC : RC rm) (hR : CR 1 S im) {n : Nat} (hn : im 79 1 = nI n) : Con l m_X4_numberOfAll 2 0 0 NN [pv (some 0), .int (6)] im rm lm (QP (.int (alS S n 6)) im rm lm) noX := by
  have hk0 := kdT
  have hC1 := c1 hC
  have hk1 := hC1.1
  obtain ⟨t0, t1, t2, t4, t5, t7, t8⟩ := id hT
  have hk79 := kd79
  refine Con.ofN (k := 0) (L0 := [some (pv (some 0)), some (.int (6))]) hlt (by decide +kernel) rfl rfl (by rw [en1 pv_cat, en1 rfl, en0]; exact Nat.le_of_ble_eq_true rfl) (by rw [en1 pv_cat, en1 rfl, en0]; rfl) ?_
  refine t_iload1 dX4_numberOfAll_0 ?_
  refine pw_table (off := 123) 124 dX4_numberOfAll_1 (by decide) (by decide) (by decide) (by decide) ?_
  refine t_aload0 dX4_numberOfAll_124 ?_
  refine g_getr ft4 fl_X4_10 (j := 0) (by decide) dX4_numberOfAll_125 (by assumption) (by assumption) ?_
  refine g_geti ft0 fl_X4_308 (j := 9) (by decide) dX4_numberOfAll_128 (by assumption) ?_
  refine pw_iret dX4_numberOfAll_131 rfl ?_
  exact ⟨rfl, by rw [hR.1.2.2.2.2.2 9 (by decide) (by decide)]; rfl, rfl, rfl, rfl⟩
set_option maxHeartbeats 4000000 in
set_option maxRecDepth 100000 in
theorem C_numAll_7 {l : Launch} (hlt : l.stackTraces = false) {im : TI} {rm : TP} {lm : TL} {S : CS} (hT : RT rm) (hC : RC rm) (hR : CR 1 S im) {n : Nat} (hn : im 79 1 = nI n) : Con l m_X4_numberOfAll 2 0 0 NN [pv (some 0), .int (7)] im rm lm (QP (.int (alS S n 7)) im rm lm) noX := by
  have hk0 := kdT
  have hC1 := c1 hC
  have hk1 := hC1.1
  obtain ⟨t0, t1, t2, t4, t5, t7, t8⟩ := id hT
  have hk79 := kd79
  refine Con.ofN (k := 0) (L0 := [some (pv (some 0)), some (.int (7))]) hlt (by decide +kernel) rfl rfl (by rw [en1 pv_cat, en1 rfl, en0]; exact Nat.le_of_ble_eq_true rfl) (by rw [en1 pv_cat, en1 rfl, en0]; rfl) ?_
  refine t_iload1 dX4_numberOfAll_0 ?_
  refine pw_table (off := 131) 132 dX4_numberOfAll_1 (by decide) (by decide) (by decide) (by decide) ?_
  refine t_aload0 dX4_numberOfAll_132 ?_
  refine g_getr ft4 fl_X4_10 (j := 0) (by decide) dX4_numberOfAll_133 (by assumption) (by assumption) ?_
  refine g_callV0P (C_atMills (l := l) hlt hC1 hR) rfl ft0 rfl mc_X0_sacksAtMills ml_X4_311 mi_X0_sacksAtMills ms_X0_sacksAtMills in_X0 (okc_X0_sacksAtMills (by decide)) dX4_numberOfAll_136 (by assumption) (cat_le (Nat.le_of_ble_eq_true rfl)) ?_
  refine pw_iret dX4_numberOfAll_139 rfl ?_
  exact ⟨rfl, rfl, rfl, rfl, rfl⟩
set_option maxHeartbeats 4000000 in
set_option maxRecDepth 100000 in
theorem C_numAll_8 {l : Launch} (hlt : l.stackTraces = false) {im : TI} {rm : TP} {lm : TL} {S : CS} (hT : RT rm) (hC : RC rm) (hR : CR 1 S im) {n : Nat} (hn : im 79 1 = nI n) : Con l m_X4_numberOfAll 2 0 0 NN [pv (some 0), .int (8)] im rm lm (QP (.int (alS S n 8)) im rm lm) noX := by
  have hk0 := kdT
  have hC1 := c1 hC
  have hk1 := hC1.1
  obtain ⟨t0, t1, t2, t4, t5, t7, t8⟩ := id hT
  have hk79 := kd79
  refine Con.ofN (k := 0) (L0 := [some (pv (some 0)), some (.int (8))]) hlt (by decide +kernel) rfl rfl (by rw [en1 pv_cat, en1 rfl, en0]; exact Nat.le_of_ble_eq_true rfl) (by rw [en1 pv_cat, en1 rfl, en0]; rfl) ?_
  refine t_iload1 dX4_numberOfAll_0 ?_
  refine pw_table (off := 139) 140 dX4_numberOfAll_1 (by decide) (by decide) (by decide) (by decide) ?_
  refine t_aload0 dX4_numberOfAll_140 ?_
  refine g_getr ft4 fl_X4_10 (j := 0) (by decide) dX4_numberOfAll_141 (by assumption) (by assumption) ?_
  refine g_geti ft0 fl_X4_111 (j := 10) (by decide) dX4_numberOfAll_144 (by assumption) ?_
  refine pw_iret dX4_numberOfAll_147 rfl ?_
  exact ⟨rfl, by rw [hR.1.2.2.2.2.2 10 (by decide) (by decide)]; rfl, rfl, rfl, rfl⟩
set_option maxHeartbeats 4000000 in
set_option maxRecDepth 100000 in
theorem C_numAll_9 {l : Launch} (hlt : l.stackTraces = false) {im : TI} {rm : TP} {lm : TL} {S : CS} (hT : RT rm) (hC : RC rm) (hR : CR 1 S im) {n : Nat} (hn : im 79 1 = nI n) : Con l m_X4_numberOfAll 2 0 0 NN [pv (some 0), .int (9)] im rm lm (QP (.int (alS S n 9)) im rm lm) noX := by
  have hk0 := kdT
  have hC1 := c1 hC
  have hk1 := hC1.1
  obtain ⟨t0, t1, t2, t4, t5, t7, t8⟩ := id hT
  have hk79 := kd79
  refine Con.ofN (k := 0) (L0 := [some (pv (some 0)), some (.int (9))]) hlt (by decide +kernel) rfl rfl (by rw [en1 pv_cat, en1 rfl, en0]; exact Nat.le_of_ble_eq_true rfl) (by rw [en1 pv_cat, en1 rfl, en0]; rfl) ?_
  refine t_iload1 dX4_numberOfAll_0 ?_
  refine pw_table (off := 147) 148 dX4_numberOfAll_1 (by decide) (by decide) (by decide) (by decide) ?_
  refine t_aload0 dX4_numberOfAll_148 ?_
  refine g_getr ft4 fl_X4_10 (j := 0) (by decide) dX4_numberOfAll_149 (by assumption) (by assumption) ?_
  refine g_geti ft0 fl_X4_314 (j := 11) (by decide) dX4_numberOfAll_152 (by assumption) ?_
  refine pw_iret dX4_numberOfAll_155 rfl ?_
  exact ⟨rfl, by rw [hR.1.2.2.2.2.2 11 (by decide) (by decide)]; rfl, rfl, rfl, rfl⟩
set_option maxHeartbeats 4000000 in
set_option maxRecDepth 100000 in
theorem C_numAll_10 {l : Launch} (hlt : l.stackTraces = false) {im : TI} {rm : TP} {lm : TL} {S : CS} (hT : RT rm) (hC : RC rm) (hR : CR 1 S im) {n : Nat} (hn : im 79 1 = nI n) : Con l m_X4_numberOfAll 2 0 0 NN [pv (some 0), .int (10)] im rm lm (QP (.int (alS S n 10)) im rm lm) noX := by
  have hk0 := kdT
  have hC1 := c1 hC
  have hk1 := hC1.1
  obtain ⟨t0, t1, t2, t4, t5, t7, t8⟩ := id hT
  have hk79 := kd79
  refine Con.ofN (k := 0) (L0 := [some (pv (some 0)), some (.int (10))]) hlt (by decide +kernel) rfl rfl (by rw [en1 pv_cat, en1 rfl, en0]; exact Nat.le_of_ble_eq_true rfl) (by rw [en1 pv_cat, en1 rfl, en0]; rfl) ?_
  refine t_iload1 dX4_numberOfAll_0 ?_
  refine pw_table (off := 155) 156 dX4_numberOfAll_1 (by decide) (by decide) (by decide) (by decide) ?_
  refine t_aload0 dX4_numberOfAll_156 ?_
  refine g_getr ft4 fl_X4_10 (j := 0) (by decide) dX4_numberOfAll_157 (by assumption) (by assumption) ?_
  refine g_geti ft0 fl_X4_151 (j := 12) (by decide) dX4_numberOfAll_160 (by assumption) ?_
  refine pw_iret dX4_numberOfAll_163 rfl ?_
  exact ⟨rfl, by rw [hR.1.2.2.2.2.2 12 (by decide) (by decide)]; rfl, rfl, rfl, rfl⟩
set_option maxHeartbeats 4000000 in
set_option maxRecDepth 100000 in
theorem C_numAll_11 {l : Launch} (hlt : l.stackTraces = false) {im : TI} {rm : TP} {lm : TL} {S : CS} (hT : RT rm) (hC : RC rm) (hR : CR 1 S im) {n : Nat} (hn : im 79 1 = nI n) : Con l m_X4_numberOfAll 2 0 0 NN [pv (some 0), .int (11)] im rm lm (QP (.int (alS S n 11)) im rm lm) noX := by
  have hk0 := kdT
  have hC1 := c1 hC
  have hk1 := hC1.1
  obtain ⟨t0, t1, t2, t4, t5, t7, t8⟩ := id hT
  have hk79 := kd79
  refine Con.ofN (k := 0) (L0 := [some (pv (some 0)), some (.int (11))]) hlt (by decide +kernel) rfl rfl (by rw [en1 pv_cat, en1 rfl, en0]; exact Nat.le_of_ble_eq_true rfl) (by rw [en1 pv_cat, en1 rfl, en0]; rfl) ?_
  refine t_iload1 dX4_numberOfAll_0 ?_
  refine pw_table (off := 171) 172 dX4_numberOfAll_1 (by decide) (by decide) (by decide) (by decide) ?_
  refine t_aload0 dX4_numberOfAll_172 ?_
  refine g_getr ft4 fl_X4_10 (j := 0) (by decide) dX4_numberOfAll_173 (by assumption) (by assumption) ?_
  refine t_iload1 dX4_numberOfAll_176 ?_
  refine pw_bipush (11) dX4_numberOfAll_177 (by decide) ?_
  refine pw_isub dX4_numberOfAll_179 ?_
  rw [show (11 : Int32) - 11 = 0 by decide]
  refine g_callV1P (C_settingAt0 (l := l) hlt hC1 hR) rfl ft0 rfl mc_X0_settingAt ml_X4_104 mi_X0_settingAt ms_X0_settingAt in_X0 (okc_X0_settingAt (by decide)) dX4_numberOfAll_180 (by assumption) (cat_le (Nat.le_of_ble_eq_true rfl)) ?_
  refine pw_iret dX4_numberOfAll_183 rfl ?_
  exact ⟨rfl, rfl, rfl, rfl, rfl⟩
set_option maxHeartbeats 4000000 in
set_option maxRecDepth 100000 in
theorem C_numAll_12 {l : Launch} (hlt : l.stackTraces = false) {im : TI} {rm : TP} {lm : TL} {S : CS} (hT : RT rm) (hC : RC rm) (hR : CR 1 S im) {n : Nat} (hn : im 79 1 = nI n) : Con l m_X4_numberOfAll 2 0 0 NN [pv (some 0), .int (12)] im rm lm (QP (.int (alS S n 12)) im rm lm) noX := by
  have hk0 := kdT
  have hC1 := c1 hC
  have hk1 := hC1.1
  obtain ⟨t0, t1, t2, t4, t5, t7, t8⟩ := id hT
  have hk79 := kd79
  refine Con.ofN (k := 0) (L0 := [some (pv (some 0)), some (.int (12))]) hlt (by decide +kernel) rfl rfl (by rw [en1 pv_cat, en1 rfl, en0]; exact Nat.le_of_ble_eq_true rfl) (by rw [en1 pv_cat, en1 rfl, en0]; rfl) ?_
  refine t_iload1 dX4_numberOfAll_0 ?_
  refine pw_table (off := 171) 172 dX4_numberOfAll_1 (by decide) (by decide) (by decide) (by decide) ?_
  refine t_aload0 dX4_numberOfAll_172 ?_
  refine g_getr ft4 fl_X4_10 (j := 0) (by decide) dX4_numberOfAll_173 (by assumption) (by assumption) ?_
  refine t_iload1 dX4_numberOfAll_176 ?_
  refine pw_bipush (11) dX4_numberOfAll_177 (by decide) ?_
  refine pw_isub dX4_numberOfAll_179 ?_
  rw [show (12 : Int32) - 11 = 1 by decide]
  refine g_callV1P (C_settingAt1 (l := l) hlt hC1 hR) rfl ft0 rfl mc_X0_settingAt ml_X4_104 mi_X0_settingAt ms_X0_settingAt in_X0 (okc_X0_settingAt (by decide)) dX4_numberOfAll_180 (by assumption) (cat_le (Nat.le_of_ble_eq_true rfl)) ?_
  refine pw_iret dX4_numberOfAll_183 rfl ?_
  exact ⟨rfl, rfl, rfl, rfl, rfl⟩
set_option maxHeartbeats 4000000 in
set_option maxRecDepth 100000 in
theorem C_numAll_13 {l : Launch} (hlt : l.stackTraces = false) {im : TI} {rm : TP} {lm : TL} {S : CS} (hT : RT rm) (hC : RC rm) (hR : CR 1 S im) {n : Nat} (hn : im 79 1 = nI n) : Con l m_X4_numberOfAll 2 0 0 NN [pv (some 0), .int (13)] im rm lm (QP (.int (alS S n 13)) im rm lm) noX := by
  have hk0 := kdT
  have hC1 := c1 hC
  have hk1 := hC1.1
  obtain ⟨t0, t1, t2, t4, t5, t7, t8⟩ := id hT
  have hk79 := kd79
  refine Con.ofN (k := 0) (L0 := [some (pv (some 0)), some (.int (13))]) hlt (by decide +kernel) rfl rfl (by rw [en1 pv_cat, en1 rfl, en0]; exact Nat.le_of_ble_eq_true rfl) (by rw [en1 pv_cat, en1 rfl, en0]; rfl) ?_
  refine t_iload1 dX4_numberOfAll_0 ?_
  refine pw_table (off := 171) 172 dX4_numberOfAll_1 (by decide) (by decide) (by decide) (by decide) ?_
  refine t_aload0 dX4_numberOfAll_172 ?_
  refine g_getr ft4 fl_X4_10 (j := 0) (by decide) dX4_numberOfAll_173 (by assumption) (by assumption) ?_
  refine t_iload1 dX4_numberOfAll_176 ?_
  refine pw_bipush (11) dX4_numberOfAll_177 (by decide) ?_
  refine pw_isub dX4_numberOfAll_179 ?_
  rw [show (13 : Int32) - 11 = 2 by decide]
  refine g_callV1P (C_settingAt2 (l := l) hlt hC1 hR) rfl ft0 rfl mc_X0_settingAt ml_X4_104 mi_X0_settingAt ms_X0_settingAt in_X0 (okc_X0_settingAt (by decide)) dX4_numberOfAll_180 (by assumption) (cat_le (Nat.le_of_ble_eq_true rfl)) ?_
  refine pw_iret dX4_numberOfAll_183 rfl ?_
  exact ⟨rfl, rfl, rfl, rfl, rfl⟩
set_option maxHeartbeats 4000000 in
set_option maxRecDepth 100000 in
theorem C_numAll_14 {l : Launch} (hlt : l.stackTraces = false) {im : TI} {rm : TP} {lm : TL} {S : CS} (hT : RT rm) (hC : RC rm) (hR : CR 1 S im) {n : Nat} (hn : im 79 1 = nI n) : Con l m_X4_numberOfAll 2 0 0 NN [pv (some 0), .int (14)] im rm lm (QP (.int (alS S n 14)) im rm lm) noX := by
  have hk0 := kdT
  have hC1 := c1 hC
  have hk1 := hC1.1
  obtain ⟨t0, t1, t2, t4, t5, t7, t8⟩ := id hT
  have hk79 := kd79
  refine Con.ofN (k := 0) (L0 := [some (pv (some 0)), some (.int (14))]) hlt (by decide +kernel) rfl rfl (by rw [en1 pv_cat, en1 rfl, en0]; exact Nat.le_of_ble_eq_true rfl) (by rw [en1 pv_cat, en1 rfl, en0]; rfl) ?_
  refine t_iload1 dX4_numberOfAll_0 ?_
  refine pw_table (off := 163) 164 dX4_numberOfAll_1 (by decide) (by decide) (by decide) (by decide) ?_
  refine t_aload0 dX4_numberOfAll_164 ?_
  refine g_getr ft4 fl_X4_29 (j := 4) (by decide) dX4_numberOfAll_165 (by assumption) (by assumption) ?_
  refine g_geti ft1 fl_X4_175 (j := 1) (by decide) dX4_numberOfAll_168 (by assumption) ?_
  refine pw_iret dX4_numberOfAll_171 rfl ?_
  exact ⟨rfl, by rw [hn]; rfl, rfl, rfl, rfl⟩
theorem C_numAll {l : Launch} (hlt : l.stackTraces = false) {im : TI} {rm : TP} {lm : TL} {S : CS} (hT : RT rm) (hC : RC rm) (hR : CR 1 S im) {n : Nat} (hn : im 79 1 = nI n) {v : Nat} {x : Int32} (hv : v ≤ 14) (hx : x = nI v) : Con l m_X4_numberOfAll 2 0 0 NN [pv (some 0), .int x] im rm lm (QP (.int (alS S n v)) im rm lm) noX := by
  subst hx
  rcases le_15.mp hv with rfl | rfl | rfl | rfl | rfl | rfl | rfl | rfl | rfl | rfl | rfl | rfl | rfl | rfl | rfl
  · exact C_numAll_0 hlt hT hC hR hn
  · exact C_numAll_1 hlt hT hC hR hn
  · exact C_numAll_2 hlt hT hC hR hn
  · exact C_numAll_3 hlt hT hC hR hn
  · exact C_numAll_4 hlt hT hC hR hn
  · exact C_numAll_5 hlt hT hC hR hn
  · exact C_numAll_6 hlt hT hC hR hn
  · exact C_numAll_7 hlt hT hC hR hn
  · exact C_numAll_8 hlt hT hC hR hn
  · exact C_numAll_9 hlt hT hC hR hn
  · exact C_numAll_10 hlt hT hC hR hn
  · exact C_numAll_11 hlt hT hC hR hn
  · exact C_numAll_12 hlt hT hC hR hn
  · exact C_numAll_13 hlt hT hC hR hn
  · exact C_numAll_14 hlt hT hC hR hn

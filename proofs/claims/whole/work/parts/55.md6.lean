/-! TideMillsModel: numbers that are told -/
set_option maxHeartbeats 4000000 in
set_option maxRecDepth 100000 in
theorem M_sum {l : Launch} (hlt : l.stackTraces = false) {im : TI} {rm : TP} {lm : TL} {i0 : TI} {S : CS} (hM : MM rm) (hR : MS i0 S im) {w : Nat} (hw : w < 10) : Con l m_X5_sum 1 0 0 NN [pv (some 240), .int (nI w)] im rm lm (QP (.int (smN (fun m => S.2.1 m w) 5 0 0)) im rm lm) noX := by
  have hk0 := kdM
  have hks := kds
  obtain ⟨r0, r1, r3, r5, r6, r11⟩ := id hM
  refine Con.ofN (k := 2) (L0 := [some (pv (some 240)), some (.int (nI w)), none, none]) hlt (by decide +kernel) rfl rfl (by rw [en1 pv_cat, en1 rfl, en0]; exact Nat.le_of_ble_eq_true rfl) (by rw [en1 pv_cat, en1 rfl, en0]; rfl) ?_
  have loop : ∀ (n j : Nat) (x : Int32), j + n = 5 → smN (fun m => S.2.1 m w) 5 0 0 = smN (fun m => S.2.1 m w) n j x → PW l m_X5_sum 1 0 0 NN 4 [some (pv (some 240)), some (.int (nI w)), some (.int x), some (.int (nI j))] [] im rm lm (QP (.int (smN (fun m => S.2.1 m w) 5 0 0)) im rm lm) noX := by
    intro n
    induction n using Nat.strongRecOn with
    | _ n ih =>
      intro j x hj hf
      refine t_iload3 dX5_sum_4 ?_
      refine pw_iconst (5) dX5_sum_5 (by decide) ?_
      refine pw_icmp_ge 24 dX5_sum_6 (by decide) (fun zc6 => ?_) (fun zc6 => ?_)
      · have zj : 5 ≤ j := (nI_leI (a := 5) (by decide) (by omega)).mp zc6
        have zn : n = 0 := by omega
        subst zn
        refine t_iload2 dX5_sum_24 ?_
        refine pw_iret dX5_sum_25 rfl ?_
        exact ⟨rfl, by rw [hf]; rfl, rfl, rfl, rfl⟩
      · have zj : j < 5 := (nI_ltI (b := 5) (by omega) (by decide)).mp (Int32.not_le.mp zc6)
        obtain ⟨n', rfl⟩ : ∃ n', n = n' + 1 := ⟨n - 1, by omega⟩
        refine t_iload2 dX5_sum_9 ?_
        refine t_aload0 dX5_sum_10 ?_
        refine t_iload3 dX5_sum_11 ?_
        refine t_iload1 dX5_sum_12 ?_
        refine g_callV2P (M_of (l := l) hlt hM hR (m := j) (w := w) zj hw) rfl ft5 rfl mc_X5_of ml_X5_47 mi_X5_of ms_X5_of in_X5 (okc_X5_of (by decide)) dX5_sum_13 (by assumption) (cat_le (Nat.le_of_ble_eq_true rfl)) ?_
        refine pw_iadd dX5_sum_16 ?_
        refine t_istore2 dX5_sum_17 (by decide) okp_i ?_
        refine t_iinc3 (1) dX5_sum_18 (by decide) (by decide) okp_i ?_
        refine pw_goto 4 dX5_sum_21 (by decide) ?_
        rw [nI_1]
        exact ih n' (by omega) (j + 1) _ (by omega) (by rw [hf, smN])
  refine pw_iconst (0) dX5_sum_0 (by decide) ?_
  refine t_istore2 dX5_sum_1 (by decide) okp_i ?_
  refine pw_iconst (0) dX5_sum_2 (by decide) ?_
  refine t_istore3 dX5_sum_3 (by decide) okp_i ?_
  exact loop 5 0 0 rfl rfl
set_option maxHeartbeats 4000000 in
set_option maxRecDepth 100000 in
theorem M_millTold_0 {l : Launch} (hlt : l.stackTraces = false) {im : TI} {rm : TP} {lm : TL} {i0 : TI} {S : CS} (hM : MM rm) (hR : MS i0 S im) (hJ : CJ S) {m : Nat} (hm : m < 5) : Con l m_X5_millTold 2 0 0 NN [pv (some 240), .int (nI m), .int (0)] im rm lm (QP (.int (mlS S m 0)) im rm lm) noX := by
  have hk0 := kdM
  have hks := kds
  obtain ⟨r0, r1, r3, r5, r6, r11⟩ := id hM
  refine Con.ofN (k := 0) (L0 := [some (pv (some 240)), some (.int (nI m)), some (.int (0))]) hlt (by decide +kernel) rfl rfl (by rw [en1 pv_cat, en1 rfl, en1 rfl, en0]; exact Nat.le_of_ble_eq_true rfl) (by rw [en1 pv_cat, en1 rfl, en1 rfl, en0]; rfl) ?_
  refine t_iload2 dX5_millTold_0 ?_
  refine pw_tableD 66 dX5_millTold_1 (by decide) (by decide) ?_
  refine t_aload0 dX5_millTold_66 ?_
  refine t_iload1 dX5_millTold_67 ?_
  refine t_iload2 dX5_millTold_68 ?_
  refine g_callV2P (M_of (l := l) hlt hM hR (m := m) (w := 0) hm (by decide)) rfl ft5 rfl mc_X5_of ml_X5_47 mi_X5_of ms_X5_of in_X5 (okc_X5_of (by decide)) dX5_millTold_69 (by assumption) (cat_le (Nat.le_of_ble_eq_true rfl)) ?_
  refine pw_iret dX5_millTold_72 rfl ?_
  exact ⟨rfl, rfl, rfl, rfl, rfl⟩
set_option maxHeartbeats 4000000 in
set_option maxRecDepth 100000 in
theorem M_millTold_1 {l : Launch} (hlt : l.stackTraces = false) {im : TI} {rm : TP} {lm : TL} {i0 : TI} {S : CS} (hM : MM rm) (hR : MS i0 S im) (hJ : CJ S) {m : Nat} (hm : m < 5) : Con l m_X5_millTold 2 0 0 NN [pv (some 240), .int (nI m), .int (1)] im rm lm (QP (.int (mlS S m 1)) im rm lm) noX := by
  have hk0 := kdM
  have hks := kds
  obtain ⟨r0, r1, r3, r5, r6, r11⟩ := id hM
  refine Con.ofN (k := 0) (L0 := [some (pv (some 240)), some (.int (nI m)), some (.int (1))]) hlt (by decide +kernel) rfl rfl (by rw [en1 pv_cat, en1 rfl, en1 rfl, en0]; exact Nat.le_of_ble_eq_true rfl) (by rw [en1 pv_cat, en1 rfl, en1 rfl, en0]; rfl) ?_
  refine t_iload2 dX5_millTold_0 ?_
  refine pw_tableD 66 dX5_millTold_1 (by decide) (by decide) ?_
  refine t_aload0 dX5_millTold_66 ?_
  refine t_iload1 dX5_millTold_67 ?_
  refine t_iload2 dX5_millTold_68 ?_
  refine g_callV2P (M_of (l := l) hlt hM hR (m := m) (w := 1) hm (by decide)) rfl ft5 rfl mc_X5_of ml_X5_47 mi_X5_of ms_X5_of in_X5 (okc_X5_of (by decide)) dX5_millTold_69 (by assumption) (cat_le (Nat.le_of_ble_eq_true rfl)) ?_
  refine pw_iret dX5_millTold_72 rfl ?_
  exact ⟨rfl, rfl, rfl, rfl, rfl⟩
set_option maxHeartbeats 4000000 in
set_option maxRecDepth 100000 in
theorem M_millTold_2 {l : Launch} (hlt : l.stackTraces = false) {im : TI} {rm : TP} {lm : TL} {i0 : TI} {S : CS} (hM : MM rm) (hR : MS i0 S im) (hJ : CJ S) {m : Nat} (hm : m < 5) : Con l m_X5_millTold 2 0 0 NN [pv (some 240), .int (nI m), .int (2)] im rm lm (QP (.int (mlS S m 2)) im rm lm) noX := by
  have hk0 := kdM
  have hks := kds
  obtain ⟨r0, r1, r3, r5, r6, r11⟩ := id hM
  refine Con.ofN (k := 0) (L0 := [some (pv (some 240)), some (.int (nI m)), some (.int (2))]) hlt (by decide +kernel) rfl rfl (by rw [en1 pv_cat, en1 rfl, en1 rfl, en0]; exact Nat.le_of_ble_eq_true rfl) (by rw [en1 pv_cat, en1 rfl, en1 rfl, en0]; rfl) ?_
  refine t_iload2 dX5_millTold_0 ?_
  refine pw_tableD 66 dX5_millTold_1 (by decide) (by decide) ?_
  refine t_aload0 dX5_millTold_66 ?_
  refine t_iload1 dX5_millTold_67 ?_
  refine t_iload2 dX5_millTold_68 ?_
  refine g_callV2P (M_of (l := l) hlt hM hR (m := m) (w := 2) hm (by decide)) rfl ft5 rfl mc_X5_of ml_X5_47 mi_X5_of ms_X5_of in_X5 (okc_X5_of (by decide)) dX5_millTold_69 (by assumption) (cat_le (Nat.le_of_ble_eq_true rfl)) ?_
  refine pw_iret dX5_millTold_72 rfl ?_
  exact ⟨rfl, rfl, rfl, rfl, rfl⟩
set_option maxHeartbeats 4000000 in
set_option maxRecDepth 100000 in
theorem M_millTold_3 {l : Launch} (hlt : l.stackTraces = false) {im : TI} {rm : TP} {lm : TL} {i0 : TI} {S : CS} (hM : MM rm) (hR : MS i0 S im) (hJ : CJ S) {m : Nat} (hm : m < 5) : Con l m_X5_millTold 2 0 0 NN [pv (some 240), .int (nI m), .int (3)] im rm lm (QP (.int (mlS S m 3)) im rm lm) noX := by
  have hk0 := kdM
  have hks := kds
  obtain ⟨r0, r1, r3, r5, r6, r11⟩ := id hM
  refine Con.ofN (k := 0) (L0 := [some (pv (some 240)), some (.int (nI m)), some (.int (3))]) hlt (by decide +kernel) rfl rfl (by rw [en1 pv_cat, en1 rfl, en1 rfl, en0]; exact Nat.le_of_ble_eq_true rfl) (by rw [en1 pv_cat, en1 rfl, en1 rfl, en0]; rfl) ?_
  refine t_iload2 dX5_millTold_0 ?_
  refine pw_tableD 66 dX5_millTold_1 (by decide) (by decide) ?_
  refine t_aload0 dX5_millTold_66 ?_
  refine t_iload1 dX5_millTold_67 ?_
  refine t_iload2 dX5_millTold_68 ?_
  refine g_callV2P (M_of (l := l) hlt hM hR (m := m) (w := 3) hm (by decide)) rfl ft5 rfl mc_X5_of ml_X5_47 mi_X5_of ms_X5_of in_X5 (okc_X5_of (by decide)) dX5_millTold_69 (by assumption) (cat_le (Nat.le_of_ble_eq_true rfl)) ?_
  refine pw_iret dX5_millTold_72 rfl ?_
  exact ⟨rfl, rfl, rfl, rfl, rfl⟩
set_option maxHeartbeats 4000000 in
set_option maxRecDepth 100000 in
theorem M_millTold_4 {l : Launch} (hlt : l.stackTraces = false) {im : TI} {rm : TP} {lm : TL} {i0 : TI} {S : CS} (hM : MM rm) (hR : MS i0 S im) (hJ : CJ S) {m : Nat} (hm : m < 5) : Con l m_X5_millTold 2 0 0 NN [pv (some 240), .int (nI m), .int (4)] im rm lm (QP (.int (mlS S m 4)) im rm lm) noX := by
  have hk0 := kdM
  have hks := kds
  obtain ⟨r0, r1, r3, r5, r6, r11⟩ := id hM
  refine Con.ofN (k := 0) (L0 := [some (pv (some 240)), some (.int (nI m)), some (.int (4))]) hlt (by decide +kernel) rfl rfl (by rw [en1 pv_cat, en1 rfl, en1 rfl, en0]; exact Nat.le_of_ble_eq_true rfl) (by rw [en1 pv_cat, en1 rfl, en1 rfl, en0]; rfl) ?_
  refine t_iload2 dX5_millTold_0 ?_
  refine pw_tableD 66 dX5_millTold_1 (by decide) (by decide) ?_
  refine t_aload0 dX5_millTold_66 ?_
  refine t_iload1 dX5_millTold_67 ?_
  refine t_iload2 dX5_millTold_68 ?_
  refine g_callV2P (M_of (l := l) hlt hM hR (m := m) (w := 4) hm (by decide)) rfl ft5 rfl mc_X5_of ml_X5_47 mi_X5_of ms_X5_of in_X5 (okc_X5_of (by decide)) dX5_millTold_69 (by assumption) (cat_le (Nat.le_of_ble_eq_true rfl)) ?_
  refine pw_iret dX5_millTold_72 rfl ?_
  exact ⟨rfl, rfl, rfl, rfl, rfl⟩
set_option maxHeartbeats 4000000 in
set_option maxRecDepth 100000 in
theorem M_millTold_5 {l : Launch} (hlt : l.stackTraces = false) {im : TI} {rm : TP} {lm : TL} {i0 : TI} {S : CS} (hM : MM rm) (hR : MS i0 S im) (hJ : CJ S) {m : Nat} (hm : m < 5) : Con l m_X5_millTold 2 0 0 NN [pv (some 240), .int (nI m), .int (5)] im rm lm (QP (.int (mlS S m 5)) im rm lm) noX := by
  have hk0 := kdM
  have hks := kds
  obtain ⟨r0, r1, r3, r5, r6, r11⟩ := id hM
  refine Con.ofN (k := 0) (L0 := [some (pv (some 240)), some (.int (nI m)), some (.int (5))]) hlt (by decide +kernel) rfl rfl (by rw [en1 pv_cat, en1 rfl, en1 rfl, en0]; exact Nat.le_of_ble_eq_true rfl) (by rw [en1 pv_cat, en1 rfl, en1 rfl, en0]; rfl) ?_
  refine t_iload2 dX5_millTold_0 ?_
  refine pw_tableD 66 dX5_millTold_1 (by decide) (by decide) ?_
  refine t_aload0 dX5_millTold_66 ?_
  refine t_iload1 dX5_millTold_67 ?_
  refine t_iload2 dX5_millTold_68 ?_
  refine g_callV2P (M_of (l := l) hlt hM hR (m := m) (w := 5) hm (by decide)) rfl ft5 rfl mc_X5_of ml_X5_47 mi_X5_of ms_X5_of in_X5 (okc_X5_of (by decide)) dX5_millTold_69 (by assumption) (cat_le (Nat.le_of_ble_eq_true rfl)) ?_
  refine pw_iret dX5_millTold_72 rfl ?_
  exact ⟨rfl, rfl, rfl, rfl, rfl⟩
set_option maxHeartbeats 4000000 in
set_option maxRecDepth 100000 in
theorem M_millTold_6 {l : Launch} (hlt : l.stackTraces = false) {im : TI} {rm : TP} {lm : TL} {i0 : TI} {S : CS} (hM : MM rm) (hR : MS i0 S im) (hJ : CJ S) {m : Nat} (hm : m < 5) : Con l m_X5_millTold 2 0 0 NN [pv (some 240), .int (nI m), .int (6)] im rm lm (QP (.int (mlS S m 6)) im rm lm) noX := by
  have hk0 := kdM
  have hks := kds
  obtain ⟨r0, r1, r3, r5, r6, r11⟩ := id hM
  refine Con.ofN (k := 0) (L0 := [some (pv (some 240)), some (.int (nI m)), some (.int (6))]) hlt (by decide +kernel) rfl rfl (by rw [en1 pv_cat, en1 rfl, en1 rfl, en0]; exact Nat.le_of_ble_eq_true rfl) (by rw [en1 pv_cat, en1 rfl, en1 rfl, en0]; rfl) ?_
  refine t_iload2 dX5_millTold_0 ?_
  refine pw_tableD 66 dX5_millTold_1 (by decide) (by decide) ?_
  refine t_aload0 dX5_millTold_66 ?_
  refine t_iload1 dX5_millTold_67 ?_
  refine t_iload2 dX5_millTold_68 ?_
  refine g_callV2P (M_of (l := l) hlt hM hR (m := m) (w := 6) hm (by decide)) rfl ft5 rfl mc_X5_of ml_X5_47 mi_X5_of ms_X5_of in_X5 (okc_X5_of (by decide)) dX5_millTold_69 (by assumption) (cat_le (Nat.le_of_ble_eq_true rfl)) ?_
  refine pw_iret dX5_millTold_72 rfl ?_
  exact ⟨rfl, rfl, rfl, rfl, rfl⟩
set_option maxHeartbeats 4000000 in
set_option maxRecDepth 100000 in
theorem M_millTold_7 {l : Launch} (hlt : l.stackTraces = false) {im : TI} {rm : TP} {lm : TL} {i0 : TI} {S : CS} (hM : MM rm) (hR : MS i0 S im) (hJ : CJ S) {m : Nat} (hm : m < 5) : Con l m_X5_millTold 2 0 0 NN [pv (some 240), .int (nI m), .int (7)] im rm lm (QP (.int (mlS S m 7)) im rm lm) noX := by
  have hk0 := kdM
  have hks := kds
  obtain ⟨r0, r1, r3, r5, r6, r11⟩ := id hM
  refine Con.ofN (k := 0) (L0 := [some (pv (some 240)), some (.int (nI m)), some (.int (7))]) hlt (by decide +kernel) rfl rfl (by rw [en1 pv_cat, en1 rfl, en1 rfl, en0]; exact Nat.le_of_ble_eq_true rfl) (by rw [en1 pv_cat, en1 rfl, en1 rfl, en0]; rfl) ?_
  refine t_iload2 dX5_millTold_0 ?_
  refine pw_table (off := 31) 32 dX5_millTold_1 (by decide) (by decide) (by decide) (by decide) ?_
  refine t_aload0 dX5_millTold_32 ?_
  refine t_iload1 dX5_millTold_33 ?_
  refine pw_bipush (9) dX5_millTold_34 (by decide) ?_
  refine g_callV2P (M_of (l := l) hlt hM hR (m := m) (w := 9) hm (by decide)) rfl ft5 rfl mc_X5_of ml_X5_47 mi_X5_of ms_X5_of in_X5 (okc_X5_of (by decide)) dX5_millTold_36 (by assumption) (cat_le (Nat.le_of_ble_eq_true rfl)) ?_
  refine pw_iret dX5_millTold_39 rfl ?_
  exact ⟨rfl, rfl, rfl, rfl, rfl⟩
set_option maxHeartbeats 4000000 in
set_option maxRecDepth 100000 in
theorem M_millTold_8 {l : Launch} (hlt : l.stackTraces = false) {im : TI} {rm : TP} {lm : TL} {i0 : TI} {S : CS} (hM : MM rm) (hR : MS i0 S im) (hJ : CJ S) {m : Nat} (hm : m < 5) : Con l m_X5_millTold 2 0 0 NN [pv (some 240), .int (nI m), .int (8)] im rm lm (QP (.int (mlS S m 8)) im rm lm) noX := by
  have hk0 := kdM
  have hks := kds
  obtain ⟨r0, r1, r3, r5, r6, r11⟩ := id hM
  refine Con.ofN (k := 0) (L0 := [some (pv (some 240)), some (.int (nI m)), some (.int (8))]) hlt (by decide +kernel) rfl rfl (by rw [en1 pv_cat, en1 rfl, en1 rfl, en0]; exact Nat.le_of_ble_eq_true rfl) (by rw [en1 pv_cat, en1 rfl, en1 rfl, en0]; rfl) ?_
  refine t_iload2 dX5_millTold_0 ?_
  refine pw_table (off := 39) 40 dX5_millTold_1 (by decide) (by decide) (by decide) (by decide) ?_
  refine t_aload0 dX5_millTold_40 ?_
  refine t_iload1 dX5_millTold_41 ?_
  refine g_callV1P (M_head (l := l) hlt hM hR hJ (m := m) hm) rfl ft5 rfl mc_X5_head ml_X5_64 mi_X5_head ms_X5_head in_X5 (okc_X5_head (by decide)) dX5_millTold_42 (by assumption) (cat_le (Nat.le_of_ble_eq_true rfl)) ?_
  refine pw_sipush (1000) dX5_millTold_45 (by decide) ?_
  refine pw_iadd dX5_millTold_48 ?_
  refine pw_iret dX5_millTold_49 rfl ?_
  exact ⟨rfl, rfl, rfl, rfl, rfl⟩
set_option maxHeartbeats 4000000 in
set_option maxRecDepth 100000 in
theorem M_millTold_9 {l : Launch} (hlt : l.stackTraces = false) {im : TI} {rm : TP} {lm : TL} {i0 : TI} {S : CS} (hM : MM rm) (hR : MS i0 S im) (hJ : CJ S) {m : Nat} (hm : m < 5) : Con l m_X5_millTold 2 0 0 NN [pv (some 240), .int (nI m), .int (9)] im rm lm (QP (.int (mlS S m 9)) im rm lm) noX := by
  have hk0 := kdM
  have hks := kds
  obtain ⟨r0, r1, r3, r5, r6, r11⟩ := id hM
  refine Con.ofN (k := 0) (L0 := [some (pv (some 240)), some (.int (nI m)), some (.int (9))]) hlt (by decide +kernel) rfl rfl (by rw [en1 pv_cat, en1 rfl, en1 rfl, en0]; exact Nat.le_of_ble_eq_true rfl) (by rw [en1 pv_cat, en1 rfl, en1 rfl, en0]; rfl) ?_
  refine t_iload2 dX5_millTold_0 ?_
  refine pw_table (off := 49) 50 dX5_millTold_1 (by decide) (by decide) (by decide) (by decide) ?_
  refine t_aload0 dX5_millTold_50 ?_
  refine t_iload1 dX5_millTold_51 ?_
  refine pw_bipush (7) dX5_millTold_52 (by decide) ?_
  refine g_callV2P (M_of (l := l) hlt hM hR (m := m) (w := 7) hm (by decide)) rfl ft5 rfl mc_X5_of ml_X5_47 mi_X5_of ms_X5_of in_X5 (okc_X5_of (by decide)) dX5_millTold_54 (by assumption) (cat_le (Nat.le_of_ble_eq_true rfl)) ?_
  refine pw_iret dX5_millTold_57 rfl ?_
  exact ⟨rfl, rfl, rfl, rfl, rfl⟩
set_option maxHeartbeats 4000000 in
set_option maxRecDepth 100000 in
theorem M_millTold_10 {l : Launch} (hlt : l.stackTraces = false) {im : TI} {rm : TP} {lm : TL} {i0 : TI} {S : CS} (hM : MM rm) (hR : MS i0 S im) (hJ : CJ S) {m : Nat} (hm : m < 5) : Con l m_X5_millTold 2 0 0 NN [pv (some 240), .int (nI m), .int (10)] im rm lm (QP (.int (mlS S m 10)) im rm lm) noX := by
  have hk0 := kdM
  have hks := kds
  obtain ⟨r0, r1, r3, r5, r6, r11⟩ := id hM
  refine Con.ofN (k := 0) (L0 := [some (pv (some 240)), some (.int (nI m)), some (.int (10))]) hlt (by decide +kernel) rfl rfl (by rw [en1 pv_cat, en1 rfl, en1 rfl, en0]; exact Nat.le_of_ble_eq_true rfl) (by rw [en1 pv_cat, en1 rfl, en1 rfl, en0]; rfl) ?_
  refine t_iload2 dX5_millTold_0 ?_
  refine pw_table (off := 57) 58 dX5_millTold_1 (by decide) (by decide) (by decide) (by decide) ?_
  refine t_aload0 dX5_millTold_58 ?_
  refine t_iload1 dX5_millTold_59 ?_
  refine pw_bipush (8) dX5_millTold_60 (by decide) ?_
  refine g_callV2P (M_of (l := l) hlt hM hR (m := m) (w := 8) hm (by decide)) rfl ft5 rfl mc_X5_of ml_X5_47 mi_X5_of ms_X5_of in_X5 (okc_X5_of (by decide)) dX5_millTold_62 (by assumption) (cat_le (Nat.le_of_ble_eq_true rfl)) ?_
  refine pw_iret dX5_millTold_65 rfl ?_
  exact ⟨rfl, rfl, rfl, rfl, rfl⟩
theorem M_millTold {l : Launch} (hlt : l.stackTraces = false) {im : TI} {rm : TP} {lm : TL} {i0 : TI} {S : CS} (hM : MM rm) (hR : MS i0 S im) (hJ : CJ S) {m : Nat} (hm : m < 5) {v : Nat} (hv : v ≤ 10) : Con l m_X5_millTold 2 0 0 NN [pv (some 240), .int (nI m), .int (nI v)] im rm lm (QP (.int (mlS S m v)) im rm lm) noX := by
  rcases le_11.mp hv with rfl | rfl | rfl | rfl | rfl | rfl | rfl | rfl | rfl | rfl | rfl
  · exact M_millTold_0 hlt hM hR hJ hm
  · exact M_millTold_1 hlt hM hR hJ hm
  · exact M_millTold_2 hlt hM hR hJ hm
  · exact M_millTold_3 hlt hM hR hJ hm
  · exact M_millTold_4 hlt hM hR hJ hm
  · exact M_millTold_5 hlt hM hR hJ hm
  · exact M_millTold_6 hlt hM hR hJ hm
  · exact M_millTold_7 hlt hM hR hJ hm
  · exact M_millTold_8 hlt hM hR hJ hm
  · exact M_millTold_9 hlt hM hR hJ hm
  · exact M_millTold_10 hlt hM hR hJ hm
def stS (S : CS) (m p w : Nat) : Int32 := if p < cnt S m then S.2.2 m p w else -1
theorem lt_cnt {S : CS} {m p : Nat} (hI : CI S) (hm : m < 5) (hp : p < 2 ^ 31) : nI p < S.2.1 m 9 ↔ p < cnt S m := by
  obtain ⟨h1, h2⟩ := hI.c hm
  rw [h2]
  exact nI_ltI hp (by omega)
set_option maxHeartbeats 4000000 in
set_option maxRecDepth 100000 in
theorem M_sackTold {l : Launch} (hlt : l.stackTraces = false) {im : TI} {rm : TP} {lm : TL} {i0 : TI} {S : CS} (hM : MM rm) (hR : MS i0 S im) (hI : CI S) {m p w : Nat} (hm : m < 5) (hp : p < 2 ^ 31) (hw : w < 4) : Con l m_X5_sackTold 1 0 0 NN [pv (some 240), .int (nI m), .int (nI p), .int (nI w)] im rm lm (QP (.int (stS S m p w)) im rm lm) noX := by
  have hk0 := kdM
  have hks := kds
  obtain ⟨r0, r1, r3, r5, r6, r11⟩ := id hM
  refine Con.ofN (k := 0) (L0 := [some (pv (some 240)), some (.int (nI m)), some (.int (nI p)), some (.int (nI w))]) hlt (by decide +kernel) rfl rfl (by rw [en1 pv_cat, en1 rfl, en1 rfl, en1 rfl, en0]; exact Nat.le_of_ble_eq_true rfl) (by rw [en1 pv_cat, en1 rfl, en1 rfl, en1 rfl, en0]; rfl) ?_
  refine t_iload2 dX5_sackTold_0 ?_
  refine t_aload0 dX5_sackTold_1 ?_
  refine t_iload1 dX5_sackTold_2 ?_
  refine pw_bipush (9) dX5_sackTold_3 (by decide) ?_
  refine g_callV2P (M_of (l := l) hlt hM hR (m := m) (w := 9) hm (by decide)) rfl ft5 rfl mc_X5_of ml_X5_47 mi_X5_of ms_X5_of in_X5 (okc_X5_of (by decide)) dX5_sackTold_5 (by assumption) (cat_le (Nat.le_of_ble_eq_true rfl)) ?_
  refine pw_icmp_ge 27 dX5_sackTold_8 (by decide) (fun zc8 => ?_) (fun zc8 => ?_)
  · refine pw_iconst (-1) dX5_sackTold_27 (by decide) ?_
    refine pw_iret dX5_sackTold_28 rfl ?_
    exact ⟨rfl, by rw [stS, if_neg (fun z => Int32.not_le.mpr ((lt_cnt hI hm hp).mpr z) zc8)], rfl, rfl, rfl⟩
  · have zp := (lt_cnt hI hm hp).mp (Int32.not_le.mp zc8)
    have hp6 : p < 6 := Nat.lt_of_lt_of_le zp (hI.c hm).1
    refine t_aload0 dX5_sackTold_11 ?_
    refine g_getr ft5 fl_X5_7 (j := 0) (by decide) dX5_sackTold_12 (by assumption) (by assumption) ?_
    refine t_aload0 dX5_sackTold_15 ?_
    refine t_iload1 dX5_sackTold_16 ?_
    refine t_iload2 dX5_sackTold_17 ?_
    refine g_callV2P (M_sackRow (l := l) hlt (m := m) (p := p)) rfl ft5 rfl mc_X5_sackRow ml_X5_51 mi_X5_sackRow ms_X5_sackRow in_X5 (okc_X5_sackRow (by decide)) dX5_sackTold_18 (by assumption) (cat_le (Nat.le_of_ble_eq_true rfl)) ?_
    refine t_iload3 dX5_sackTold_21 ?_
    refine pw_iadd dX5_sackTold_22 ?_
    refine m_ldK (m := m) (p := p) (k := w) dX5_sackTold_23 hR (nI_add _ _) hm hp6 hw ?_
    refine pw_goto 28 dX5_sackTold_24 (by decide) ?_
    refine pw_iret dX5_sackTold_28 rfl ?_
    exact ⟨rfl, by rw [stS, if_pos zp], rfl, rfl, rfl⟩
set_option maxHeartbeats 4000000 in
set_option maxRecDepth 100000 in
theorem M_countTold_0 {l : Launch} (hlt : l.stackTraces = false) {im : TI} {rm : TP} {lm : TL} {i0 : TI} {S : CS} (hM : MM rm) (hR : MS i0 S im) {n : Nat} (hn : im 240 2 = nI n) : Con l m_X5_countTold 2 0 0 NN [pv (some 240), .int (0)] im rm lm (QP (.int (alS S n 0)) im rm lm) noX := by
  have hk0 := kdM
  have hks := kds
  obtain ⟨r0, r1, r3, r5, r6, r11⟩ := id hM
  refine Con.ofN (k := 0) (L0 := [some (pv (some 240)), some (.int (0))]) hlt (by decide +kernel) rfl rfl (by rw [en1 pv_cat, en1 rfl, en0]; exact Nat.le_of_ble_eq_true rfl) (by rw [en1 pv_cat, en1 rfl, en0]; rfl) ?_
  refine t_iload1 dX5_countTold_0 ?_
  refine pw_table (off := 71) 72 dX5_countTold_1 (by decide) (by decide) (by decide) (by decide) ?_
  refine t_aload0 dX5_countTold_72 ?_
  refine g_getr ft5 fl_X5_7 (j := 0) (by decide) dX5_countTold_73 (by assumption) (by assumption) ?_
  refine pw_iconst (0) dX5_countTold_76 (by decide) ?_
  refine m_ldG (j := 0) dX5_countTold_77 hR rfl (by decide) ?_
  refine pw_iret dX5_countTold_78 rfl ?_
  exact ⟨rfl, rfl, rfl, rfl, rfl⟩
set_option maxHeartbeats 4000000 in
set_option maxRecDepth 100000 in
theorem M_countTold_1 {l : Launch} (hlt : l.stackTraces = false) {im : TI} {rm : TP} {lm : TL} {i0 : TI} {S : CS} (hM : MM rm) (hR : MS i0 S im) {n : Nat} (hn : im 240 2 = nI n) : Con l m_X5_countTold 2 0 0 NN [pv (some 240), .int (1)] im rm lm (QP (.int (alS S n 1)) im rm lm) noX := by
  have hk0 := kdM
  have hks := kds
  obtain ⟨r0, r1, r3, r5, r6, r11⟩ := id hM
  refine Con.ofN (k := 0) (L0 := [some (pv (some 240)), some (.int (1))]) hlt (by decide +kernel) rfl rfl (by rw [en1 pv_cat, en1 rfl, en0]; exact Nat.le_of_ble_eq_true rfl) (by rw [en1 pv_cat, en1 rfl, en0]; rfl) ?_
  refine t_iload1 dX5_countTold_0 ?_
  refine pw_table (off := 78) 79 dX5_countTold_1 (by decide) (by decide) (by decide) (by decide) ?_
  refine t_aload0 dX5_countTold_79 ?_
  refine g_getr ft5 fl_X5_7 (j := 0) (by decide) dX5_countTold_80 (by assumption) (by assumption) ?_
  refine pw_iconst (1) dX5_countTold_83 (by decide) ?_
  refine m_ldG (j := 1) dX5_countTold_84 hR rfl (by decide) ?_
  refine pw_iconst (1) dX5_countTold_85 (by decide) ?_
  refine pw_isub dX5_countTold_86 ?_
  refine pw_iret dX5_countTold_87 rfl ?_
  exact ⟨rfl, rfl, rfl, rfl, rfl⟩
set_option maxHeartbeats 4000000 in
set_option maxRecDepth 100000 in
theorem M_countTold_2 {l : Launch} (hlt : l.stackTraces = false) {im : TI} {rm : TP} {lm : TL} {i0 : TI} {S : CS} (hM : MM rm) (hR : MS i0 S im) {n : Nat} (hn : im 240 2 = nI n) : Con l m_X5_countTold 2 0 0 NN [pv (some 240), .int (2)] im rm lm (QP (.int (alS S n 2)) im rm lm) noX := by
  have hk0 := kdM
  have hks := kds
  obtain ⟨r0, r1, r3, r5, r6, r11⟩ := id hM
  refine Con.ofN (k := 0) (L0 := [some (pv (some 240)), some (.int (2))]) hlt (by decide +kernel) rfl rfl (by rw [en1 pv_cat, en1 rfl, en0]; exact Nat.le_of_ble_eq_true rfl) (by rw [en1 pv_cat, en1 rfl, en0]; rfl) ?_
  refine t_iload1 dX5_countTold_0 ?_
  refine pw_table (off := 87) 88 dX5_countTold_1 (by decide) (by decide) (by decide) (by decide) ?_
  refine t_aload0 dX5_countTold_88 ?_
  refine g_getr ft5 fl_X5_7 (j := 0) (by decide) dX5_countTold_89 (by assumption) (by assumption) ?_
  refine t_iload1 dX5_countTold_92 ?_
  refine m_ldG (j := 2) dX5_countTold_93 hR rfl (by decide) ?_
  refine pw_iret dX5_countTold_94 rfl ?_
  exact ⟨rfl, rfl, rfl, rfl, rfl⟩
set_option maxHeartbeats 4000000 in
set_option maxRecDepth 100000 in
theorem M_countTold_3 {l : Launch} (hlt : l.stackTraces = false) {im : TI} {rm : TP} {lm : TL} {i0 : TI} {S : CS} (hM : MM rm) (hR : MS i0 S im) {n : Nat} (hn : im 240 2 = nI n) : Con l m_X5_countTold 2 0 0 NN [pv (some 240), .int (3)] im rm lm (QP (.int (alS S n 3)) im rm lm) noX := by
  have hk0 := kdM
  have hks := kds
  obtain ⟨r0, r1, r3, r5, r6, r11⟩ := id hM
  refine Con.ofN (k := 0) (L0 := [some (pv (some 240)), some (.int (3))]) hlt (by decide +kernel) rfl rfl (by rw [en1 pv_cat, en1 rfl, en0]; exact Nat.le_of_ble_eq_true rfl) (by rw [en1 pv_cat, en1 rfl, en0]; rfl) ?_
  refine t_iload1 dX5_countTold_0 ?_
  refine pw_table (off := 87) 88 dX5_countTold_1 (by decide) (by decide) (by decide) (by decide) ?_
  refine t_aload0 dX5_countTold_88 ?_
  refine g_getr ft5 fl_X5_7 (j := 0) (by decide) dX5_countTold_89 (by assumption) (by assumption) ?_
  refine t_iload1 dX5_countTold_92 ?_
  refine m_ldG (j := 3) dX5_countTold_93 hR rfl (by decide) ?_
  refine pw_iret dX5_countTold_94 rfl ?_
  exact ⟨rfl, rfl, rfl, rfl, rfl⟩
set_option maxHeartbeats 4000000 in
set_option maxRecDepth 100000 in
theorem M_countTold_4 {l : Launch} (hlt : l.stackTraces = false) {im : TI} {rm : TP} {lm : TL} {i0 : TI} {S : CS} (hM : MM rm) (hR : MS i0 S im) {n : Nat} (hn : im 240 2 = nI n) : Con l m_X5_countTold 2 0 0 NN [pv (some 240), .int (4)] im rm lm (QP (.int (alS S n 4)) im rm lm) noX := by
  have hk0 := kdM
  have hks := kds
  obtain ⟨r0, r1, r3, r5, r6, r11⟩ := id hM
  refine Con.ofN (k := 0) (L0 := [some (pv (some 240)), some (.int (4))]) hlt (by decide +kernel) rfl rfl (by rw [en1 pv_cat, en1 rfl, en0]; exact Nat.le_of_ble_eq_true rfl) (by rw [en1 pv_cat, en1 rfl, en0]; rfl) ?_
  refine t_iload1 dX5_countTold_0 ?_
  refine pw_table (off := 87) 88 dX5_countTold_1 (by decide) (by decide) (by decide) (by decide) ?_
  refine t_aload0 dX5_countTold_88 ?_
  refine g_getr ft5 fl_X5_7 (j := 0) (by decide) dX5_countTold_89 (by assumption) (by assumption) ?_
  refine t_iload1 dX5_countTold_92 ?_
  refine m_ldG (j := 4) dX5_countTold_93 hR rfl (by decide) ?_
  refine pw_iret dX5_countTold_94 rfl ?_
  exact ⟨rfl, rfl, rfl, rfl, rfl⟩
set_option maxHeartbeats 4000000 in
set_option maxRecDepth 100000 in
theorem M_countTold_5 {l : Launch} (hlt : l.stackTraces = false) {im : TI} {rm : TP} {lm : TL} {i0 : TI} {S : CS} (hM : MM rm) (hR : MS i0 S im) {n : Nat} (hn : im 240 2 = nI n) : Con l m_X5_countTold 2 0 0 NN [pv (some 240), .int (5)] im rm lm (QP (.int (alS S n 5)) im rm lm) noX := by
  have hk0 := kdM
  have hks := kds
  obtain ⟨r0, r1, r3, r5, r6, r11⟩ := id hM
  refine Con.ofN (k := 0) (L0 := [some (pv (some 240)), some (.int (5))]) hlt (by decide +kernel) rfl rfl (by rw [en1 pv_cat, en1 rfl, en0]; exact Nat.le_of_ble_eq_true rfl) (by rw [en1 pv_cat, en1 rfl, en0]; rfl) ?_
  refine t_iload1 dX5_countTold_0 ?_
  refine pw_table (off := 94) 95 dX5_countTold_1 (by decide) (by decide) (by decide) (by decide) ?_
  refine t_aload0 dX5_countTold_95 ?_
  refine pw_iconst (1) dX5_countTold_96 (by decide) ?_
  refine g_callV1P (M_sum (l := l) hlt hM hR (w := 1) (by decide)) rfl ft5 rfl mc_X5_sum ml_X5_169 mi_X5_sum ms_X5_sum in_X5 (okc_X5_sum (by decide)) dX5_countTold_97 (by assumption) (cat_le (Nat.le_of_ble_eq_true rfl)) ?_
  refine pw_iret dX5_countTold_100 rfl ?_
  exact ⟨rfl, rfl, rfl, rfl, rfl⟩
set_option maxHeartbeats 4000000 in
set_option maxRecDepth 100000 in
theorem M_countTold_6 {l : Launch} (hlt : l.stackTraces = false) {im : TI} {rm : TP} {lm : TL} {i0 : TI} {S : CS} (hM : MM rm) (hR : MS i0 S im) {n : Nat} (hn : im 240 2 = nI n) : Con l m_X5_countTold 2 0 0 NN [pv (some 240), .int (6)] im rm lm (QP (.int (alS S n 6)) im rm lm) noX := by
  have hk0 := kdM
  have hks := kds
  obtain ⟨r0, r1, r3, r5, r6, r11⟩ := id hM
  refine Con.ofN (k := 0) (L0 := [some (pv (some 240)), some (.int (6))]) hlt (by decide +kernel) rfl rfl (by rw [en1 pv_cat, en1 rfl, en0]; exact Nat.le_of_ble_eq_true rfl) (by rw [en1 pv_cat, en1 rfl, en0]; rfl) ?_
  refine t_iload1 dX5_countTold_0 ?_
  refine pw_table (off := 100) 101 dX5_countTold_1 (by decide) (by decide) (by decide) (by decide) ?_
  refine t_aload0 dX5_countTold_101 ?_
  refine g_getr ft5 fl_X5_7 (j := 0) (by decide) dX5_countTold_102 (by assumption) (by assumption) ?_
  refine pw_iconst (5) dX5_countTold_105 (by decide) ?_
  refine m_ldG (j := 5) dX5_countTold_106 hR rfl (by decide) ?_
  refine pw_iret dX5_countTold_107 rfl ?_
  exact ⟨rfl, rfl, rfl, rfl, rfl⟩
set_option maxHeartbeats 4000000 in
set_option maxRecDepth 100000 in
theorem M_countTold_7 {l : Launch} (hlt : l.stackTraces = false) {im : TI} {rm : TP} {lm : TL} {i0 : TI} {S : CS} (hM : MM rm) (hR : MS i0 S im) {n : Nat} (hn : im 240 2 = nI n) : Con l m_X5_countTold 2 0 0 NN [pv (some 240), .int (7)] im rm lm (QP (.int (alS S n 7)) im rm lm) noX := by
  have hk0 := kdM
  have hks := kds
  obtain ⟨r0, r1, r3, r5, r6, r11⟩ := id hM
  refine Con.ofN (k := 0) (L0 := [some (pv (some 240)), some (.int (7))]) hlt (by decide +kernel) rfl rfl (by rw [en1 pv_cat, en1 rfl, en0]; exact Nat.le_of_ble_eq_true rfl) (by rw [en1 pv_cat, en1 rfl, en0]; rfl) ?_
  refine t_iload1 dX5_countTold_0 ?_
  refine pw_table (off := 107) 108 dX5_countTold_1 (by decide) (by decide) (by decide) (by decide) ?_
  refine t_aload0 dX5_countTold_108 ?_
  refine pw_bipush (9) dX5_countTold_109 (by decide) ?_
  refine g_callV1P (M_sum (l := l) hlt hM hR (w := 9) (by decide)) rfl ft5 rfl mc_X5_sum ml_X5_169 mi_X5_sum ms_X5_sum in_X5 (okc_X5_sum (by decide)) dX5_countTold_111 (by assumption) (cat_le (Nat.le_of_ble_eq_true rfl)) ?_
  refine pw_iret dX5_countTold_114 rfl ?_
  exact ⟨rfl, rfl, rfl, rfl, rfl⟩
set_option maxHeartbeats 4000000 in
set_option maxRecDepth 100000 in
theorem M_countTold_8 {l : Launch} (hlt : l.stackTraces = false) {im : TI} {rm : TP} {lm : TL} {i0 : TI} {S : CS} (hM : MM rm) (hR : MS i0 S im) {n : Nat} (hn : im 240 2 = nI n) : Con l m_X5_countTold 2 0 0 NN [pv (some 240), .int (8)] im rm lm (QP (.int (alS S n 8)) im rm lm) noX := by
  have hk0 := kdM
  have hks := kds
  obtain ⟨r0, r1, r3, r5, r6, r11⟩ := id hM
  refine Con.ofN (k := 0) (L0 := [some (pv (some 240)), some (.int (8))]) hlt (by decide +kernel) rfl rfl (by rw [en1 pv_cat, en1 rfl, en0]; exact Nat.le_of_ble_eq_true rfl) (by rw [en1 pv_cat, en1 rfl, en0]; rfl) ?_
  refine t_iload1 dX5_countTold_0 ?_
  refine pw_table (off := 114) 115 dX5_countTold_1 (by decide) (by decide) (by decide) (by decide) ?_
  refine t_aload0 dX5_countTold_115 ?_
  refine g_getr ft5 fl_X5_7 (j := 0) (by decide) dX5_countTold_116 (by assumption) (by assumption) ?_
  refine pw_bipush (6) dX5_countTold_119 (by decide) ?_
  refine t_iload1 dX5_countTold_121 ?_
  refine pw_iadd dX5_countTold_122 ?_
  refine pw_bipush (8) dX5_countTold_123 (by decide) ?_
  refine pw_isub dX5_countTold_125 ?_
  refine m_ldG (j := 6) dX5_countTold_126 hR (by decide) (by decide) ?_
  refine pw_iret dX5_countTold_127 rfl ?_
  exact ⟨rfl, rfl, rfl, rfl, rfl⟩
set_option maxHeartbeats 4000000 in
set_option maxRecDepth 100000 in
theorem M_countTold_9 {l : Launch} (hlt : l.stackTraces = false) {im : TI} {rm : TP} {lm : TL} {i0 : TI} {S : CS} (hM : MM rm) (hR : MS i0 S im) {n : Nat} (hn : im 240 2 = nI n) : Con l m_X5_countTold 2 0 0 NN [pv (some 240), .int (9)] im rm lm (QP (.int (alS S n 9)) im rm lm) noX := by
  have hk0 := kdM
  have hks := kds
  obtain ⟨r0, r1, r3, r5, r6, r11⟩ := id hM
  refine Con.ofN (k := 0) (L0 := [some (pv (some 240)), some (.int (9))]) hlt (by decide +kernel) rfl rfl (by rw [en1 pv_cat, en1 rfl, en0]; exact Nat.le_of_ble_eq_true rfl) (by rw [en1 pv_cat, en1 rfl, en0]; rfl) ?_
  refine t_iload1 dX5_countTold_0 ?_
  refine pw_table (off := 114) 115 dX5_countTold_1 (by decide) (by decide) (by decide) (by decide) ?_
  refine t_aload0 dX5_countTold_115 ?_
  refine g_getr ft5 fl_X5_7 (j := 0) (by decide) dX5_countTold_116 (by assumption) (by assumption) ?_
  refine pw_bipush (6) dX5_countTold_119 (by decide) ?_
  refine t_iload1 dX5_countTold_121 ?_
  refine pw_iadd dX5_countTold_122 ?_
  refine pw_bipush (8) dX5_countTold_123 (by decide) ?_
  refine pw_isub dX5_countTold_125 ?_
  refine m_ldG (j := 7) dX5_countTold_126 hR (by decide) (by decide) ?_
  refine pw_iret dX5_countTold_127 rfl ?_
  exact ⟨rfl, rfl, rfl, rfl, rfl⟩
set_option maxHeartbeats 4000000 in
set_option maxRecDepth 100000 in
theorem M_countTold_10 {l : Launch} (hlt : l.stackTraces = false) {im : TI} {rm : TP} {lm : TL} {i0 : TI} {S : CS} (hM : MM rm) (hR : MS i0 S im) {n : Nat} (hn : im 240 2 = nI n) : Con l m_X5_countTold 2 0 0 NN [pv (some 240), .int (10)] im rm lm (QP (.int (alS S n 10)) im rm lm) noX := by
  have hk0 := kdM
  have hks := kds
  obtain ⟨r0, r1, r3, r5, r6, r11⟩ := id hM
  refine Con.ofN (k := 0) (L0 := [some (pv (some 240)), some (.int (10))]) hlt (by decide +kernel) rfl rfl (by rw [en1 pv_cat, en1 rfl, en0]; exact Nat.le_of_ble_eq_true rfl) (by rw [en1 pv_cat, en1 rfl, en0]; rfl) ?_
  refine t_iload1 dX5_countTold_0 ?_
  refine pw_table (off := 114) 115 dX5_countTold_1 (by decide) (by decide) (by decide) (by decide) ?_
  refine t_aload0 dX5_countTold_115 ?_
  refine g_getr ft5 fl_X5_7 (j := 0) (by decide) dX5_countTold_116 (by assumption) (by assumption) ?_
  refine pw_bipush (6) dX5_countTold_119 (by decide) ?_
  refine t_iload1 dX5_countTold_121 ?_
  refine pw_iadd dX5_countTold_122 ?_
  refine pw_bipush (8) dX5_countTold_123 (by decide) ?_
  refine pw_isub dX5_countTold_125 ?_
  refine m_ldG (j := 8) dX5_countTold_126 hR (by decide) (by decide) ?_
  refine pw_iret dX5_countTold_127 rfl ?_
  exact ⟨rfl, rfl, rfl, rfl, rfl⟩
set_option maxHeartbeats 4000000 in
set_option maxRecDepth 100000 in
theorem M_countTold_11 {l : Launch} (hlt : l.stackTraces = false) {im : TI} {rm : TP} {lm : TL} {i0 : TI} {S : CS} (hM : MM rm) (hR : MS i0 S im) {n : Nat} (hn : im 240 2 = nI n) : Con l m_X5_countTold 2 0 0 NN [pv (some 240), .int (11)] im rm lm (QP (.int (alS S n 11)) im rm lm) noX := by
  have hk0 := kdM
  have hks := kds
  obtain ⟨r0, r1, r3, r5, r6, r11⟩ := id hM
  refine Con.ofN (k := 0) (L0 := [some (pv (some 240)), some (.int (11))]) hlt (by decide +kernel) rfl rfl (by rw [en1 pv_cat, en1 rfl, en0]; exact Nat.le_of_ble_eq_true rfl) (by rw [en1 pv_cat, en1 rfl, en0]; rfl) ?_
  refine t_iload1 dX5_countTold_0 ?_
  refine pw_table (off := 127) 128 dX5_countTold_1 (by decide) (by decide) (by decide) (by decide) ?_
  refine t_aload0 dX5_countTold_128 ?_
  refine g_getr ft5 fl_X5_7 (j := 0) (by decide) dX5_countTold_129 (by assumption) (by assumption) ?_
  refine pw_bipush (9) dX5_countTold_132 (by decide) ?_
  refine t_iload1 dX5_countTold_134 ?_
  refine pw_iadd dX5_countTold_135 ?_
  refine pw_bipush (11) dX5_countTold_136 (by decide) ?_
  refine pw_isub dX5_countTold_138 ?_
  refine m_ldG (j := 9) dX5_countTold_139 hR (by decide) (by decide) ?_
  refine pw_iret dX5_countTold_140 rfl ?_
  exact ⟨rfl, rfl, rfl, rfl, rfl⟩
set_option maxHeartbeats 4000000 in
set_option maxRecDepth 100000 in
theorem M_countTold_12 {l : Launch} (hlt : l.stackTraces = false) {im : TI} {rm : TP} {lm : TL} {i0 : TI} {S : CS} (hM : MM rm) (hR : MS i0 S im) {n : Nat} (hn : im 240 2 = nI n) : Con l m_X5_countTold 2 0 0 NN [pv (some 240), .int (12)] im rm lm (QP (.int (alS S n 12)) im rm lm) noX := by
  have hk0 := kdM
  have hks := kds
  obtain ⟨r0, r1, r3, r5, r6, r11⟩ := id hM
  refine Con.ofN (k := 0) (L0 := [some (pv (some 240)), some (.int (12))]) hlt (by decide +kernel) rfl rfl (by rw [en1 pv_cat, en1 rfl, en0]; exact Nat.le_of_ble_eq_true rfl) (by rw [en1 pv_cat, en1 rfl, en0]; rfl) ?_
  refine t_iload1 dX5_countTold_0 ?_
  refine pw_table (off := 127) 128 dX5_countTold_1 (by decide) (by decide) (by decide) (by decide) ?_
  refine t_aload0 dX5_countTold_128 ?_
  refine g_getr ft5 fl_X5_7 (j := 0) (by decide) dX5_countTold_129 (by assumption) (by assumption) ?_
  refine pw_bipush (9) dX5_countTold_132 (by decide) ?_
  refine t_iload1 dX5_countTold_134 ?_
  refine pw_iadd dX5_countTold_135 ?_
  refine pw_bipush (11) dX5_countTold_136 (by decide) ?_
  refine pw_isub dX5_countTold_138 ?_
  refine m_ldG (j := 10) dX5_countTold_139 hR (by decide) (by decide) ?_
  refine pw_iret dX5_countTold_140 rfl ?_
  exact ⟨rfl, rfl, rfl, rfl, rfl⟩
set_option maxHeartbeats 4000000 in
set_option maxRecDepth 100000 in
theorem M_countTold_13 {l : Launch} (hlt : l.stackTraces = false) {im : TI} {rm : TP} {lm : TL} {i0 : TI} {S : CS} (hM : MM rm) (hR : MS i0 S im) {n : Nat} (hn : im 240 2 = nI n) : Con l m_X5_countTold 2 0 0 NN [pv (some 240), .int (13)] im rm lm (QP (.int (alS S n 13)) im rm lm) noX := by
  have hk0 := kdM
  have hks := kds
  obtain ⟨r0, r1, r3, r5, r6, r11⟩ := id hM
  refine Con.ofN (k := 0) (L0 := [some (pv (some 240)), some (.int (13))]) hlt (by decide +kernel) rfl rfl (by rw [en1 pv_cat, en1 rfl, en0]; exact Nat.le_of_ble_eq_true rfl) (by rw [en1 pv_cat, en1 rfl, en0]; rfl) ?_
  refine t_iload1 dX5_countTold_0 ?_
  refine pw_table (off := 127) 128 dX5_countTold_1 (by decide) (by decide) (by decide) (by decide) ?_
  refine t_aload0 dX5_countTold_128 ?_
  refine g_getr ft5 fl_X5_7 (j := 0) (by decide) dX5_countTold_129 (by assumption) (by assumption) ?_
  refine pw_bipush (9) dX5_countTold_132 (by decide) ?_
  refine t_iload1 dX5_countTold_134 ?_
  refine pw_iadd dX5_countTold_135 ?_
  refine pw_bipush (11) dX5_countTold_136 (by decide) ?_
  refine pw_isub dX5_countTold_138 ?_
  refine m_ldG (j := 11) dX5_countTold_139 hR (by decide) (by decide) ?_
  refine pw_iret dX5_countTold_140 rfl ?_
  exact ⟨rfl, rfl, rfl, rfl, rfl⟩
set_option maxHeartbeats 4000000 in
set_option maxRecDepth 100000 in
theorem M_countTold_14 {l : Launch} (hlt : l.stackTraces = false) {im : TI} {rm : TP} {lm : TL} {i0 : TI} {S : CS} (hM : MM rm) (hR : MS i0 S im) {n : Nat} (hn : im 240 2 = nI n) : Con l m_X5_countTold 2 0 0 NN [pv (some 240), .int (14)] im rm lm (QP (.int (alS S n 14)) im rm lm) noX := by
  have hk0 := kdM
  have hks := kds
  obtain ⟨r0, r1, r3, r5, r6, r11⟩ := id hM
  refine Con.ofN (k := 0) (L0 := [some (pv (some 240)), some (.int (14))]) hlt (by decide +kernel) rfl rfl (by rw [en1 pv_cat, en1 rfl, en0]; exact Nat.le_of_ble_eq_true rfl) (by rw [en1 pv_cat, en1 rfl, en0]; rfl) ?_
  refine t_iload1 dX5_countTold_0 ?_
  refine pw_tableD 141 dX5_countTold_1 (by decide) (by decide) ?_
  refine t_aload0 dX5_countTold_141 ?_
  refine g_geti ft5 fl_X5_40 (j := 2) (by decide) dX5_countTold_142 (by assumption) ?_
  refine pw_iret dX5_countTold_145 rfl ?_
  exact ⟨rfl, by rw [hn]; rfl, rfl, rfl, rfl⟩
theorem M_countTold {l : Launch} (hlt : l.stackTraces = false) {im : TI} {rm : TP} {lm : TL} {i0 : TI} {S : CS} (hM : MM rm) (hR : MS i0 S im) {n : Nat} (hn : im 240 2 = nI n) {v : Nat} (hv : v ≤ 14) : Con l m_X5_countTold 2 0 0 NN [pv (some 240), .int (nI v)] im rm lm (QP (.int (alS S n v)) im rm lm) noX := by
  rcases le_15.mp hv with rfl | rfl | rfl | rfl | rfl | rfl | rfl | rfl | rfl | rfl | rfl | rfl | rfl | rfl | rfl
  · exact M_countTold_0 hlt hM hR hn
  · exact M_countTold_1 hlt hM hR hn
  · exact M_countTold_2 hlt hM hR hn
  · exact M_countTold_3 hlt hM hR hn
  · exact M_countTold_4 hlt hM hR hn
  · exact M_countTold_5 hlt hM hR hn
  · exact M_countTold_6 hlt hM hR hn
  · exact M_countTold_7 hlt hM hR hn
  · exact M_countTold_8 hlt hM hR hn
  · exact M_countTold_9 hlt hM hR hn
  · exact M_countTold_10 hlt hM hR hn
  · exact M_countTold_11 hlt hM hR hn
  · exact M_countTold_12 hlt hM hR hn
  · exact M_countTold_13 hlt hM hR hn
  · exact M_countTold_14 hlt hM hR hn
def rsG (S : CS) (k : Nat) : Int32 := if k % 6 < cnt S (k / 6) then S.2.2 (k / 6) (k % 6) 2 else 0
def rmT (S : CS) : Int32 := smN (rsG S) 30 0 0
set_option maxHeartbeats 4000000 in
set_option maxRecDepth 100000 in
theorem M_rests {l : Launch} (hlt : l.stackTraces = false) {im : TI} {rm : TP} {lm : TL} {i0 : TI} {S : CS} (hM : MM rm) (hR : MS i0 S im) (hI : CI S) : Con l m_X5_rests 1 0 0 NN [pv (some 240)] im rm lm (QP (.int (rmT S)) im rm lm) noX := by
  have hk0 := kdM
  have hks := kds
  obtain ⟨r0, r1, r3, r5, r6, r11⟩ := id hM
  refine Con.ofN (k := 2) (L0 := [some (pv (some 240)), none, none]) hlt (by decide +kernel) rfl rfl (by rw [en1 pv_cat, en0]; exact Nat.le_of_ble_eq_true rfl) (by rw [en1 pv_cat, en0]; rfl) ?_
  have loop : ∀ (n j : Nat) (x : Int32), j + n = 30 → rmT S = smN (rsG S) n j x → PW l m_X5_rests 1 0 0 NN 4 [some (pv (some 240)), some (.int x), some (.int (nI j))] [] im rm lm (QP (.int (rmT S)) im rm lm) noX := by
    intro n
    induction n using Nat.strongRecOn with
    | _ n ih =>
      intro j x hj hf
      refine t_iload2 dX5_rests_4 ?_
      refine pw_bipush (30) dX5_rests_5 (by decide) ?_
      refine pw_icmp_ge 59 dX5_rests_7 (by decide) (fun zc7 => ?_) (fun zc7 => ?_)
      · have zj : 30 ≤ j := (nI_leI (a := 30) (by decide) (by omega)).mp zc7
        have zn : n = 0 := by omega
        subst zn
        refine t_iload1 dX5_rests_59 ?_
        refine pw_iret dX5_rests_60 rfl ?_
        exact ⟨rfl, by rw [hf]; rfl, rfl, rfl, rfl⟩
      · have zj : j < 30 := (nI_ltI (b := 30) (by omega) (by decide)).mp (Int32.not_le.mp zc7)
        obtain ⟨n', rfl⟩ : ∃ n', n = n' + 1 := ⟨n - 1, by omega⟩
        refine t_iload1 dX5_rests_10 ?_
        refine t_iload2 dX5_rests_11 ?_
        refine pw_bipush (6) dX5_rests_12 (by decide) ?_
        refine pw_irem dX5_rests_14 (by decide) ?_
        rw [mrem (by omega)]
        refine t_aload0 dX5_rests_15 ?_
        refine t_iload2 dX5_rests_16 ?_
        refine pw_bipush (6) dX5_rests_17 (by decide) ?_
        refine pw_idiv dX5_rests_19 (by decide) ?_
        rw [mdiv (by omega)]
        refine pw_bipush (9) dX5_rests_20 (by decide) ?_
        refine g_callV2P (M_of (l := l) hlt hM hR (m := j / 6) (w := 9) (by omega) (by decide)) rfl ft5 rfl mc_X5_of ml_X5_47 mi_X5_of ms_X5_of in_X5 (okc_X5_of (by decide)) dX5_rests_22 (by assumption) (cat_le (Nat.le_of_ble_eq_true rfl)) ?_
        refine pw_icmp_ge 50 dX5_rests_25 (by decide) (fun zc25 => ?_) (fun zc25 => ?_)
        · refine pw_iconst (0) dX5_rests_50 (by decide) ?_
          refine pw_iadd dX5_rests_51 ?_
          refine t_istore1 dX5_rests_52 (by decide) okp_r ?_
          refine t_iinc2 (1) dX5_rests_53 (by decide) (by decide) okp_i ?_
          refine pw_goto 4 dX5_rests_56 (by decide) ?_
          rw [nI_1]
          exact ih n' (by omega) (j + 1) _ (by omega) (by rw [hf, smN, rsG, if_neg (fun z => Int32.not_le.mpr ((lt_cnt hI (by omega) (by omega)).mpr z) zc25)])
        · refine t_aload0 dX5_rests_28 ?_
          refine g_getr ft5 fl_X5_7 (j := 0) (by decide) dX5_rests_29 (by assumption) (by assumption) ?_
          refine t_aload0 dX5_rests_32 ?_
          refine t_iload2 dX5_rests_33 ?_
          refine pw_bipush (6) dX5_rests_34 (by decide) ?_
          refine pw_idiv dX5_rests_36 (by decide) ?_
          rw [mdiv (by omega)]
          refine t_iload2 dX5_rests_37 ?_
          refine pw_bipush (6) dX5_rests_38 (by decide) ?_
          refine pw_irem dX5_rests_40 (by decide) ?_
          rw [mrem (by omega)]
          refine g_callV2P (M_sackRow (l := l) hlt (m := j / 6) (p := j % 6)) rfl ft5 rfl mc_X5_sackRow ml_X5_51 mi_X5_sackRow ms_X5_sackRow in_X5 (okc_X5_sackRow (by decide)) dX5_rests_41 (by assumption) (cat_le (Nat.le_of_ble_eq_true rfl)) ?_
          refine pw_iconst (2) dX5_rests_44 (by decide) ?_
          refine pw_iadd dX5_rests_45 ?_
          refine m_ldK (m := j / 6) (p := j % 6) (k := 2) dX5_rests_46 hR (nI_add _ 2) (by omega) (by omega) (by decide) ?_
          refine pw_goto 51 dX5_rests_47 (by decide) ?_
          refine pw_iadd dX5_rests_51 ?_
          refine t_istore1 dX5_rests_52 (by decide) okp_r ?_
          refine t_iinc2 (1) dX5_rests_53 (by decide) (by decide) okp_i ?_
          refine pw_goto 4 dX5_rests_56 (by decide) ?_
          rw [nI_1]
          exact ih n' (by omega) (j + 1) _ (by omega) (by rw [hf, smN, rsG, if_pos ((lt_cnt hI (by omega) (by omega)).mp (Int32.not_le.mp zc25))])
  refine pw_iconst (0) dX5_rests_0 (by decide) ?_
  refine t_istore1 dX5_rests_1 (by decide) okp_r ?_
  refine pw_iconst (0) dX5_rests_2 (by decide) ?_
  refine t_istore2 dX5_rests_3 (by decide) okp_i ?_
  exact loop 30 0 0 rfl rfl

/-! TideMills: a part, whatever it is -/
/-- what a part that was read does; none: it stops -/
def dpf (S : CS) (im : TI) : Option CS := if im 238 0 = 43 then some (hsS (nuI im 0).toNatClampNeg S) else match maO (nuI im 0) with
  | none => none
  | some m => if im 238 0 = 103 then some (upF (upF S m 5 (nuI im 1)) m 6 (nuI im 2)) else if hrP S m then some (brS S m (nuI im 1) (nuI im 2)) else none
def dpQ (im : TI) (o : Option CS) (x : Int32) (im2 : TI) : Prop := (o = none → x = 0 ∧ im2 = im) ∧ ∀ S2, o = some S2 → x = 1 ∧ CR 1 S2 im2 ∧ fr 1 im im2
theorem dpQ_some {im im2 : TI} {S2 : CS} {x : Int32} (h : x = 1 ∧ CR 1 S2 im2 ∧ fr 1 im im2) : dpQ im (some S2) x im2 := ⟨fun z => (by cases z), fun S e => by cases e; exact h⟩
theorem dpQ_none {im im2 : TI} {x : Int32} (h : x = 0 ∧ im2 = im) : dpQ im none x im2 := ⟨fun _ => h, fun S e => by cases e⟩
set_option maxHeartbeats 4000000 in
set_option maxRecDepth 100000 in
theorem C_doPart1 {l : Launch} (hlt : l.stackTraces = false) {im : TI} {rm : TP} {lm : TL} {S : CS} (hT : RT rm) (hC : RC rm) (hR : CR 1 S im) (hI : CI S) {N : Nat} (hkd : im 238 0 = 43) (hn0 : nuI im 0 = nI N) (hN : N < 2 ^ 31) : Con l m_X4_doPart 5 0 0 NN [pv (some 0)] im rm lm (QI (dpQ im (dpf S im)) rm lm) noX := by
  have hk0 := kdT
  have hC1 := c1 hC
  have hk1 := hC1.1
  obtain ⟨t0, t1, t2, t4, t5, t7, t8⟩ := id hT
  have hk3 := kdR
  refine Con.ofN (k := 1) (L0 := [some (pv (some 0)), none]) hlt (by decide +kernel) rfl rfl (by rw [en1 pv_cat, en0]; exact Nat.le_of_ble_eq_true rfl) (by rw [en1 pv_cat, en0]; rfl) ?_
  refine t_aload0 dX4_doPart_0 ?_
  refine g_getr ft4 fl_X4_44 (j := 7) (by decide) dX4_doPart_1 (by assumption) (by assumption) ?_
  refine g_geti ft3 fl_X4_282 (j := 0) (by decide) dX4_doPart_4 (by assumption) ?_
  refine pw_bipush (43) dX4_doPart_7 (by decide) ?_
  refine pw_icmp_ne 29 dX4_doPart_9 (by decide) (fun zc9 => ?_) (fun zc9 => ?_)
  · exact absurd hkd zc9
  · refine t_aload0 dX4_doPart_12 ?_
    refine g_getr ft4 fl_X4_10 (j := 0) (by decide) dX4_doPart_13 (by assumption) (by assumption) ?_
    refine t_aload0 dX4_doPart_16 ?_
    refine g_getr ft4 fl_X4_44 (j := 7) (by decide) dX4_doPart_17 (by assumption) (by assumption) ?_
    refine pw_iconst (0) dX4_doPart_20 (by decide) ?_
    refine g_callV1P (C_rNum (l := l) hlt t8) rfl ft3 rfl mc_X3_numberAt ml_X4_285 mi_X3_numberAt ms_X3_numberAt in_X3 (okc_X3_numberAt (by decide)) dX4_doPart_21 (by assumption) (cat_le (Nat.le_of_ble_eq_true rfl)) ?_
    refine g_callV1V (C_passHours (l := l) hlt hC1 hR hn0 hN hI) rfl ft0 rfl mc_X0_passHours ml_X4_114 mi_X0_passHours ms_X0_passHours in_X0 (okc_X0_passHours (by decide)) dX4_doPart_24 (by assumption) (cat_le (Nat.le_of_ble_eq_true rfl)) (fun zim24 zh24 => ?_)
    refine pw_iconst (1) dX4_doPart_27 (by decide) ?_
    refine pw_zret dX4_doPart_28 rfl ?_ ?_
    · first | rfl | exact bI_n
    · exact ⟨rfl, rfl, rfl, _, rfl, by rw [dpf, if_pos hkd, hn0, nI_clamp hN]; exact dpQ_some ⟨rfl, zh24⟩⟩
set_option maxHeartbeats 4000000 in
set_option maxRecDepth 100000 in
theorem C_doPart2 {l : Launch} (hlt : l.stackTraces = false) {im : TI} {rm : TP} {lm : TL} {S : CS} (hT : RT rm) (hC : RC rm) (hR : CR 1 S im) (h43 : ¬ im 238 0 = 43) (hmo : maO (nuI im 0) = none) : Con l m_X4_doPart 5 0 0 NN [pv (some 0)] im rm lm (QI (dpQ im (dpf S im)) rm lm) noX := by
  have hk0 := kdT
  have hC1 := c1 hC
  have hk1 := hC1.1
  obtain ⟨t0, t1, t2, t4, t5, t7, t8⟩ := id hT
  have hk3 := kdR
  refine Con.ofN (k := 1) (L0 := [some (pv (some 0)), none]) hlt (by decide +kernel) rfl rfl (by rw [en1 pv_cat, en0]; exact Nat.le_of_ble_eq_true rfl) (by rw [en1 pv_cat, en0]; rfl) ?_
  refine t_aload0 dX4_doPart_0 ?_
  refine g_getr ft4 fl_X4_44 (j := 7) (by decide) dX4_doPart_1 (by assumption) (by assumption) ?_
  refine g_geti ft3 fl_X4_282 (j := 0) (by decide) dX4_doPart_4 (by assumption) ?_
  refine pw_bipush (43) dX4_doPart_7 (by decide) ?_
  refine pw_icmp_ne 29 dX4_doPart_9 (by decide) (fun zc9 => ?_) (fun zc9 => ?_)
  · refine t_aload0 dX4_doPart_29 ?_
    refine g_getr ft4 fl_X4_10 (j := 0) (by decide) dX4_doPart_30 (by assumption) (by assumption) ?_
    refine t_aload0 dX4_doPart_33 ?_
    refine g_getr ft4 fl_X4_44 (j := 7) (by decide) dX4_doPart_34 (by assumption) (by assumption) ?_
    refine pw_iconst (0) dX4_doPart_37 (by decide) ?_
    refine g_callV1P (C_rNum (l := l) hlt t8) rfl ft3 rfl mc_X3_numberAt ml_X4_285 mi_X3_numberAt ms_X3_numberAt in_X3 (okc_X3_numberAt (by decide)) dX4_doPart_38 (by assumption) (cat_le (Nat.le_of_ble_eq_true rfl)) ?_
    refine g_callV1P (C_millAt (l := l) hlt hC1 hR) rfl ft0 rfl mc_X0_millAt ml_X4_256 mi_X0_millAt ms_X0_millAt in_X0 (okc_X0_millAt (by decide)) dX4_doPart_41 (by assumption) (cat_le (Nat.le_of_ble_eq_true rfl)) ?_
    rw [hmo, show gm 1 none = none from rfl]
    refine t_astore1 dX4_doPart_44 (by decide) okp_r ?_
    refine t_aload1 dX4_doPart_45 ?_
    refine pw_ifnonnull 51 dX4_doPart_46 (by decide) (fun zy46 zc46 => ?_) (fun zc46 => ?_)
    · exact absurd zc46 (fun z => by cases z)
    · refine pw_iconst (0) dX4_doPart_49 (by decide) ?_
      refine pw_zret dX4_doPart_50 rfl ?_ ?_
      · first | rfl | exact bI_n
      · exact ⟨rfl, rfl, rfl, _, rfl, by rw [dpf, if_neg h43, hmo]; exact dpQ_none ⟨rfl, rfl⟩⟩
  · exact absurd (Classical.not_not.mp zc9) h43
set_option maxHeartbeats 4000000 in
set_option maxRecDepth 100000 in
theorem C_doPart3 {l : Launch} (hlt : l.stackTraces = false) {im : TI} {rm : TP} {lm : TL} {S : CS} (hT : RT rm) (hC : RC rm) (hR : CR 1 S im) (hI : CI S) {m : Nat} (hm : m < 5) (h43 : ¬ im 238 0 = 43) (hmo : maO (nuI im 0) = some m) (hkd : im 238 0 = 103) : Con l m_X4_doPart 5 0 0 NN [pv (some 0)] im rm lm (QI (dpQ im (dpf S im)) rm lm) noX := by
  have hk0 := kdT
  have hC1 := c1 hC
  have hk1 := hC1.1
  obtain ⟨t0, t1, t2, t4, t5, t7, t8⟩ := id hT
  have hk3 := kdR
  have hkm := ck_of hC1 hm
  obtain ⟨_, hn0⟩ := maO_some hmo
  refine Con.ofN (k := 1) (L0 := [some (pv (some 0)), none]) hlt (by decide +kernel) rfl rfl (by rw [en1 pv_cat, en0]; exact Nat.le_of_ble_eq_true rfl) (by rw [en1 pv_cat, en0]; rfl) ?_
  refine t_aload0 dX4_doPart_0 ?_
  refine g_getr ft4 fl_X4_44 (j := 7) (by decide) dX4_doPart_1 (by assumption) (by assumption) ?_
  refine g_geti ft3 fl_X4_282 (j := 0) (by decide) dX4_doPart_4 (by assumption) ?_
  refine pw_bipush (43) dX4_doPart_7 (by decide) ?_
  refine pw_icmp_ne 29 dX4_doPart_9 (by decide) (fun zc9 => ?_) (fun zc9 => ?_)
  · refine t_aload0 dX4_doPart_29 ?_
    refine g_getr ft4 fl_X4_10 (j := 0) (by decide) dX4_doPart_30 (by assumption) (by assumption) ?_
    refine t_aload0 dX4_doPart_33 ?_
    refine g_getr ft4 fl_X4_44 (j := 7) (by decide) dX4_doPart_34 (by assumption) (by assumption) ?_
    refine pw_iconst (0) dX4_doPart_37 (by decide) ?_
    refine g_callV1P (C_rNum (l := l) hlt t8) rfl ft3 rfl mc_X3_numberAt ml_X4_285 mi_X3_numberAt ms_X3_numberAt in_X3 (okc_X3_numberAt (by decide)) dX4_doPart_38 (by assumption) (cat_le (Nat.le_of_ble_eq_true rfl)) ?_
    refine g_callV1P (C_millAt (l := l) hlt hC1 hR) rfl ft0 rfl mc_X0_millAt ml_X4_256 mi_X0_millAt ms_X0_millAt in_X0 (okc_X0_millAt (by decide)) dX4_doPart_41 (by assumption) (cat_le (Nat.le_of_ble_eq_true rfl)) ?_
    rw [hn0, maO_nI hm, gm_s]
    refine t_astore1 dX4_doPart_44 (by decide) okp_r ?_
    refine t_aload1 dX4_doPart_45 ?_
    refine pw_ifnonnull 51 dX4_doPart_46 (by decide) (fun zy46 zc46 => ?_) (fun zc46 => ?_)
    · refine t_aload0 dX4_doPart_51 ?_
      refine g_getr ft4 fl_X4_44 (j := 7) (by decide) dX4_doPart_52 (by assumption) (by assumption) ?_
      refine g_geti ft3 fl_X4_282 (j := 0) (by decide) dX4_doPart_55 (by assumption) ?_
      refine pw_bipush (103) dX4_doPart_58 (by decide) ?_
      refine pw_icmp_ne 89 dX4_doPart_60 (by decide) (fun zc60 => ?_) (fun zc60 => ?_)
      · exact absurd hkd zc60
      · refine t_aload1 dX4_doPart_63 ?_
        refine t_aload0 dX4_doPart_64 ?_
        refine g_getr ft4 fl_X4_44 (j := 7) (by decide) dX4_doPart_65 (by assumption) (by assumption) ?_
        refine pw_iconst (1) dX4_doPart_68 (by decide) ?_
        refine g_callV1P (C_rNum (l := l) hlt t8) rfl ft3 rfl mc_X3_numberAt ml_X4_285 mi_X3_numberAt ms_X3_numberAt in_X3 (okc_X3_numberAt (by decide)) dX4_doPart_69 (by assumption) (cat_le (Nat.le_of_ble_eq_true rfl)) ?_
        refine g_puti ft2 fl_X4_81 (j := 7) (by decide) ⟨rfl, rfl⟩ dX4_doPart_72 (by assumption) ?_
        refine t_aload1 dX4_doPart_75 ?_
        refine t_aload0 dX4_doPart_76 ?_
        refine g_getr ft4 fl_X4_44 (j := 7) (by decide) dX4_doPart_77 (by assumption) (by assumption) ?_
        refine pw_iconst (2) dX4_doPart_80 (by decide) ?_
        refine g_callV1P (C_rNum (l := l) hlt t8) rfl ft3 rfl mc_X3_numberAt ml_X4_285 mi_X3_numberAt ms_X3_numberAt in_X3 (okc_X3_numberAt (by decide)) dX4_doPart_81 (by assumption) (cat_le (Nat.le_of_ble_eq_true rfl)) ?_
        rw [nuI_fr (ui_ne (show (239 : Nat) ≠ mA 1 m by unfold mA; omega))]
        refine g_puti ft2 fl_X4_84 (j := 8) (by decide) ⟨rfl, rfl⟩ dX4_doPart_84 (by assumption) ?_
        refine pw_iconst (1) dX4_doPart_87 (by decide) ?_
        refine pw_zret dX4_doPart_88 rfl ?_ ?_
        · first | rfl | exact bI_n
        · exact ⟨rfl, rfl, rfl, _, rfl, by rw [dpf, if_neg h43, hmo]; dsimp only; rw [if_pos hkd]; exact dpQ_some ⟨rfl, (hR.f (w := 5) hm (by decide)).f (w := 6) hm (by decide), (fr.m hm).trans (fr.m hm)⟩⟩
    · exact absurd zc46 (fun z => by cases z)
  · exact absurd (Classical.not_not.mp zc9) h43
set_option maxHeartbeats 4000000 in
set_option maxRecDepth 100000 in
theorem C_doPart4 {l : Launch} (hlt : l.stackTraces = false) {im : TI} {rm : TP} {lm : TL} {S : CS} (hT : RT rm) (hC : RC rm) (hR : CR 1 S im) (hI : CI S) {m : Nat} (hm : m < 5) (h43 : ¬ im 238 0 = 43) (hmo : maO (nuI im 0) = some m) (hkd : ¬ im 238 0 = 103) (hs : ¬ S.1 5 = -1) : Con l m_X4_doPart 5 0 0 NN [pv (some 0)] im rm lm (QI (dpQ im (dpf S im)) rm lm) noX := by
  have hk0 := kdT
  have hC1 := c1 hC
  have hk1 := hC1.1
  obtain ⟨t0, t1, t2, t4, t5, t7, t8⟩ := id hT
  have hk3 := kdR
  have hkm := ck_of hC1 hm
  obtain ⟨_, hn0⟩ := maO_some hmo
  refine Con.ofN (k := 1) (L0 := [some (pv (some 0)), none]) hlt (by decide +kernel) rfl rfl (by rw [en1 pv_cat, en0]; exact Nat.le_of_ble_eq_true rfl) (by rw [en1 pv_cat, en0]; rfl) ?_
  refine t_aload0 dX4_doPart_0 ?_
  refine g_getr ft4 fl_X4_44 (j := 7) (by decide) dX4_doPart_1 (by assumption) (by assumption) ?_
  refine g_geti ft3 fl_X4_282 (j := 0) (by decide) dX4_doPart_4 (by assumption) ?_
  refine pw_bipush (43) dX4_doPart_7 (by decide) ?_
  refine pw_icmp_ne 29 dX4_doPart_9 (by decide) (fun zc9 => ?_) (fun zc9 => ?_)
  · refine t_aload0 dX4_doPart_29 ?_
    refine g_getr ft4 fl_X4_10 (j := 0) (by decide) dX4_doPart_30 (by assumption) (by assumption) ?_
    refine t_aload0 dX4_doPart_33 ?_
    refine g_getr ft4 fl_X4_44 (j := 7) (by decide) dX4_doPart_34 (by assumption) (by assumption) ?_
    refine pw_iconst (0) dX4_doPart_37 (by decide) ?_
    refine g_callV1P (C_rNum (l := l) hlt t8) rfl ft3 rfl mc_X3_numberAt ml_X4_285 mi_X3_numberAt ms_X3_numberAt in_X3 (okc_X3_numberAt (by decide)) dX4_doPart_38 (by assumption) (cat_le (Nat.le_of_ble_eq_true rfl)) ?_
    refine g_callV1P (C_millAt (l := l) hlt hC1 hR) rfl ft0 rfl mc_X0_millAt ml_X4_256 mi_X0_millAt ms_X0_millAt in_X0 (okc_X0_millAt (by decide)) dX4_doPart_41 (by assumption) (cat_le (Nat.le_of_ble_eq_true rfl)) ?_
    rw [hn0, maO_nI hm, gm_s]
    refine t_astore1 dX4_doPart_44 (by decide) okp_r ?_
    refine t_aload1 dX4_doPart_45 ?_
    refine pw_ifnonnull 51 dX4_doPart_46 (by decide) (fun zy46 zc46 => ?_) (fun zc46 => ?_)
    · refine t_aload0 dX4_doPart_51 ?_
      refine g_getr ft4 fl_X4_44 (j := 7) (by decide) dX4_doPart_52 (by assumption) (by assumption) ?_
      refine g_geti ft3 fl_X4_282 (j := 0) (by decide) dX4_doPart_55 (by assumption) ?_
      refine pw_bipush (103) dX4_doPart_58 (by decide) ?_
      refine pw_icmp_ne 89 dX4_doPart_60 (by decide) (fun zc60 => ?_) (fun zc60 => ?_)
      · refine t_aload0 dX4_doPart_89 ?_
        refine g_getr ft4 fl_X4_10 (j := 0) (by decide) dX4_doPart_90 (by assumption) (by assumption) ?_
        refine t_aload1 dX4_doPart_93 ?_
        refine t_aload0 dX4_doPart_94 ?_
        refine g_getr ft4 fl_X4_44 (j := 7) (by decide) dX4_doPart_95 (by assumption) (by assumption) ?_
        refine pw_iconst (1) dX4_doPart_98 (by decide) ?_
        refine g_callV1P (C_rNum (l := l) hlt t8) rfl ft3 rfl mc_X3_numberAt ml_X4_285 mi_X3_numberAt ms_X3_numberAt in_X3 (okc_X3_numberAt (by decide)) dX4_doPart_99 (by assumption) (cat_le (Nat.le_of_ble_eq_true rfl)) ?_
        refine t_aload0 dX4_doPart_102 ?_
        refine g_getr ft4 fl_X4_44 (j := 7) (by decide) dX4_doPart_103 (by assumption) (by assumption) ?_
        refine pw_iconst (2) dX4_doPart_106 (by decide) ?_
        refine g_callV1P (C_rNum (l := l) hlt t8) rfl ft3 rfl mc_X3_numberAt ml_X4_285 mi_X3_numberAt ms_X3_numberAt in_X3 (okc_X3_numberAt (by decide)) dX4_doPart_107 (by assumption) (cat_le (Nat.le_of_ble_eq_true rfl)) ?_
        refine g_callV3I (C_bringSack (l := l) hlt hC1 hR hm hI) rfl ft0 rfl mc_X0_bringSack ml_X4_122 mi_X0_bringSack ms_X0_bringSack in_X0 (okc_X0_bringSack (by decide)) dX4_doPart_110 (by assumption) (cat_le (Nat.le_of_ble_eq_true rfl)) (fun zx110 zim110 zh110 => ?_)
        refine pw_iconst (-1) dX4_doPart_113 (by decide) ?_
        refine pw_icmp_eq 121 dX4_doPart_114 (by decide) (fun zc114 => ?_) (fun zc114 => ?_)
        · refine pw_iconst (0) dX4_doPart_121 (by decide) ?_
          refine pw_zret dX4_doPart_122 rfl ?_ ?_
          · first | rfl | exact bI_n
          · split at zh110
            · exact absurd (zh110.1.symm.trans zc114) hs
            · obtain ⟨ze, rfl⟩ := zh110
              rename_i hw
              exact ⟨rfl, rfl, rfl, _, rfl, by rw [dpf, if_neg h43, hmo]; dsimp only; rw [if_neg hkd, if_neg hw]; exact dpQ_none ⟨rfl, rfl⟩⟩
        · refine pw_iconst (1) dX4_doPart_117 (by decide) ?_
          refine pw_goto 122 dX4_doPart_118 (by decide) ?_
          refine pw_zret dX4_doPart_122 rfl ?_ ?_
          · first | rfl | exact bI_n
          · split at zh110
            · rename_i hw
              exact ⟨rfl, rfl, rfl, _, rfl, by rw [dpf, if_neg h43, hmo]; dsimp only; rw [if_neg hkd, if_pos hw]; exact dpQ_some ⟨rfl, zh110.2⟩⟩
            · exact absurd zh110.1 zc114
      · exact absurd (Classical.not_not.mp zc60) hkd
    · exact absurd zc46 (fun z => by cases z)
  · exact absurd (Classical.not_not.mp zc9) h43
theorem C_doPart {l : Launch} (hlt : l.stackTraces = false) {im : TI} {rm : TP} {lm : TL} {S : CS} (hT : RT rm) (hC : RC rm) (hR : CR 1 S im) (hI : CI S) (hk : im 238 0 = 43 → ∃ N, N < 2 ^ 31 ∧ nuI im 0 = nI N) (hs : ¬ S.1 5 = -1) : Con l m_X4_doPart 5 0 0 NN [pv (some 0)] im rm lm (QI (dpQ im (dpf S im)) rm lm) noX := by
  by_cases h43 : im 238 0 = 43
  · obtain ⟨N, hN, hn⟩ := hk h43
    exact C_doPart1 hlt hT hC hR hI h43 hn hN
  · rcases hmo : maO (nuI im 0) with _ | m
    · exact C_doPart2 hlt hT hC hR h43 hmo
    · have hm := (maO_some hmo).1
      by_cases hkd : im 238 0 = 103
      · exact C_doPart3 hlt hT hC hR hI hm h43 hmo hkd
      · exact C_doPart4 hlt hT hC hR hI hm h43 hmo hkd hs

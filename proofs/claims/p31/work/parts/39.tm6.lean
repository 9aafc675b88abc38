/-! TideMills: the public methods that change it -/
set_option maxHeartbeats 4000000 in
set_option maxRecDepth 100000 in
theorem C_gear {l : Launch} (hlt : l.stackTraces = false) {im : TI} {rm : TP} {lm : TL} {Z : TI × TP} {S : CS} {n : Nat} {T : Nat → CS} {sn : Option CS} {bl : Nat} {B : Nat → Int32} (hTS : TS Z S n T sn bl B im rm) {x a b : Int32} {m : Nat} (hmo : maO x = some m) (ha : 8 ≤ a ∧ a ≤ 60) (hb : 8 ≤ b ∧ b ≤ 60) : Con l m_X4_gear 8 0 0 NN [pv (some 0), .int (x), .int (a), .int (b)] im rm lm (QG (fun v i r q => v = some (.int (tof ((upF (upF S m 5 a) m 6 b).2.1 m) 100)) ∧ q = lm ∧ TS Z (upF (upF S m 5 a) m 6 b) (shN n) (shT n T S) sn bl B i r)) noX := by
  obtain ⟨⟨hT, hC⟩, ⟨hR, hI⟩, hTS2⟩ := id hTS
  have hk0 := kdT
  have hk79 := kd79
  have hC1 := c1 hC
  have hk1 := hC1.1
  obtain ⟨t0, t1, t2, t4, t5, t7, t8⟩ := id hT
  obtain ⟨hm, zxe⟩ := maO_some hmo
  have hkm := ck_of hC1 hm
  refine Con.ofN (k := 1) (L0 := [some (pv (some 0)), some (.int (x)), some (.int (a)), some (.int (b)), none]) hlt (by decide +kernel) rfl rfl (by rw [en1 pv_cat, en1 rfl, en1 rfl, en1 rfl, en0]; exact Nat.le_of_ble_eq_true rfl) (by rw [en1 pv_cat, en1 rfl, en1 rfl, en1 rfl, en0]; rfl) ?_
  refine t_aload0 dX4_gear_0 ?_
  refine t_iload1 dX4_gear_1 ?_
  refine g_callV1P (C_millOrT (l := l) hlt hT hC hR hmo) rfl ft4 rfl mc_X4_millOrThrow ml_X4_48 mi_X4_millOrThrow ms_X4_millOrThrow in_X4 (okc_X4_millOrThrow (by decide)) dX4_gear_2 (by assumption) (cat_le (Nat.le_of_ble_eq_true rfl)) ?_
  refine t_astore4 dX4_gear_5 (by decide) okp_i ?_
  refine t_iload2 dX4_gear_7 ?_
  refine pw_bipush (8) dX4_gear_8 (by decide) ?_
  refine pw_bipush (60) dX4_gear_10 (by decide) ?_
  refine g_callS3V (C_rangeT (l := l) hlt ha.1 ha.2) rfl mc_X4_requireRange ml_X4_52 mi_X4_requireRange in_X4 (okc_X4_requireRange (by decide)) dX4_gear_12 (Nat.zero_le _) (fun zim12 zh12 => ?_)
  rw [show zim12 = im from zh12]
  refine t_iload3 dX4_gear_15 ?_
  refine pw_bipush (8) dX4_gear_16 (by decide) ?_
  refine pw_bipush (60) dX4_gear_18 (by decide) ?_
  refine g_callS3V (C_rangeT (l := l) hlt hb.1 hb.2) rfl mc_X4_requireRange ml_X4_52 mi_X4_requireRange in_X4 (okc_X4_requireRange (by decide)) dX4_gear_20 (Nat.zero_le _) (fun zim20 zh20 => ?_)
  rw [show zim20 = im from zh20]
  refine t_aload0 dX4_gear_23 ?_
  refine g_getr ft4 fl_X4_29 (j := 4) (by decide) dX4_gear_24 (by assumption) (by assumption) ?_
  refine t_aload0 dX4_gear_27 ?_
  refine g_getr ft4 fl_X4_10 (j := 0) (by decide) dX4_gear_28 (by assumption) (by assumption) ?_
  refine g_callV1G (C_save (l := l) hlt hC (Classical.choose_spec hTS.2.2.1.1) hR (by decide) (by decide)) rfl ft1 rfl mc_X1_save ml_X4_65 mi_X1_save ms_X1_save in_X1 (okc_X1_save (by decide)) dX4_gear_31 (by assumption) (cat_le (Nat.le_of_ble_eq_true rfl)) (fun _ _ _ _ h => h.elim) (by decide) (fun zv31 zim31 zrm31 zlm31 zh31 => ?_)
  obtain ⟨rfl, rfl, zr, zf, zs2⟩ := zh31
  have hTS3 := hTS.saved zr zf zs2
  obtain ⟨⟨hT3, hC3⟩, ⟨hR3, hI3⟩, hTS4⟩ := id hTS3
  have hC31 := c1 hC3
  obtain ⟨u0, u1, u2, u4, u5, u7, u8⟩ := id hT3
  refine t_aload4 dX4_gear_34 ?_
  refine t_iload2 dX4_gear_36 ?_
  refine g_puti ft2 fl_X4_81 (j := 7) (by decide) ⟨rfl, rfl⟩ dX4_gear_37 (by assumption) ?_
  refine t_aload4 dX4_gear_40 ?_
  refine t_iload3 dX4_gear_42 ?_
  refine g_puti ft2 fl_X4_84 (j := 8) (by decide) ⟨rfl, rfl⟩ dX4_gear_43 (by assumption) ?_
  refine t_aload4 dX4_gear_46 ?_
  refine pw_bipush (100) dX4_gear_48 (by decide) ?_
  refine g_callV1P (C_turnsOfStone (l := l) hlt hkm) rfl ft2 rfl mc_X2_turnsOfStone ml_X4_87 mi_X2_turnsOfStone ms_X2_turnsOfStone in_X2 (okc_X2_turnsOfStone (by decide)) dX4_gear_50 (by assumption) (cat_le (Nat.le_of_ble_eq_true rfl)) ?_
  refine pw_iret dX4_gear_53 rfl ?_
  have hRz := (hR3.f (w := 5) (x := a) hm (by decide)).f (w := 6) (x := b) hm (by decide)
  exact ⟨rfl, by rw [toF_of (hRz.2 m hm)], rfl, hTS3.now hRz (hI3.keep fun q hq => by unfold upF; dsimp only; rw [if_neg (by omega), if_neg (by omega)]) ((fr.m hm).trans (fr.m hm))⟩
set_option maxHeartbeats 4000000 in
set_option maxRecDepth 100000 in
theorem C_pass {l : Launch} (hlt : l.stackTraces = false) {im : TI} {rm : TP} {lm : TL} {Z : TI × TP} {S : CS} {n : Nat} {T : Nat → CS} {sn : Option CS} {bl : Nat} {B : Nat → Int32} (hTS : TS Z S n T sn bl B im rm) {N : Nat} (hN : N < 2 ^ 31) (ha : (1 : Int32) ≤ nI N ∧ nI N ≤ 48) : Con l m_X4_pass 8 0 0 NN [pv (some 0), .int (nI N)] im rm lm (QG (fun v i r q => v = some (.int ((hsS N S).1 6 - S.1 6)) ∧ q = lm ∧ TS Z (hsS N S) (shN n) (shT n T S) sn bl B i r)) noX := by
  obtain ⟨⟨hT, hC⟩, ⟨hR, hI⟩, hTS2⟩ := id hTS
  have hk0 := kdT
  have hk79 := kd79
  have hC1 := c1 hC
  have hk1 := hC1.1
  obtain ⟨t0, t1, t2, t4, t5, t7, t8⟩ := id hT
  refine Con.ofN (k := 1) (L0 := [some (pv (some 0)), some (.int (nI N)), none]) hlt (by decide +kernel) rfl rfl (by rw [en1 pv_cat, en1 rfl, en0]; exact Nat.le_of_ble_eq_true rfl) (by rw [en1 pv_cat, en1 rfl, en0]; rfl) ?_
  refine t_iload1 dX4_pass_0 ?_
  refine pw_iconst (1) dX4_pass_1 (by decide) ?_
  refine pw_bipush (48) dX4_pass_2 (by decide) ?_
  refine g_callS3V (C_rangeT (l := l) hlt ha.1 ha.2) rfl mc_X4_requireRange ml_X4_52 mi_X4_requireRange in_X4 (okc_X4_requireRange (by decide)) dX4_pass_4 (Nat.zero_le _) (fun zim4 zh4 => ?_)
  rw [show zim4 = im from zh4]
  refine t_aload0 dX4_pass_7 ?_
  refine g_getr ft4 fl_X4_29 (j := 4) (by decide) dX4_pass_8 (by assumption) (by assumption) ?_
  refine t_aload0 dX4_pass_11 ?_
  refine g_getr ft4 fl_X4_10 (j := 0) (by decide) dX4_pass_12 (by assumption) (by assumption) ?_
  refine g_callV1G (C_save (l := l) hlt hC (Classical.choose_spec hTS.2.2.1.1) hR (by decide) (by decide)) rfl ft1 rfl mc_X1_save ml_X4_65 mi_X1_save ms_X1_save in_X1 (okc_X1_save (by decide)) dX4_pass_15 (by assumption) (cat_le (Nat.le_of_ble_eq_true rfl)) (fun _ _ _ _ h => h.elim) (by decide) (fun zv15 zim15 zrm15 zlm15 zh15 => ?_)
  obtain ⟨rfl, rfl, zr, zf, zs2⟩ := zh15
  have hTS3 := hTS.saved zr zf zs2
  obtain ⟨⟨hT3, hC3⟩, ⟨hR3, hI3⟩, hTS4⟩ := id hTS3
  have hC31 := c1 hC3
  obtain ⟨u0, u1, u2, u4, u5, u7, u8⟩ := id hT3
  refine t_aload0 dX4_pass_18 ?_
  refine g_getr ft4 fl_X4_10 (j := 0) (by decide) dX4_pass_19 (by assumption) (by assumption) ?_
  refine g_geti ft0 fl_X4_111 (j := 10) (by decide) dX4_pass_22 (by assumption) ?_
  refine t_istore2 dX4_pass_25 (by decide) okp_i ?_
  refine t_aload0 dX4_pass_26 ?_
  refine g_getr ft4 fl_X4_10 (j := 0) (by decide) dX4_pass_27 (by assumption) (by assumption) ?_
  refine t_iload1 dX4_pass_30 ?_
  refine g_callV1V (C_passHours (l := l) hlt hC31 hR3 rfl hN hI3) rfl ft0 rfl mc_X0_passHours ml_X4_114 mi_X0_passHours ms_X0_passHours in_X0 (okc_X0_passHours (by decide)) dX4_pass_31 (by assumption) (cat_le (Nat.le_of_ble_eq_true rfl)) (fun zim31 zh31 => ?_)
  refine t_aload0 dX4_pass_34 ?_
  refine g_getr ft4 fl_X4_10 (j := 0) (by decide) dX4_pass_35 (by assumption) (by assumption) ?_
  refine g_geti ft0 fl_X4_111 (j := 10) (by decide) dX4_pass_38 (by assumption) ?_
  refine t_iload2 dX4_pass_41 ?_
  refine pw_isub dX4_pass_42 ?_
  refine pw_iret dX4_pass_43 rfl ?_
  obtain ⟨zR, zfr⟩ := zh31
  have zI := hsS_CI hI3 N
  exact ⟨rfl, by rw [zR.1.2.2.2.2.2 10 (by decide) (by decide), hR3.1.2.2.2.2.2 10 (by decide) (by decide)], rfl, hTS3.now zR zI zfr⟩

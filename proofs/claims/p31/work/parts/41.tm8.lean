/-! TideMills: sack, append, undo, keep, restore -/
set_option maxHeartbeats 4000000 in
set_option maxRecDepth 100000 in
theorem C_sack {l : Launch} (hlt : l.stackTraces = false) {im : TI} {rm : TP} {lm : TL} {Z : TI × TP} {S : CS} {n : Nat} {T : Nat → CS} {sn : Option CS} {bl : Nat} {B : Nat → Int32} (hTS : TS Z S n T sn bl B im rm) {x a b : Int32} {m : Nat} (hmo : maO x = some m) (ha : (1 : Int32) ≤ a ∧ a ≤ 999) (hb : (1 : Int32) ≤ b ∧ b ≤ 9999) (hw : hrP S m) : Con l m_X4_sack 8 0 0 NN [pv (some 0), .int (x), .int (a), .int (b)] im rm lm (QG (fun v i r q => v = some (.int (S.1 5)) ∧ q = lm ∧ TS Z (brS S m a b) (shN n) (shT n T S) sn bl B i r)) noX := by
  obtain ⟨⟨hT, hC⟩, ⟨hR, hI⟩, hTS2⟩ := id hTS
  have hk0 := kdT
  have hk79 := kd79
  have hC1 := c1 hC
  have hk1 := hC1.1
  obtain ⟨t0, t1, t2, t4, t5, t7, t8⟩ := id hT
  obtain ⟨hm, zxe⟩ := maO_some hmo
  have hkm := ck_of hC1 hm
  refine Con.ofN (k := 1) (L0 := [some (pv (some 0)), some (.int (x)), some (.int (a)), some (.int (b)), none]) hlt (by decide +kernel) rfl rfl (by rw [en1 pv_cat, en1 rfl, en1 rfl, en1 rfl, en0]; exact Nat.le_of_ble_eq_true rfl) (by rw [en1 pv_cat, en1 rfl, en1 rfl, en1 rfl, en0]; rfl) ?_
  refine t_aload0 dX4_sack_0 ?_
  refine t_iload1 dX4_sack_1 ?_
  refine g_callV1P (C_millOrT (l := l) hlt hT hC hR hmo) rfl ft4 rfl mc_X4_millOrThrow ml_X4_48 mi_X4_millOrThrow ms_X4_millOrThrow in_X4 (okc_X4_millOrThrow (by decide)) dX4_sack_2 (by assumption) (cat_le (Nat.le_of_ble_eq_true rfl)) ?_
  refine t_astore4 dX4_sack_5 (by decide) okp_i ?_
  refine t_iload2 dX4_sack_7 ?_
  refine pw_iconst (1) dX4_sack_8 (by decide) ?_
  refine pw_sipush (999) dX4_sack_9 (by decide) ?_
  refine g_callS3V (C_rangeT (l := l) hlt ha.1 ha.2) rfl mc_X4_requireRange ml_X4_52 mi_X4_requireRange in_X4 (okc_X4_requireRange (by decide)) dX4_sack_12 (Nat.zero_le _) (fun zim12 zh12 => ?_)
  rw [show zim12 = im from zh12]
  refine t_iload3 dX4_sack_15 ?_
  refine pw_iconst (1) dX4_sack_16 (by decide) ?_
  refine pw_sipush (9999) dX4_sack_17 (by decide) ?_
  refine g_callS3V (C_rangeT (l := l) hlt hb.1 hb.2) rfl mc_X4_requireRange ml_X4_52 mi_X4_requireRange in_X4 (okc_X4_requireRange (by decide)) dX4_sack_20 (Nat.zero_le _) (fun zim20 zh20 => ?_)
  rw [show zim20 = im from zh20]
  refine t_aload0 dX4_sack_23 ?_
  refine g_getr ft4 fl_X4_10 (j := 0) (by decide) dX4_sack_24 (by assumption) (by assumption) ?_
  refine t_aload4 dX4_sack_27 ?_
  refine g_callV1P (C_hasRoom (l := l) hlt hC1 hR hm) rfl ft0 rfl mc_X0_hasRoomForSack ml_X4_118 mi_X0_hasRoomForSack ms_X0_hasRoomForSack in_X0 (okc_X0_hasRoomForSack (by decide)) dX4_sack_29 (by assumption) (cat_le (Nat.le_of_ble_eq_true rfl)) ?_
  refine g_callS1V (C_stateT (l := l) hlt (fun z => bI_0.mp z hw)) rfl mc_X4_requireState ml_X4_61 mi_X4_requireState in_X4 (okc_X4_requireState (by decide)) dX4_sack_32 (Nat.zero_le _) (fun zim32 zh32 => ?_)
  rw [show zim32 = im from zh32]
  refine t_aload0 dX4_sack_35 ?_
  refine g_getr ft4 fl_X4_29 (j := 4) (by decide) dX4_sack_36 (by assumption) (by assumption) ?_
  refine t_aload0 dX4_sack_39 ?_
  refine g_getr ft4 fl_X4_10 (j := 0) (by decide) dX4_sack_40 (by assumption) (by assumption) ?_
  refine g_callV1G (C_save (l := l) hlt hC (Classical.choose_spec hTS.2.2.1.1) hR (by decide) (by decide)) rfl ft1 rfl mc_X1_save ml_X4_65 mi_X1_save ms_X1_save in_X1 (okc_X1_save (by decide)) dX4_sack_43 (by assumption) (cat_le (Nat.le_of_ble_eq_true rfl)) (fun _ _ _ _ h => h.elim) (by decide) (fun zv43 zim43 zrm43 zlm43 zh43 => ?_)
  obtain ⟨rfl, rfl, zr, zf, zs2⟩ := zh43
  have hTS3 := hTS.saved zr zf zs2
  obtain ⟨⟨hT3, hC3⟩, ⟨hR3, hI3⟩, hTS4⟩ := id hTS3
  have hC31 := c1 hC3
  obtain ⟨u0, u1, u2, u4, u5, u7, u8⟩ := id hT3
  refine t_aload0 dX4_sack_46 ?_
  refine g_getr ft4 fl_X4_10 (j := 0) (by decide) dX4_sack_47 (by assumption) (by assumption) ?_
  refine t_aload4 dX4_sack_50 ?_
  refine t_iload2 dX4_sack_52 ?_
  refine t_iload3 dX4_sack_53 ?_
  refine g_callV3I (C_bringSack (l := l) hlt hC31 hR3 hm hI3) rfl ft0 rfl mc_X0_bringSack ml_X4_122 mi_X0_bringSack ms_X0_bringSack in_X0 (okc_X0_bringSack (by decide)) dX4_sack_54 (by assumption) (cat_le (Nat.le_of_ble_eq_true rfl)) (fun zx54 zim54 zh54 => ?_)
  refine pw_iret dX4_sack_57 rfl ?_
  rw [if_pos hw] at zh54
  obtain ⟨rfl, zR, zfr⟩ := zh54
  have zc := hI.c hm
  exact ⟨rfl, rfl, rfl, hTS3.now zR (brS_CI hI3 hm ((nI_ltI (b := 6) (by omega) (by decide)).mp (zc.2 ▸ hw.1))) zfr⟩

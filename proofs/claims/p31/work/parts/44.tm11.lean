/-! TideMills: the public methods that tell -/
theorem TS.trial {Z : TI × TP} {S : CS} {n : Nat} {T : Nat → CS} {sn : Option CS} {bl : Nat} {B : Nat → Int32} {im im2 : TI} {rm : TP} (h : TS Z S n T sn bl B im rm) (f : fr 27 im im2) (hN : NB 27 im2) : TS Z S n T sn bl B im2 rm := by
  obtain ⟨h1, h2, ⟨⟨hs, hO⟩, h4⟩, h5, ⟨h6, h7⟩, h8, h9, h10⟩ := h
  have f0 := f 0 (by decide)
  exact ⟨h1, ⟨h2.1.keep fun q a b => f q (by omega), h2.2⟩, ⟨⟨hs, hO.keep fun q a b => f q (by omega)⟩, h4⟩, hN, ⟨h6.keep fun q a b => f q (by omega), fun s hs => ⟨(h7 s hs).1.keep fun q a b => f q (by omega), (h7 s hs).2⟩⟩, by rw [f0]; exact h8, by rw [f0]; exact h9, ⟨by rw [f 237 (by decide)]; exact h10.1, h10.2.keep (fun o ho => f o (by omega)) fun _ _ => rfl⟩⟩
set_option maxHeartbeats 4000000 in
set_option maxRecDepth 100000 in
theorem C_count {l : Launch} (hlt : l.stackTraces = false) {im : TI} {rm : TP} {lm : TL} {Z : TI × TP} {S : CS} {n : Nat} {T : Nat → CS} {sn : Option CS} {bl : Nat} {B : Nat → Int32} (hTS : TS Z S n T sn bl B im rm) {v : Nat} (hv : v ≤ 14) (ha : (0 : Int32) ≤ nI v ∧ nI v ≤ 14) : Con l m_X4_count 8 0 0 NN [pv (some 0), .int (nI v)] im rm lm (QP (.int (alS S n v)) im rm lm) noX := by
  obtain ⟨⟨hT, hC⟩, ⟨hR, hI⟩, hTS2⟩ := id hTS
  have hk0 := kdT
  have hk79 := kd79
  have hC1 := c1 hC
  have hk1 := hC1.1
  obtain ⟨t0, t1, t2, t4, t5, t7, t8⟩ := id hT
  refine Con.ofN (k := 0) (L0 := [some (pv (some 0)), some (.int (nI v))]) hlt (by decide +kernel) rfl rfl (by rw [en1 pv_cat, en1 rfl, en0]; exact Nat.le_of_ble_eq_true rfl) (by rw [en1 pv_cat, en1 rfl, en0]; rfl) ?_
  refine t_iload1 dX4_count_0 ?_
  refine pw_iconst (0) dX4_count_1 (by decide) ?_
  refine pw_bipush (14) dX4_count_2 (by decide) ?_
  refine g_callS3V (C_rangeT (l := l) hlt ha.1 ha.2) rfl mc_X4_requireRange ml_X4_52 mi_X4_requireRange in_X4 (okc_X4_requireRange (by decide)) dX4_count_4 (Nat.zero_le _) (fun zim4 zh4 => ?_)
  rw [show zim4 = im from zh4]
  refine t_aload0 dX4_count_7 ?_
  refine t_iload1 dX4_count_8 ?_
  refine g_callV1P (C_numAll (l := l) hlt hT hC hR (Classical.choose_spec hTS.2.2.1.1).2.1 hv rfl) rfl ft4 rfl mc_X4_numberOfAll ml_X4_210 mi_X4_numberOfAll ms_X4_numberOfAll in_X4 (okc_X4_numberOfAll (by decide)) dX4_count_9 (by assumption) (cat_le (Nat.le_of_ble_eq_true rfl)) ?_
  refine pw_iret dX4_count_12 rfl ?_
  exact ⟨rfl, rfl, rfl, rfl, rfl⟩
set_option maxHeartbeats 4000000 in
set_option maxRecDepth 100000 in
theorem C_mill {l : Launch} (hlt : l.stackTraces = false) {im : TI} {rm : TP} {lm : TL} {Z : TI × TP} {S : CS} {n : Nat} {T : Nat → CS} {sn : Option CS} {bl : Nat} {B : Nat → Int32} (hTS : TS Z S n T sn bl B im rm) {x : Int32} {m v : Nat} (hmo : maO x = some m) (hv : v ≤ 10) (ha : (0 : Int32) ≤ nI v ∧ nI v ≤ 10) : Con l m_X4_mill 8 0 0 NN [pv (some 0), .int (x), .int (nI v)] im rm lm (QP (.int (mlS S m v)) im rm lm) noX := by
  obtain ⟨⟨hT, hC⟩, ⟨hR, hI⟩, hTS2⟩ := id hTS
  have hk0 := kdT
  have hk79 := kd79
  have hC1 := c1 hC
  have hk1 := hC1.1
  obtain ⟨t0, t1, t2, t4, t5, t7, t8⟩ := id hT
  obtain ⟨hm, zxe⟩ := maO_some hmo
  have hkm := ck_of hC1 hm
  refine Con.ofN (k := 1) (L0 := [some (pv (some 0)), some (.int (x)), some (.int (nI v)), none]) hlt (by decide +kernel) rfl rfl (by rw [en1 pv_cat, en1 rfl, en1 rfl, en0]; exact Nat.le_of_ble_eq_true rfl) (by rw [en1 pv_cat, en1 rfl, en1 rfl, en0]; rfl) ?_
  refine t_aload0 dX4_mill_0 ?_
  refine t_iload1 dX4_mill_1 ?_
  refine g_callV1P (C_millOrT (l := l) hlt hT hC hR hmo) rfl ft4 rfl mc_X4_millOrThrow ml_X4_48 mi_X4_millOrThrow ms_X4_millOrThrow in_X4 (okc_X4_millOrThrow (by decide)) dX4_mill_2 (by assumption) (cat_le (Nat.le_of_ble_eq_true rfl)) ?_
  refine t_astore3 dX4_mill_5 (by decide) okp_i ?_
  refine t_iload2 dX4_mill_6 ?_
  refine pw_iconst (0) dX4_mill_7 (by decide) ?_
  refine pw_bipush (10) dX4_mill_8 (by decide) ?_
  refine g_callS3V (C_rangeT (l := l) hlt ha.1 ha.2) rfl mc_X4_requireRange ml_X4_52 mi_X4_requireRange in_X4 (okc_X4_requireRange (by decide)) dX4_mill_10 (Nat.zero_le _) (fun zim10 zh10 => ?_)
  rw [show zim10 = im from zh10]
  refine t_aload0 dX4_mill_13 ?_
  refine t_aload3 dX4_mill_14 ?_
  refine t_iload2 dX4_mill_15 ?_
  refine g_callV2P (C_numMill (l := l) hlt hT hC hR hm hv rfl) rfl ft4 rfl mc_X4_numberOfMill ml_X4_187 mi_X4_numberOfMill ms_X4_numberOfMill in_X4 (okc_X4_numberOfMill (by decide)) dX4_mill_16 (by assumption) (cat_le (Nat.le_of_ble_eq_true rfl)) ?_
  refine pw_iret dX4_mill_19 rfl ?_
  exact ⟨rfl, rfl, rfl, rfl, rfl⟩
set_option maxHeartbeats 4000000 in
set_option maxRecDepth 100000 in
theorem C_sackAt {l : Launch} (hlt : l.stackTraces = false) {im : TI} {rm : TP} {lm : TL} {Z : TI × TP} {S : CS} {n : Nat} {T : Nat → CS} {sn : Option CS} {bl : Nat} {B : Nat → Int32} (hTS : TS Z S n T sn bl B im rm) {x a : Int32} {m : Nat} (hmo : maO x = some m) (ha : (0 : Int32) ≤ a ∧ a ≤ 2147483647) : Con l m_X4_sackAt 8 0 0 NN [pv (some 0), .int (x), .int (a)] im rm lm (QP (.int (if ¬ a < 0 ∧ a < im (mA 1 m) 11 ∧ a < 6 then im (mA 1 m + 1) a.toNatClampNeg else -1)) im rm lm) noX := by
  obtain ⟨⟨hT, hC⟩, ⟨hR, hI⟩, hTS2⟩ := id hTS
  have hk0 := kdT
  have hk79 := kd79
  have hC1 := c1 hC
  have hk1 := hC1.1
  obtain ⟨t0, t1, t2, t4, t5, t7, t8⟩ := id hT
  obtain ⟨hm, zxe⟩ := maO_some hmo
  have hkm := ck_of hC1 hm
  refine Con.ofN (k := 1) (L0 := [some (pv (some 0)), some (.int (x)), some (.int (a)), none]) hlt (by decide +kernel) rfl rfl (by rw [en1 pv_cat, en1 rfl, en1 rfl, en0]; exact Nat.le_of_ble_eq_true rfl) (by rw [en1 pv_cat, en1 rfl, en1 rfl, en0]; rfl) ?_
  refine t_aload0 dX4_sackAt_0 ?_
  refine t_iload1 dX4_sackAt_1 ?_
  refine g_callV1P (C_millOrT (l := l) hlt hT hC hR hmo) rfl ft4 rfl mc_X4_millOrThrow ml_X4_48 mi_X4_millOrThrow ms_X4_millOrThrow in_X4 (okc_X4_millOrThrow (by decide)) dX4_sackAt_2 (by assumption) (cat_le (Nat.le_of_ble_eq_true rfl)) ?_
  refine t_astore3 dX4_sackAt_5 (by decide) okp_i ?_
  refine t_iload2 dX4_sackAt_6 ?_
  refine g_callS1V (C_belowT (l := l) hlt ha.1 ha.2) rfl mc_X4_requireNotBelowZero ml_X4_191 mi_X4_requireNotBelowZero in_X4 (okc_X4_requireNotBelowZero (by decide)) dX4_sackAt_7 (Nat.zero_le _) (fun zim7 zh7 => ?_)
  rw [show zim7 = im from zh7]
  refine t_aload3 dX4_sackAt_10 ?_
  refine t_iload2 dX4_sackAt_11 ?_
  refine g_callV1P (C_numberAt (l := l) hlt (hC1.2.2.1 m hm)) rfl ft2 rfl mc_X2_numberAt ml_X4_194 mi_X2_numberAt ms_X2_numberAt in_X2 (okc_X2_numberAt (by decide)) dX4_sackAt_12 (by assumption) (cat_le (Nat.le_of_ble_eq_true rfl)) ?_
  refine pw_iret dX4_sackAt_15 rfl ?_
  exact ⟨rfl, rfl, rfl, rfl, rfl⟩
set_option maxHeartbeats 4000000 in
set_option maxRecDepth 100000 in
theorem C_sackOf {l : Launch} (hlt : l.stackTraces = false) {im : TI} {rm : TP} {lm : TL} {Z : TI × TP} {S : CS} {n : Nat} {T : Nat → CS} {sn : Option CS} {bl : Nat} {B : Nat → Int32} (hTS : TS Z S n T sn bl B im rm) {x : Int32} {m p v : Nat} (hmo : moS S x = some m) (hp : poS S m x = some p) (hv : v ≤ 4) (ha : (0 : Int32) ≤ nI v ∧ nI v ≤ 4) : Con l m_X4_sackOf 8 0 0 NN [pv (some 0), .int (x), .int (nI v)] im rm lm (QP (.int (if v = 0 then nI m else if v = 4 then nI p else S.2.2 m p v)) im rm lm) noX := by
  obtain ⟨⟨hT, hC⟩, ⟨hR, hI⟩, hTS2⟩ := id hTS
  have hk0 := kdT
  have hk79 := kd79
  have hC1 := c1 hC
  have hk1 := hC1.1
  obtain ⟨t0, t1, t2, t4, t5, t7, t8⟩ := id hT
  have hm := (moS_lt hmo).1
  have hkm := ck_of hC1 hm
  obtain ⟨hpc, hp6, hp0⟩ := poS_lt hI hm hp
  refine Con.ofN (k := 1) (L0 := [some (pv (some 0)), some (.int (x)), some (.int (nI v)), none]) hlt (by decide +kernel) rfl rfl (by rw [en1 pv_cat, en1 rfl, en1 rfl, en0]; exact Nat.le_of_ble_eq_true rfl) (by rw [en1 pv_cat, en1 rfl, en1 rfl, en0]; rfl) ?_
  refine t_iload2 dX4_sackOf_0 ?_
  refine pw_iconst (0) dX4_sackOf_1 (by decide) ?_
  refine pw_iconst (4) dX4_sackOf_2 (by decide) ?_
  refine g_callS3V (C_rangeT (l := l) hlt ha.1 ha.2) rfl mc_X4_requireRange ml_X4_52 mi_X4_requireRange in_X4 (okc_X4_requireRange (by decide)) dX4_sackOf_3 (Nat.zero_le _) (fun zim3 zh3 => ?_)
  rw [show zim3 = im from zh3]
  refine t_aload0 dX4_sackOf_6 ?_
  refine g_getr ft4 fl_X4_10 (j := 0) (by decide) dX4_sackOf_7 (by assumption) (by assumption) ?_
  refine t_iload1 dX4_sackOf_10 ?_
  refine g_callV1P (C_millOfSack (l := l) hlt hC1 hR hI) rfl ft0 rfl mc_X0_millOfSack ml_X4_197 mi_X0_millOfSack ms_X0_millOfSack in_X0 (okc_X0_millOfSack (by decide)) dX4_sackOf_11 (by assumption) (cat_le (Nat.le_of_ble_eq_true rfl)) ?_
  rw [hmo, gm_s]
  refine t_astore3 dX4_sackOf_14 (by decide) okp_i ?_
  refine t_aload3 dX4_sackOf_15 ?_
  refine pw_ifnonnull 23 dX4_sackOf_16 (by decide) (fun zy16 zc16 => ?_) (fun zc16 => ?_)
  · refine t_aload3 dX4_sackOf_23 ?_
    refine t_aload3 dX4_sackOf_24 ?_
    refine t_iload1 dX4_sackOf_25 ?_
    refine g_callV1P (C_place (l := l) hlt hC1 hR hI hm) rfl ft2 rfl mc_X2_placeOf ml_X4_132 mi_X2_placeOf ms_X2_placeOf in_X2 (okc_X2_placeOf (by decide)) dX4_sackOf_26 (by assumption) (cat_le (Nat.le_of_ble_eq_true rfl)) ?_
    rw [hp, show oI (some p) = nI p from rfl]
    refine t_iload2 dX4_sackOf_29 ?_
    refine g_callS3P (C_numSack (l := l) hlt hT hC hR hI hm hpc rfl hv rfl) rfl mc_X4_numberOfSack ml_X4_200 mi_X4_numberOfSack in_X4 (okc_X4_numberOfSack (by decide)) dX4_sackOf_30 (Nat.zero_le _) ?_
    refine pw_iret dX4_sackOf_33 rfl ?_
    exact ⟨rfl, rfl, rfl, rfl, rfl⟩
  · exact absurd zc16 (fun z => by cases z)
set_option maxHeartbeats 4000000 in
set_option maxRecDepth 100000 in
theorem C_sackOfN {l : Launch} (hlt : l.stackTraces = false) {im : TI} {rm : TP} {lm : TL} {Z : TI × TP} {S : CS} {n : Nat} {T : Nat → CS} {sn : Option CS} {bl : Nat} {B : Nat → Int32} (hTS : TS Z S n T sn bl B im rm) {x a : Int32} (hmo : moS S x = none) (ha : (0 : Int32) ≤ a ∧ a ≤ 4) : Con l m_X4_sackOf 8 0 0 NN [pv (some 0), .int (x), .int (a)] im rm lm (QP (.int (-1)) im rm lm) noX := by
  obtain ⟨⟨hT, hC⟩, ⟨hR, hI⟩, hTS2⟩ := id hTS
  have hk0 := kdT
  have hk79 := kd79
  have hC1 := c1 hC
  have hk1 := hC1.1
  obtain ⟨t0, t1, t2, t4, t5, t7, t8⟩ := id hT
  refine Con.ofN (k := 1) (L0 := [some (pv (some 0)), some (.int (x)), some (.int (a)), none]) hlt (by decide +kernel) rfl rfl (by rw [en1 pv_cat, en1 rfl, en1 rfl, en0]; exact Nat.le_of_ble_eq_true rfl) (by rw [en1 pv_cat, en1 rfl, en1 rfl, en0]; rfl) ?_
  refine t_iload2 dX4_sackOf_0 ?_
  refine pw_iconst (0) dX4_sackOf_1 (by decide) ?_
  refine pw_iconst (4) dX4_sackOf_2 (by decide) ?_
  refine g_callS3V (C_rangeT (l := l) hlt ha.1 ha.2) rfl mc_X4_requireRange ml_X4_52 mi_X4_requireRange in_X4 (okc_X4_requireRange (by decide)) dX4_sackOf_3 (Nat.zero_le _) (fun zim3 zh3 => ?_)
  rw [show zim3 = im from zh3]
  refine t_aload0 dX4_sackOf_6 ?_
  refine g_getr ft4 fl_X4_10 (j := 0) (by decide) dX4_sackOf_7 (by assumption) (by assumption) ?_
  refine t_iload1 dX4_sackOf_10 ?_
  refine g_callV1P (C_millOfSack (l := l) hlt hC1 hR hI) rfl ft0 rfl mc_X0_millOfSack ml_X4_197 mi_X0_millOfSack ms_X0_millOfSack in_X0 (okc_X0_millOfSack (by decide)) dX4_sackOf_11 (by assumption) (cat_le (Nat.le_of_ble_eq_true rfl)) ?_
  rw [hmo, show gm 1 none = none from rfl]
  refine t_astore3 dX4_sackOf_14 (by decide) okp_i ?_
  refine t_aload3 dX4_sackOf_15 ?_
  refine pw_ifnonnull 23 dX4_sackOf_16 (by decide) (fun zy16 zc16 => ?_) (fun zc16 => ?_)
  · exact absurd zc16 (fun z => by cases z)
  · refine pw_iconst (-1) dX4_sackOf_19 (by decide) ?_
    refine pw_goto 33 dX4_sackOf_20 (by decide) ?_
    refine pw_iret dX4_sackOf_33 rfl ?_
    exact ⟨rfl, rfl, rfl, rfl, rfl⟩
set_option maxHeartbeats 4000000 in
set_option maxRecDepth 100000 in
theorem C_whyNot {l : Launch} (hlt : l.stackTraces = false) {im : TI} {rm : TP} {lm : TL} {Z : TI × TP} {S : CS} {n : Nat} {T : Nat → CS} {sn : Option CS} {bl : Nat} {B : Nat → Int32} (hTS : TS Z S n T sn bl B im rm) {x : Int32} {m : Nat} (hmo : maO x = some m) : Con l m_X4_whyNot 8 0 0 NN [pv (some 0), .int (x)] im rm lm (QP (.int (rsF S m)) im rm lm) noX := by
  obtain ⟨⟨hT, hC⟩, ⟨hR, hI⟩, hTS2⟩ := id hTS
  have hk0 := kdT
  have hk79 := kd79
  have hC1 := c1 hC
  have hk1 := hC1.1
  obtain ⟨t0, t1, t2, t4, t5, t7, t8⟩ := id hT
  obtain ⟨hm, zxe⟩ := maO_some hmo
  have hkm := ck_of hC1 hm
  refine Con.ofN (k := 0) (L0 := [some (pv (some 0)), some (.int (x))]) hlt (by decide +kernel) rfl rfl (by rw [en1 pv_cat, en1 rfl, en0]; exact Nat.le_of_ble_eq_true rfl) (by rw [en1 pv_cat, en1 rfl, en0]; rfl) ?_
  refine t_aload0 dX4_whyNot_0 ?_
  refine g_getr ft4 fl_X4_10 (j := 0) (by decide) dX4_whyNot_1 (by assumption) (by assumption) ?_
  refine t_aload0 dX4_whyNot_4 ?_
  refine t_iload1 dX4_whyNot_5 ?_
  refine g_callV1P (C_millOrT (l := l) hlt hT hC hR hmo) rfl ft4 rfl mc_X4_millOrThrow ml_X4_48 mi_X4_millOrThrow ms_X4_millOrThrow in_X4 (okc_X4_millOrThrow (by decide)) dX4_whyNot_6 (by assumption) (cat_le (Nat.le_of_ble_eq_true rfl)) ?_
  refine g_callV1P (C_reason (l := l) hlt hC1 hR hm) rfl ft0 rfl mc_X0_reasonToRest ml_X4_203 mi_X0_reasonToRest ms_X0_reasonToRest in_X0 (okc_X0_reasonToRest (by decide)) dX4_whyNot_9 (by assumption) (cat_le (Nat.le_of_ble_eq_true rfl)) ?_
  refine pw_iret dX4_whyNot_12 rfl ?_
  exact ⟨rfl, rfl, rfl, rfl, rfl⟩
set_option maxHeartbeats 4000000 in
set_option maxRecDepth 100000 in
theorem C_ifPassed0 {l : Launch} (hlt : l.stackTraces = false) {im : TI} {rm : TP} {lm : TL} {Z : TI × TP} {S : CS} {n : Nat} {T : Nat → CS} {sn : Option CS} {bl : Nat} {B : Nat → Int32} (hTS : TS Z S n T sn bl B im rm) {N : Nat} (hN : N < 2 ^ 31) (ha : (1 : Int32) ≤ nI N ∧ nI N ≤ 48) : Con l m_X4_ifPassed 8 0 0 NN [pv (some 0), .int (nI N), .int (0)] im rm lm (QG (fun v i r q => v = some (.int ((hsS N S).1 6 - S.1 6)) ∧ q = lm ∧ TS Z S n T sn bl B i r)) noX := by
  obtain ⟨⟨hT, hC⟩, ⟨hR, hI⟩, hTS2⟩ := id hTS
  have hk0 := kdT
  have hk79 := kd79
  have hC1 := c1 hC
  have hk1 := hC1.1
  obtain ⟨t0, t1, t2, t4, t5, t7, t8⟩ := id hT
  refine Con.ofN (k := 0) (L0 := [some (pv (some 0)), some (.int (nI N)), some (.int (0))]) hlt (by decide +kernel) rfl rfl (by rw [en1 pv_cat, en1 rfl, en1 rfl, en0]; exact Nat.le_of_ble_eq_true rfl) (by rw [en1 pv_cat, en1 rfl, en1 rfl, en0]; rfl) ?_
  refine t_iload1 dX4_ifPassed_0 ?_
  refine pw_iconst (1) dX4_ifPassed_1 (by decide) ?_
  refine pw_bipush (48) dX4_ifPassed_2 (by decide) ?_
  refine g_callS3V (C_rangeT (l := l) hlt ha.1 ha.2) rfl mc_X4_requireRange ml_X4_52 mi_X4_requireRange in_X4 (okc_X4_requireRange (by decide)) dX4_ifPassed_4 (Nat.zero_le _) (fun zim4 zh4 => ?_)
  rw [show zim4 = im from zh4]
  refine t_iload2 dX4_ifPassed_7 ?_
  refine pw_iconst (0) dX4_ifPassed_8 (by decide) ?_
  refine pw_iconst (3) dX4_ifPassed_9 (by decide) ?_
  refine g_callS3V (C_rangeT (l := l) hlt (by decide) (by decide)) rfl mc_X4_requireRange ml_X4_52 mi_X4_requireRange in_X4 (okc_X4_requireRange (by decide)) dX4_ifPassed_10 (Nat.zero_le _) (fun zim10 zh10 => ?_)
  rw [show zim10 = im from zh10]
  refine t_aload0 dX4_ifPassed_13 ?_
  refine t_iload1 dX4_ifPassed_14 ?_
  refine t_iload2 dX4_ifPassed_15 ?_
  refine g_callV2I (C_foreseen0 (l := l) hlt hT hC hR hI hTS.2.2.2.1 rfl hN) rfl ft4 rfl mc_X4_foreseen ml_X4_223 mi_X4_foreseen ms_X4_foreseen in_X4 (okc_X4_foreseen (by decide)) dX4_ifPassed_16 (by assumption) (cat_le (Nat.le_of_ble_eq_true rfl)) (fun zx16 zim16 zh16 => ?_)
  refine pw_iret dX4_ifPassed_19 rfl ?_
  obtain ⟨rfl, zf, zN⟩ := zh16
  exact ⟨rfl, rfl, rfl, hTS.trial zf zN⟩
set_option maxHeartbeats 4000000 in
set_option maxRecDepth 100000 in
theorem C_ifPassed1 {l : Launch} (hlt : l.stackTraces = false) {im : TI} {rm : TP} {lm : TL} {Z : TI × TP} {S : CS} {n : Nat} {T : Nat → CS} {sn : Option CS} {bl : Nat} {B : Nat → Int32} (hTS : TS Z S n T sn bl B im rm) {N : Nat} (hN : N < 2 ^ 31) (ha : (1 : Int32) ≤ nI N ∧ nI N ≤ 48) : Con l m_X4_ifPassed 8 0 0 NN [pv (some 0), .int (nI N), .int (1)] im rm lm (QG (fun v i r q => v = some (.int ((hsS N S).1 7 - S.1 7)) ∧ q = lm ∧ TS Z S n T sn bl B i r)) noX := by
  obtain ⟨⟨hT, hC⟩, ⟨hR, hI⟩, hTS2⟩ := id hTS
  have hk0 := kdT
  have hk79 := kd79
  have hC1 := c1 hC
  have hk1 := hC1.1
  obtain ⟨t0, t1, t2, t4, t5, t7, t8⟩ := id hT
  refine Con.ofN (k := 0) (L0 := [some (pv (some 0)), some (.int (nI N)), some (.int (1))]) hlt (by decide +kernel) rfl rfl (by rw [en1 pv_cat, en1 rfl, en1 rfl, en0]; exact Nat.le_of_ble_eq_true rfl) (by rw [en1 pv_cat, en1 rfl, en1 rfl, en0]; rfl) ?_
  refine t_iload1 dX4_ifPassed_0 ?_
  refine pw_iconst (1) dX4_ifPassed_1 (by decide) ?_
  refine pw_bipush (48) dX4_ifPassed_2 (by decide) ?_
  refine g_callS3V (C_rangeT (l := l) hlt ha.1 ha.2) rfl mc_X4_requireRange ml_X4_52 mi_X4_requireRange in_X4 (okc_X4_requireRange (by decide)) dX4_ifPassed_4 (Nat.zero_le _) (fun zim4 zh4 => ?_)
  rw [show zim4 = im from zh4]
  refine t_iload2 dX4_ifPassed_7 ?_
  refine pw_iconst (0) dX4_ifPassed_8 (by decide) ?_
  refine pw_iconst (3) dX4_ifPassed_9 (by decide) ?_
  refine g_callS3V (C_rangeT (l := l) hlt (by decide) (by decide)) rfl mc_X4_requireRange ml_X4_52 mi_X4_requireRange in_X4 (okc_X4_requireRange (by decide)) dX4_ifPassed_10 (Nat.zero_le _) (fun zim10 zh10 => ?_)
  rw [show zim10 = im from zh10]
  refine t_aload0 dX4_ifPassed_13 ?_
  refine t_iload1 dX4_ifPassed_14 ?_
  refine t_iload2 dX4_ifPassed_15 ?_
  refine g_callV2I (C_foreseen1 (l := l) hlt hT hC hR hI hTS.2.2.2.1 rfl hN) rfl ft4 rfl mc_X4_foreseen ml_X4_223 mi_X4_foreseen ms_X4_foreseen in_X4 (okc_X4_foreseen (by decide)) dX4_ifPassed_16 (by assumption) (cat_le (Nat.le_of_ble_eq_true rfl)) (fun zx16 zim16 zh16 => ?_)
  refine pw_iret dX4_ifPassed_19 rfl ?_
  obtain ⟨rfl, zf, zN⟩ := zh16
  exact ⟨rfl, rfl, rfl, hTS.trial zf zN⟩
set_option maxHeartbeats 4000000 in
set_option maxRecDepth 100000 in
theorem C_ifPassed2 {l : Launch} (hlt : l.stackTraces = false) {im : TI} {rm : TP} {lm : TL} {Z : TI × TP} {S : CS} {n : Nat} {T : Nat → CS} {sn : Option CS} {bl : Nat} {B : Nat → Int32} (hTS : TS Z S n T sn bl B im rm) {N : Nat} (hN : N < 2 ^ 31) (ha : (1 : Int32) ≤ nI N ∧ nI N ≤ 48) : Con l m_X4_ifPassed 8 0 0 NN [pv (some 0), .int (nI N), .int (2)] im rm lm (QG (fun v i r q => v = some (.int ((hsS N S).1 2 - S.1 2)) ∧ q = lm ∧ TS Z S n T sn bl B i r)) noX := by
  obtain ⟨⟨hT, hC⟩, ⟨hR, hI⟩, hTS2⟩ := id hTS
  have hk0 := kdT
  have hk79 := kd79
  have hC1 := c1 hC
  have hk1 := hC1.1
  obtain ⟨t0, t1, t2, t4, t5, t7, t8⟩ := id hT
  refine Con.ofN (k := 0) (L0 := [some (pv (some 0)), some (.int (nI N)), some (.int (2))]) hlt (by decide +kernel) rfl rfl (by rw [en1 pv_cat, en1 rfl, en1 rfl, en0]; exact Nat.le_of_ble_eq_true rfl) (by rw [en1 pv_cat, en1 rfl, en1 rfl, en0]; rfl) ?_
  refine t_iload1 dX4_ifPassed_0 ?_
  refine pw_iconst (1) dX4_ifPassed_1 (by decide) ?_
  refine pw_bipush (48) dX4_ifPassed_2 (by decide) ?_
  refine g_callS3V (C_rangeT (l := l) hlt ha.1 ha.2) rfl mc_X4_requireRange ml_X4_52 mi_X4_requireRange in_X4 (okc_X4_requireRange (by decide)) dX4_ifPassed_4 (Nat.zero_le _) (fun zim4 zh4 => ?_)
  rw [show zim4 = im from zh4]
  refine t_iload2 dX4_ifPassed_7 ?_
  refine pw_iconst (0) dX4_ifPassed_8 (by decide) ?_
  refine pw_iconst (3) dX4_ifPassed_9 (by decide) ?_
  refine g_callS3V (C_rangeT (l := l) hlt (by decide) (by decide)) rfl mc_X4_requireRange ml_X4_52 mi_X4_requireRange in_X4 (okc_X4_requireRange (by decide)) dX4_ifPassed_10 (Nat.zero_le _) (fun zim10 zh10 => ?_)
  rw [show zim10 = im from zh10]
  refine t_aload0 dX4_ifPassed_13 ?_
  refine t_iload1 dX4_ifPassed_14 ?_
  refine t_iload2 dX4_ifPassed_15 ?_
  refine g_callV2I (C_foreseen2 (l := l) hlt hT hC hR hI hTS.2.2.2.1 rfl hN) rfl ft4 rfl mc_X4_foreseen ml_X4_223 mi_X4_foreseen ms_X4_foreseen in_X4 (okc_X4_foreseen (by decide)) dX4_ifPassed_16 (by assumption) (cat_le (Nat.le_of_ble_eq_true rfl)) (fun zx16 zim16 zh16 => ?_)
  refine pw_iret dX4_ifPassed_19 rfl ?_
  obtain ⟨rfl, zf, zN⟩ := zh16
  exact ⟨rfl, rfl, rfl, hTS.trial zf zN⟩
set_option maxHeartbeats 4000000 in
set_option maxRecDepth 100000 in
theorem C_ifPassed3 {l : Launch} (hlt : l.stackTraces = false) {im : TI} {rm : TP} {lm : TL} {Z : TI × TP} {S : CS} {n : Nat} {T : Nat → CS} {sn : Option CS} {bl : Nat} {B : Nat → Int32} (hTS : TS Z S n T sn bl B im rm) {N : Nat} (hN : N < 2 ^ 31) (ha : (1 : Int32) ≤ nI N ∧ nI N ≤ 48) : Con l m_X4_ifPassed 8 0 0 NN [pv (some 0), .int (nI N), .int (3)] im rm lm (QG (fun v i r q => v = some (.int ((hsS N S).1 4 - S.1 4)) ∧ q = lm ∧ TS Z S n T sn bl B i r)) noX := by
  obtain ⟨⟨hT, hC⟩, ⟨hR, hI⟩, hTS2⟩ := id hTS
  have hk0 := kdT
  have hk79 := kd79
  have hC1 := c1 hC
  have hk1 := hC1.1
  obtain ⟨t0, t1, t2, t4, t5, t7, t8⟩ := id hT
  refine Con.ofN (k := 0) (L0 := [some (pv (some 0)), some (.int (nI N)), some (.int (3))]) hlt (by decide +kernel) rfl rfl (by rw [en1 pv_cat, en1 rfl, en1 rfl, en0]; exact Nat.le_of_ble_eq_true rfl) (by rw [en1 pv_cat, en1 rfl, en1 rfl, en0]; rfl) ?_
  refine t_iload1 dX4_ifPassed_0 ?_
  refine pw_iconst (1) dX4_ifPassed_1 (by decide) ?_
  refine pw_bipush (48) dX4_ifPassed_2 (by decide) ?_
  refine g_callS3V (C_rangeT (l := l) hlt ha.1 ha.2) rfl mc_X4_requireRange ml_X4_52 mi_X4_requireRange in_X4 (okc_X4_requireRange (by decide)) dX4_ifPassed_4 (Nat.zero_le _) (fun zim4 zh4 => ?_)
  rw [show zim4 = im from zh4]
  refine t_iload2 dX4_ifPassed_7 ?_
  refine pw_iconst (0) dX4_ifPassed_8 (by decide) ?_
  refine pw_iconst (3) dX4_ifPassed_9 (by decide) ?_
  refine g_callS3V (C_rangeT (l := l) hlt (by decide) (by decide)) rfl mc_X4_requireRange ml_X4_52 mi_X4_requireRange in_X4 (okc_X4_requireRange (by decide)) dX4_ifPassed_10 (Nat.zero_le _) (fun zim10 zh10 => ?_)
  rw [show zim10 = im from zh10]
  refine t_aload0 dX4_ifPassed_13 ?_
  refine t_iload1 dX4_ifPassed_14 ?_
  refine t_iload2 dX4_ifPassed_15 ?_
  refine g_callV2I (C_foreseen3 (l := l) hlt hT hC hR hI hTS.2.2.2.1 rfl hN) rfl ft4 rfl mc_X4_foreseen ml_X4_223 mi_X4_foreseen ms_X4_foreseen in_X4 (okc_X4_foreseen (by decide)) dX4_ifPassed_16 (by assumption) (cat_le (Nat.le_of_ble_eq_true rfl)) (fun zx16 zim16 zh16 => ?_)
  refine pw_iret dX4_ifPassed_19 rfl ?_
  obtain ⟨rfl, zf, zN⟩ := zh16
  exact ⟨rfl, rfl, rfl, hTS.trial zf zN⟩
set_option maxHeartbeats 4000000 in
set_option maxRecDepth 100000 in
theorem C_groundIn {l : Launch} (hlt : l.stackTraces = false) {im : TI} {rm : TP} {lm : TL} {Z : TI × TP} {S : CS} {n : Nat} {T : Nat → CS} {sn : Option CS} {bl : Nat} {B : Nat → Int32} (hTS : TS Z S n T sn bl B im rm) {x : Int32} : Con l m_X4_groundIn 8 0 0 NN [pv (some 0), .int (x)] im rm lm (QG (fun v i r q => v = some (.int (oI (gbS S x))) ∧ q = lm ∧ TS Z S n T sn bl B i r)) noX := by
  obtain ⟨⟨hT, hC⟩, ⟨hR, hI⟩, hTS2⟩ := id hTS
  have hk0 := kdT
  have hk79 := kd79
  have hC1 := c1 hC
  have hk1 := hC1.1
  obtain ⟨t0, t1, t2, t4, t5, t7, t8⟩ := id hT
  refine Con.ofN (k := 0) (L0 := [some (pv (some 0)), some (.int (x))]) hlt (by decide +kernel) rfl rfl (by rw [en1 pv_cat, en1 rfl, en0]; exact Nat.le_of_ble_eq_true rfl) (by rw [en1 pv_cat, en1 rfl, en0]; rfl) ?_
  refine t_aload0 dX4_groundIn_0 ?_
  refine t_iload1 dX4_groundIn_1 ?_
  refine g_callV1I (C_hoursTo (l := l) hlt hT hC hR hI hTS.2.2.2.1) rfl ft4 rfl mc_X4_hoursToGround ml_X4_227 mi_X4_hoursToGround ms_X4_hoursToGround in_X4 (okc_X4_hoursToGround (by decide)) dX4_groundIn_2 (by assumption) (cat_le (Nat.le_of_ble_eq_true rfl)) (fun zx2 zim2 zh2 => ?_)
  refine pw_iret dX4_groundIn_5 rfl ?_
  obtain ⟨rfl, zf, zN⟩ := zh2
  exact ⟨rfl, rfl, rfl, hTS.trial zf zN⟩
set_option maxHeartbeats 4000000 in
set_option maxRecDepth 100000 in
theorem C_bestStone {l : Launch} (hlt : l.stackTraces = false) {im : TI} {rm : TP} {lm : TL} {Z : TI × TP} {S : CS} {n : Nat} {T : Nat → CS} {sn : Option CS} {bl : Nat} {B : Nat → Int32} (hTS : TS Z S n T sn bl B im rm) {x : Int32} {m : Nat} (hmo : maO x = some m) : Con l m_X4_bestStone 8 0 0 NN [pv (some 0), .int (x)] im rm lm (QG (fun v i r q => v = some (.int (bsS S m)) ∧ q = lm ∧ TS Z S n T sn bl B i r)) noX := by
  obtain ⟨⟨hT, hC⟩, ⟨hR, hI⟩, hTS2⟩ := id hTS
  have hk0 := kdT
  have hk79 := kd79
  have hC1 := c1 hC
  have hk1 := hC1.1
  obtain ⟨t0, t1, t2, t4, t5, t7, t8⟩ := id hT
  obtain ⟨hm, zxe⟩ := maO_some hmo
  have hkm := ck_of hC1 hm
  refine Con.ofN (k := 0) (L0 := [some (pv (some 0)), some (.int (x))]) hlt (by decide +kernel) rfl rfl (by rw [en1 pv_cat, en1 rfl, en0]; exact Nat.le_of_ble_eq_true rfl) (by rw [en1 pv_cat, en1 rfl, en0]; rfl) ?_
  refine t_aload0 dX4_bestStone_0 ?_
  refine t_aload0 dX4_bestStone_1 ?_
  refine t_iload1 dX4_bestStone_2 ?_
  refine g_callV1P (C_millOrT (l := l) hlt hT hC hR hmo) rfl ft4 rfl mc_X4_millOrThrow ml_X4_48 mi_X4_millOrThrow ms_X4_millOrThrow in_X4 (okc_X4_millOrThrow (by decide)) dX4_bestStone_3 (by assumption) (cat_le (Nat.le_of_ble_eq_true rfl)) ?_
  refine g_callV1I (C_stone (l := l) hlt hT hC hR hI hTS.2.2.2.1 hm) rfl ft4 rfl mc_X4_stoneThatGrindsMost ml_X4_230 mi_X4_stoneThatGrindsMost ms_X4_stoneThatGrindsMost in_X4 (okc_X4_stoneThatGrindsMost (by decide)) dX4_bestStone_6 (by assumption) (cat_le (Nat.le_of_ble_eq_true rfl)) (fun zx6 zim6 zh6 => ?_)
  refine pw_iret dX4_bestStone_9 rfl ?_
  obtain ⟨rfl, zf, zN⟩ := zh6
  exact ⟨rfl, rfl, rfl, hTS.trial zf zN⟩

/-! TideMills: more public methods that change it -/
theorem brS_CI {S : CS} {m : Nat} {h due : Int32} (hI : CI S) (hm : m < 5) (h6 : cnt S m < 6) : CI (brS S m h due) := by
  intro q hq
  by_cases e : q = m
  · subst e
    exact ⟨cnt S q + 1, by omega, by unfold brS inS upM upG; dsimp only; rw [if_pos rfl, if_pos rfl]⟩
  · obtain ⟨k, hk, he⟩ := hI q hq
    exact ⟨k, hk, by unfold brS inS upM upG; dsimp only; rw [if_neg e]; exact he⟩
theorem TS.row0 {Z : TI × TP} {S : CS} {n : Nat} {T : Nat → CS} {sn : Option CS} {bl b2 : Nat} {B B2 : Nat → Int32} {im im2 : TI} {rm : TP} (h : TS Z S n T sn bl B im rm) (e : ∀ o, o ≠ 0 → o ≠ 237 → im2 o = im o) (e3 : im2 0 3 = im 0 3) (e6 : im2 0 6 = nI b2) (h60 : b2 ≤ 60) (eB : ∀ j, j < 60 → im2 237 j = B2 j) : TS Z S n T sn b2 B2 im2 rm := by
  obtain ⟨h1, h2, ⟨⟨hs, hO⟩, h4⟩, h5, ⟨h6, h7⟩, h8, h9, h10⟩ := h
  exact ⟨h1, ⟨h2.1.keep fun q a b => e q (by omega) (by omega), h2.2⟩, ⟨⟨hs, hO.keep fun q a b => e q (by omega) (by omega)⟩, h4⟩, h5.keep fun q a b => e q (by omega) (by omega), ⟨h6.keep fun q a b => e q (by omega) (by omega), fun s hs => ⟨(h7 s hs).1.keep fun q a b => e q (by omega) (by omega), (h7 s hs).2⟩⟩, by rw [e3]; exact h8, ⟨e6, h60⟩, ⟨eB, h10.2.keep (fun o ho => e o (by omega) (by omega)) fun _ _ => rfl⟩⟩
set_option maxHeartbeats 4000000 in
set_option maxRecDepth 100000 in
theorem C_gate {l : Launch} (hlt : l.stackTraces = false) {im : TI} {rm : TP} {lm : TL} {Z : TI × TP} {S : CS} {n : Nat} {T : Nat → CS} {sn : Option CS} {bl : Nat} {B : Nat → Int32} (hTS : TS Z S n T sn bl B im rm) {x a b : Int32} {m : Nat} (hmo : maO x = some m) (ha : (0 : Int32) ≤ a ∧ a ≤ 11) (hb : a ≤ b ∧ b ≤ 11)  : Con l m_X4_gate 8 0 0 NN [pv (some 0), .int (x), .int (a), .int (b)] im rm lm (QG (fun v i r q => v = some (.int (S.2.1 m 4 - S.2.1 m 3 + 1)) ∧ q = lm ∧ TS Z (upF (upF S m 3 a) m 4 b) (shN n) (shT n T S) sn bl B i r)) noX := by
  obtain ⟨⟨hT, hC⟩, ⟨hR, hI⟩, hTS2⟩ := id hTS
  have hk0 := kdT
  have hk79 := kd79
  have hC1 := c1 hC
  have hk1 := hC1.1
  obtain ⟨t0, t1, t2, t4, t5, t7, t8⟩ := id hT
  obtain ⟨hm, zxe⟩ := maO_some hmo
  have hkm := ck_of hC1 hm
  refine Con.ofN (k := 2) (L0 := [some (pv (some 0)), some (.int (x)), some (.int (a)), some (.int (b)), none, none]) hlt (by decide +kernel) rfl rfl (by rw [en1 pv_cat, en1 rfl, en1 rfl, en1 rfl, en0]; exact Nat.le_of_ble_eq_true rfl) (by rw [en1 pv_cat, en1 rfl, en1 rfl, en1 rfl, en0]; rfl) ?_
  refine t_aload0 dX4_gate_0 ?_
  refine t_iload1 dX4_gate_1 ?_
  refine g_callV1P (C_millOrT (l := l) hlt hT hC hR hmo) rfl ft4 rfl mc_X4_millOrThrow ml_X4_48 mi_X4_millOrThrow ms_X4_millOrThrow in_X4 (okc_X4_millOrThrow (by decide)) dX4_gate_2 (by assumption) (cat_le (Nat.le_of_ble_eq_true rfl)) ?_
  refine t_astore4 dX4_gate_5 (by decide) okp_i ?_
  refine t_iload2 dX4_gate_7 ?_
  refine pw_iconst (0) dX4_gate_8 (by decide) ?_
  refine pw_bipush (11) dX4_gate_9 (by decide) ?_
  refine g_callS3V (C_rangeT (l := l) hlt ha.1 ha.2) rfl mc_X4_requireRange ml_X4_52 mi_X4_requireRange in_X4 (okc_X4_requireRange (by decide)) dX4_gate_11 (Nat.zero_le _) (fun zim11 zh11 => ?_)
  rw [show zim11 = im from zh11]
  refine t_iload3 dX4_gate_14 ?_
  refine t_iload2 dX4_gate_15 ?_
  refine pw_bipush (11) dX4_gate_16 (by decide) ?_
  refine g_callS3V (C_rangeT (l := l) hlt hb.1 hb.2) rfl mc_X4_requireRange ml_X4_52 mi_X4_requireRange in_X4 (okc_X4_requireRange (by decide)) dX4_gate_18 (Nat.zero_le _) (fun zim18 zh18 => ?_)
  rw [show zim18 = im from zh18]
  refine t_aload0 dX4_gate_21 ?_
  refine g_getr ft4 fl_X4_29 (j := 4) (by decide) dX4_gate_22 (by assumption) (by assumption) ?_
  refine t_aload0 dX4_gate_25 ?_
  refine g_getr ft4 fl_X4_10 (j := 0) (by decide) dX4_gate_26 (by assumption) (by assumption) ?_
  refine g_callV1G (C_save (l := l) hlt hC (Classical.choose_spec hTS.2.2.1.1) hR (by decide) (by decide)) rfl ft1 rfl mc_X1_save ml_X4_65 mi_X1_save ms_X1_save in_X1 (okc_X1_save (by decide)) dX4_gate_29 (by assumption) (cat_le (Nat.le_of_ble_eq_true rfl)) (fun _ _ _ _ h => h.elim) (by decide) (fun zv29 zim29 zrm29 zlm29 zh29 => ?_)
  obtain ⟨rfl, rfl, zr, zf, zs2⟩ := zh29
  have hTS3 := hTS.saved zr zf zs2
  obtain ⟨⟨hT3, hC3⟩, ⟨hR3, hI3⟩, hTS4⟩ := id hTS3
  have hC31 := c1 hC3
  obtain ⟨u0, u1, u2, u4, u5, u7, u8⟩ := id hT3
  refine t_aload4 dX4_gate_32 ?_
  refine g_geti ft2 fl_X4_75 (j := 6) (by decide) dX4_gate_34 (by assumption) ?_
  refine t_aload4 dX4_gate_37 ?_
  refine g_geti ft2 fl_X4_78 (j := 5) (by decide) dX4_gate_39 (by assumption) ?_
  refine pw_isub dX4_gate_42 ?_
  refine pw_iconst (1) dX4_gate_43 (by decide) ?_
  refine pw_iadd dX4_gate_44 ?_
  refine t_istore5 dX4_gate_45 (by decide) okp_r ?_
  refine t_aload4 dX4_gate_47 ?_
  refine t_iload2 dX4_gate_49 ?_
  refine g_puti ft2 fl_X4_78 (j := 5) (by decide) ⟨rfl, rfl⟩ dX4_gate_50 (by assumption) ?_
  refine t_aload4 dX4_gate_53 ?_
  refine t_iload3 dX4_gate_55 ?_
  refine g_puti ft2 fl_X4_75 (j := 6) (by decide) ⟨rfl, rfl⟩ dX4_gate_56 (by assumption) ?_
  refine t_iload5 dX4_gate_59 ?_
  refine pw_iret dX4_gate_61 rfl ?_
  have hRz := (hR3.f (w := 3) (x := a) hm (by decide)).f (w := 4) (x := b) hm (by decide)
  exact ⟨rfl, by rw [show zim29 (mA 1 m) 6 = S.2.1 m 4 from (hR3.2 m hm).2.1 4 (by decide), show zim29 (mA 1 m) 5 = S.2.1 m 3 from (hR3.2 m hm).2.1 3 (by decide)], rfl, hTS3.now hRz (hI3.keep fun q hq => by unfold upF; dsimp only; rw [if_neg (by omega), if_neg (by omega)]) ((fr.m hm).trans (fr.m hm))⟩
set_option maxHeartbeats 4000000 in
set_option maxRecDepth 100000 in
theorem C_pond {l : Launch} (hlt : l.stackTraces = false) {im : TI} {rm : TP} {lm : TL} {Z : TI × TP} {S : CS} {n : Nat} {T : Nat → CS} {sn : Option CS} {bl : Nat} {B : Nat → Int32} (hTS : TS Z S n T sn bl B im rm) {x a b : Int32} {m : Nat} (hmo : maO x = some m) (ha : (50 : Int32) ≤ a ∧ a ≤ 500) (hb : (0 : Int32) ≤ b ∧ b ≤ 60) (hw : S.2.1 m 1 ≤ a) : Con l m_X4_pond 8 0 0 NN [pv (some 0), .int (x), .int (a), .int (b)] im rm lm (QG (fun v i r q => v = some (.int (S.2.1 m 0)) ∧ q = lm ∧ TS Z (upF (upF S m 0 a) m 2 b) (shN n) (shT n T S) sn bl B i r)) noX := by
  obtain ⟨⟨hT, hC⟩, ⟨hR, hI⟩, hTS2⟩ := id hTS
  have hk0 := kdT
  have hk79 := kd79
  have hC1 := c1 hC
  have hk1 := hC1.1
  obtain ⟨t0, t1, t2, t4, t5, t7, t8⟩ := id hT
  obtain ⟨hm, zxe⟩ := maO_some hmo
  have hkm := ck_of hC1 hm
  have hwa : im (mA 1 m) 3 = S.2.1 m 1 := (hR.2 m hm).2.1 1 (by decide)
  refine Con.ofN (k := 2) (L0 := [some (pv (some 0)), some (.int (x)), some (.int (a)), some (.int (b)), none, none]) hlt (by decide +kernel) rfl rfl (by rw [en1 pv_cat, en1 rfl, en1 rfl, en1 rfl, en0]; exact Nat.le_of_ble_eq_true rfl) (by rw [en1 pv_cat, en1 rfl, en1 rfl, en1 rfl, en0]; rfl) ?_
  refine t_aload0 dX4_pond_0 ?_
  refine t_iload1 dX4_pond_1 ?_
  refine g_callV1P (C_millOrT (l := l) hlt hT hC hR hmo) rfl ft4 rfl mc_X4_millOrThrow ml_X4_48 mi_X4_millOrThrow ms_X4_millOrThrow in_X4 (okc_X4_millOrThrow (by decide)) dX4_pond_2 (by assumption) (cat_le (Nat.le_of_ble_eq_true rfl)) ?_
  refine t_astore4 dX4_pond_5 (by decide) okp_i ?_
  refine t_iload2 dX4_pond_7 ?_
  refine pw_bipush (50) dX4_pond_8 (by decide) ?_
  refine pw_sipush (500) dX4_pond_10 (by decide) ?_
  refine g_callS3V (C_rangeT (l := l) hlt ha.1 ha.2) rfl mc_X4_requireRange ml_X4_52 mi_X4_requireRange in_X4 (okc_X4_requireRange (by decide)) dX4_pond_13 (Nat.zero_le _) (fun zim13 zh13 => ?_)
  rw [show zim13 = im from zh13]
  refine t_iload3 dX4_pond_16 ?_
  refine pw_iconst (0) dX4_pond_17 (by decide) ?_
  refine pw_bipush (60) dX4_pond_18 (by decide) ?_
  refine g_callS3V (C_rangeT (l := l) hlt hb.1 hb.2) rfl mc_X4_requireRange ml_X4_52 mi_X4_requireRange in_X4 (okc_X4_requireRange (by decide)) dX4_pond_20 (Nat.zero_le _) (fun zim20 zh20 => ?_)
  rw [show zim20 = im from zh20]
  refine t_aload4 dX4_pond_23 ?_
  refine g_geti ft2 fl_X4_56 (j := 3) (by decide) dX4_pond_25 (by assumption) ?_
  refine t_iload2 dX4_pond_28 ?_
  refine pw_icmp_gt 36 dX4_pond_29 (by decide) (fun zc29 => ?_) (fun zc29 => ?_)
  · exact absurd (hwa ▸ hw) (Int32.not_le.mpr zc29)
  · refine pw_iconst (1) dX4_pond_32 (by decide) ?_
    refine pw_goto 37 dX4_pond_33 (by decide) ?_
    refine g_callS1V (C_stateT (l := l) hlt (by decide)) rfl mc_X4_requireState ml_X4_61 mi_X4_requireState in_X4 (okc_X4_requireState (by decide)) dX4_pond_37 (Nat.zero_le _) (fun zim37 zh37 => ?_)
    rw [show zim37 = im from zh37]
    refine t_aload0 dX4_pond_40 ?_
    refine g_getr ft4 fl_X4_29 (j := 4) (by decide) dX4_pond_41 (by assumption) (by assumption) ?_
    refine t_aload0 dX4_pond_44 ?_
    refine g_getr ft4 fl_X4_10 (j := 0) (by decide) dX4_pond_45 (by assumption) (by assumption) ?_
    refine g_callV1G (C_save (l := l) hlt hC (Classical.choose_spec hTS.2.2.1.1) hR (by decide) (by decide)) rfl ft1 rfl mc_X1_save ml_X4_65 mi_X1_save ms_X1_save in_X1 (okc_X1_save (by decide)) dX4_pond_48 (by assumption) (cat_le (Nat.le_of_ble_eq_true rfl)) (fun _ _ _ _ h => h.elim) (by decide) (fun zv48 zim48 zrm48 zlm48 zh48 => ?_)
    obtain ⟨rfl, rfl, zr, zf, zs2⟩ := zh48
    have hTS3 := hTS.saved zr zf zs2
    obtain ⟨⟨hT3, hC3⟩, ⟨hR3, hI3⟩, hTS4⟩ := id hTS3
    have hC31 := c1 hC3
    obtain ⟨u0, u1, u2, u4, u5, u7, u8⟩ := id hT3
    refine t_aload4 dX4_pond_51 ?_
    refine g_geti ft2 fl_X4_69 (j := 2) (by decide) dX4_pond_53 (by assumption) ?_
    refine t_istore5 dX4_pond_56 (by decide) okp_r ?_
    refine t_aload4 dX4_pond_58 ?_
    refine t_iload2 dX4_pond_60 ?_
    refine g_puti ft2 fl_X4_69 (j := 2) (by decide) ⟨rfl, rfl⟩ dX4_pond_61 (by assumption) ?_
    refine t_aload4 dX4_pond_64 ?_
    refine t_iload3 dX4_pond_66 ?_
    refine g_puti ft2 fl_X4_72 (j := 4) (by decide) ⟨rfl, rfl⟩ dX4_pond_67 (by assumption) ?_
    refine t_iload5 dX4_pond_70 ?_
    refine pw_iret dX4_pond_72 rfl ?_
    have hRz := (hR3.f (w := 0) (x := a) hm (by decide)).f (w := 2) (x := b) hm (by decide)
    exact ⟨rfl, by rw [show zim48 (mA 1 m) 2 = S.2.1 m 0 from (hR3.2 m hm).2.1 0 (by decide)], rfl, hTS3.now hRz (hI3.keep fun q hq => by unfold upF; dsimp only; rw [if_neg (by omega), if_neg (by omega)]) ((fr.m hm).trans (fr.m hm))⟩
set_option maxHeartbeats 4000000 in
set_option maxRecDepth 100000 in
theorem C_set0 {l : Launch} (hlt : l.stackTraces = false) {im : TI} {rm : TP} {lm : TL} {Z : TI × TP} {S : CS} {n : Nat} {T : Nat → CS} {sn : Option CS} {bl : Nat} {B : Nat → Int32} (hTS : TS Z S n T sn bl B im rm) {a : Int32} (ha : (1 : Int32) ≤ a ∧ a ≤ 15) : Con l m_X4_set 8 0 0 NN [pv (some 0), .int (0), .int (a)] im rm lm (QG (fun v i r q => v = some (.int (S.1 9)) ∧ q = lm ∧ TS Z (upG S 9 a) (shN n) (shT n T S) sn bl B i r)) noX := by
  obtain ⟨⟨hT, hC⟩, ⟨hR, hI⟩, hTS2⟩ := id hTS
  have hk0 := kdT
  have hk79 := kd79
  have hC1 := c1 hC
  have hk1 := hC1.1
  obtain ⟨t0, t1, t2, t4, t5, t7, t8⟩ := id hT
  refine Con.ofN (k := 1) (L0 := [some (pv (some 0)), some (.int (0)), some (.int (a)), none]) hlt (by decide +kernel) rfl rfl (by rw [en1 pv_cat, en1 rfl, en1 rfl, en0]; exact Nat.le_of_ble_eq_true rfl) (by rw [en1 pv_cat, en1 rfl, en1 rfl, en0]; rfl) ?_
  refine t_iload1 dX4_set_0 ?_
  refine pw_if_lt 9 dX4_set_1 (by decide) (fun h => absurd h (by decide)) (fun _ => ?_)
  refine t_iload1 dX4_set_4 ?_
  refine pw_iconst (2) dX4_set_5 (by decide) ?_
  refine pw_icmp_le 19 dX4_set_6 (by decide) (fun _ => ?_) (fun h => absurd (by decide) h)
  refine t_iload2 dX4_set_19 ?_
  refine t_iload1 dX4_set_20 ?_
  refine g_callS1P (C_least0 (l := l) hlt) rfl mc_X4_leastOfSetting ml_X4_98 mi_X4_leastOfSetting in_X4 (okc_X4_leastOfSetting (by decide)) dX4_set_21 (cat_le (Nat.le_of_ble_eq_true rfl)) ?_
  refine t_iload1 dX4_set_24 ?_
  refine g_callS1P (C_most0 (l := l) hlt) rfl mc_X4_mostOfSetting ml_X4_101 mi_X4_mostOfSetting in_X4 (okc_X4_mostOfSetting (by decide)) dX4_set_25 (cat_le (Nat.le_of_ble_eq_true rfl)) ?_
  refine g_callS3V (C_rangeT (l := l) hlt ha.1 ha.2) rfl mc_X4_requireRange ml_X4_52 mi_X4_requireRange in_X4 (okc_X4_requireRange (by decide)) dX4_set_28 (Nat.zero_le _) (fun zim28 zh28 => ?_)
  rw [show zim28 = im from zh28]
  refine t_aload0 dX4_set_31 ?_
  refine g_getr ft4 fl_X4_29 (j := 4) (by decide) dX4_set_32 (by assumption) (by assumption) ?_
  refine t_aload0 dX4_set_35 ?_
  refine g_getr ft4 fl_X4_10 (j := 0) (by decide) dX4_set_36 (by assumption) (by assumption) ?_
  refine g_callV1G (C_save (l := l) hlt hC (Classical.choose_spec hTS.2.2.1.1) hR (by decide) (by decide)) rfl ft1 rfl mc_X1_save ml_X4_65 mi_X1_save ms_X1_save in_X1 (okc_X1_save (by decide)) dX4_set_39 (by assumption) (cat_le (Nat.le_of_ble_eq_true rfl)) (fun _ _ _ _ h => h.elim) (by decide) (fun zv39 zim39 zrm39 zlm39 zh39 => ?_)
  obtain ⟨rfl, rfl, zr, zf, zs2⟩ := zh39
  have hTS3 := hTS.saved zr zf zs2
  obtain ⟨⟨hT3, hC3⟩, ⟨hR3, hI3⟩, hTS4⟩ := id hTS3
  have hC31 := c1 hC3
  obtain ⟨u0, u1, u2, u4, u5, u7, u8⟩ := id hT3
  refine t_aload0 dX4_set_42 ?_
  refine g_getr ft4 fl_X4_10 (j := 0) (by decide) dX4_set_43 (by assumption) (by assumption) ?_
  refine t_iload1 dX4_set_46 ?_
  refine g_callV1P (C_settingAt0 (l := l) hlt hC31 hR3) rfl ft0 rfl mc_X0_settingAt ml_X4_104 mi_X0_settingAt ms_X0_settingAt in_X0 (okc_X0_settingAt (by decide)) dX4_set_47 (by assumption) (cat_le (Nat.le_of_ble_eq_true rfl)) ?_
  refine t_istore3 dX4_set_50 (by decide) okp_i ?_
  refine t_aload0 dX4_set_51 ?_
  refine g_getr ft4 fl_X4_10 (j := 0) (by decide) dX4_set_52 (by assumption) (by assumption) ?_
  refine t_iload1 dX4_set_55 ?_
  refine t_iload2 dX4_set_56 ?_
  refine g_callV2V (C_changeSetting0 (l := l) hlt hC31 hR3) rfl ft0 rfl mc_X0_changeSetting ml_X4_107 mi_X0_changeSetting ms_X0_changeSetting in_X0 (okc_X0_changeSetting (by decide)) dX4_set_57 (by assumption) (cat_le (Nat.le_of_ble_eq_true rfl)) (fun zim57 zh57 => ?_)
  refine t_iload3 dX4_set_60 ?_
  refine pw_iret dX4_set_61 rfl ?_
  exact ⟨rfl, rfl, rfl, hTS3.now zh57.1 (hI3.keep fun _ _ => rfl) zh57.2⟩
set_option maxHeartbeats 4000000 in
set_option maxRecDepth 100000 in
theorem C_set1 {l : Launch} (hlt : l.stackTraces = false) {im : TI} {rm : TP} {lm : TL} {Z : TI × TP} {S : CS} {n : Nat} {T : Nat → CS} {sn : Option CS} {bl : Nat} {B : Nat → Int32} (hTS : TS Z S n T sn bl B im rm) {a : Int32} (ha : (0 : Int32) ≤ a ∧ a ≤ 100) : Con l m_X4_set 8 0 0 NN [pv (some 0), .int (1), .int (a)] im rm lm (QG (fun v i r q => v = some (.int (S.1 10)) ∧ q = lm ∧ TS Z (upG S 10 a) (shN n) (shT n T S) sn bl B i r)) noX := by
  obtain ⟨⟨hT, hC⟩, ⟨hR, hI⟩, hTS2⟩ := id hTS
  have hk0 := kdT
  have hk79 := kd79
  have hC1 := c1 hC
  have hk1 := hC1.1
  obtain ⟨t0, t1, t2, t4, t5, t7, t8⟩ := id hT
  refine Con.ofN (k := 1) (L0 := [some (pv (some 0)), some (.int (1)), some (.int (a)), none]) hlt (by decide +kernel) rfl rfl (by rw [en1 pv_cat, en1 rfl, en1 rfl, en0]; exact Nat.le_of_ble_eq_true rfl) (by rw [en1 pv_cat, en1 rfl, en1 rfl, en0]; rfl) ?_
  refine t_iload1 dX4_set_0 ?_
  refine pw_if_lt 9 dX4_set_1 (by decide) (fun h => absurd h (by decide)) (fun _ => ?_)
  refine t_iload1 dX4_set_4 ?_
  refine pw_iconst (2) dX4_set_5 (by decide) ?_
  refine pw_icmp_le 19 dX4_set_6 (by decide) (fun _ => ?_) (fun h => absurd (by decide) h)
  refine t_iload2 dX4_set_19 ?_
  refine t_iload1 dX4_set_20 ?_
  refine g_callS1P (C_least1 (l := l) hlt) rfl mc_X4_leastOfSetting ml_X4_98 mi_X4_leastOfSetting in_X4 (okc_X4_leastOfSetting (by decide)) dX4_set_21 (cat_le (Nat.le_of_ble_eq_true rfl)) ?_
  refine t_iload1 dX4_set_24 ?_
  refine g_callS1P (C_most1 (l := l) hlt) rfl mc_X4_mostOfSetting ml_X4_101 mi_X4_mostOfSetting in_X4 (okc_X4_mostOfSetting (by decide)) dX4_set_25 (cat_le (Nat.le_of_ble_eq_true rfl)) ?_
  refine g_callS3V (C_rangeT (l := l) hlt ha.1 ha.2) rfl mc_X4_requireRange ml_X4_52 mi_X4_requireRange in_X4 (okc_X4_requireRange (by decide)) dX4_set_28 (Nat.zero_le _) (fun zim28 zh28 => ?_)
  rw [show zim28 = im from zh28]
  refine t_aload0 dX4_set_31 ?_
  refine g_getr ft4 fl_X4_29 (j := 4) (by decide) dX4_set_32 (by assumption) (by assumption) ?_
  refine t_aload0 dX4_set_35 ?_
  refine g_getr ft4 fl_X4_10 (j := 0) (by decide) dX4_set_36 (by assumption) (by assumption) ?_
  refine g_callV1G (C_save (l := l) hlt hC (Classical.choose_spec hTS.2.2.1.1) hR (by decide) (by decide)) rfl ft1 rfl mc_X1_save ml_X4_65 mi_X1_save ms_X1_save in_X1 (okc_X1_save (by decide)) dX4_set_39 (by assumption) (cat_le (Nat.le_of_ble_eq_true rfl)) (fun _ _ _ _ h => h.elim) (by decide) (fun zv39 zim39 zrm39 zlm39 zh39 => ?_)
  obtain ⟨rfl, rfl, zr, zf, zs2⟩ := zh39
  have hTS3 := hTS.saved zr zf zs2
  obtain ⟨⟨hT3, hC3⟩, ⟨hR3, hI3⟩, hTS4⟩ := id hTS3
  have hC31 := c1 hC3
  obtain ⟨u0, u1, u2, u4, u5, u7, u8⟩ := id hT3
  refine t_aload0 dX4_set_42 ?_
  refine g_getr ft4 fl_X4_10 (j := 0) (by decide) dX4_set_43 (by assumption) (by assumption) ?_
  refine t_iload1 dX4_set_46 ?_
  refine g_callV1P (C_settingAt1 (l := l) hlt hC31 hR3) rfl ft0 rfl mc_X0_settingAt ml_X4_104 mi_X0_settingAt ms_X0_settingAt in_X0 (okc_X0_settingAt (by decide)) dX4_set_47 (by assumption) (cat_le (Nat.le_of_ble_eq_true rfl)) ?_
  refine t_istore3 dX4_set_50 (by decide) okp_i ?_
  refine t_aload0 dX4_set_51 ?_
  refine g_getr ft4 fl_X4_10 (j := 0) (by decide) dX4_set_52 (by assumption) (by assumption) ?_
  refine t_iload1 dX4_set_55 ?_
  refine t_iload2 dX4_set_56 ?_
  refine g_callV2V (C_changeSetting1 (l := l) hlt hC31 hR3) rfl ft0 rfl mc_X0_changeSetting ml_X4_107 mi_X0_changeSetting ms_X0_changeSetting in_X0 (okc_X0_changeSetting (by decide)) dX4_set_57 (by assumption) (cat_le (Nat.le_of_ble_eq_true rfl)) (fun zim57 zh57 => ?_)
  refine t_iload3 dX4_set_60 ?_
  refine pw_iret dX4_set_61 rfl ?_
  exact ⟨rfl, rfl, rfl, hTS3.now zh57.1 (hI3.keep fun _ _ => rfl) zh57.2⟩
set_option maxHeartbeats 4000000 in
set_option maxRecDepth 100000 in
theorem C_set2 {l : Launch} (hlt : l.stackTraces = false) {im : TI} {rm : TP} {lm : TL} {Z : TI × TP} {S : CS} {n : Nat} {T : Nat → CS} {sn : Option CS} {bl : Nat} {B : Nat → Int32} (hTS : TS Z S n T sn bl B im rm) {a : Int32} (ha : (5 : Int32) ≤ a ∧ a ≤ 100) : Con l m_X4_set 8 0 0 NN [pv (some 0), .int (2), .int (a)] im rm lm (QG (fun v i r q => v = some (.int (S.1 11)) ∧ q = lm ∧ TS Z (upG S 11 a) (shN n) (shT n T S) sn bl B i r)) noX := by
  obtain ⟨⟨hT, hC⟩, ⟨hR, hI⟩, hTS2⟩ := id hTS
  have hk0 := kdT
  have hk79 := kd79
  have hC1 := c1 hC
  have hk1 := hC1.1
  obtain ⟨t0, t1, t2, t4, t5, t7, t8⟩ := id hT
  refine Con.ofN (k := 1) (L0 := [some (pv (some 0)), some (.int (2)), some (.int (a)), none]) hlt (by decide +kernel) rfl rfl (by rw [en1 pv_cat, en1 rfl, en1 rfl, en0]; exact Nat.le_of_ble_eq_true rfl) (by rw [en1 pv_cat, en1 rfl, en1 rfl, en0]; rfl) ?_
  refine t_iload1 dX4_set_0 ?_
  refine pw_if_lt 9 dX4_set_1 (by decide) (fun h => absurd h (by decide)) (fun _ => ?_)
  refine t_iload1 dX4_set_4 ?_
  refine pw_iconst (2) dX4_set_5 (by decide) ?_
  refine pw_icmp_le 19 dX4_set_6 (by decide) (fun _ => ?_) (fun h => absurd (by decide) h)
  refine t_iload2 dX4_set_19 ?_
  refine t_iload1 dX4_set_20 ?_
  refine g_callS1P (C_least2 (l := l) hlt) rfl mc_X4_leastOfSetting ml_X4_98 mi_X4_leastOfSetting in_X4 (okc_X4_leastOfSetting (by decide)) dX4_set_21 (cat_le (Nat.le_of_ble_eq_true rfl)) ?_
  refine t_iload1 dX4_set_24 ?_
  refine g_callS1P (C_most2 (l := l) hlt) rfl mc_X4_mostOfSetting ml_X4_101 mi_X4_mostOfSetting in_X4 (okc_X4_mostOfSetting (by decide)) dX4_set_25 (cat_le (Nat.le_of_ble_eq_true rfl)) ?_
  refine g_callS3V (C_rangeT (l := l) hlt ha.1 ha.2) rfl mc_X4_requireRange ml_X4_52 mi_X4_requireRange in_X4 (okc_X4_requireRange (by decide)) dX4_set_28 (Nat.zero_le _) (fun zim28 zh28 => ?_)
  rw [show zim28 = im from zh28]
  refine t_aload0 dX4_set_31 ?_
  refine g_getr ft4 fl_X4_29 (j := 4) (by decide) dX4_set_32 (by assumption) (by assumption) ?_
  refine t_aload0 dX4_set_35 ?_
  refine g_getr ft4 fl_X4_10 (j := 0) (by decide) dX4_set_36 (by assumption) (by assumption) ?_
  refine g_callV1G (C_save (l := l) hlt hC (Classical.choose_spec hTS.2.2.1.1) hR (by decide) (by decide)) rfl ft1 rfl mc_X1_save ml_X4_65 mi_X1_save ms_X1_save in_X1 (okc_X1_save (by decide)) dX4_set_39 (by assumption) (cat_le (Nat.le_of_ble_eq_true rfl)) (fun _ _ _ _ h => h.elim) (by decide) (fun zv39 zim39 zrm39 zlm39 zh39 => ?_)
  obtain ⟨rfl, rfl, zr, zf, zs2⟩ := zh39
  have hTS3 := hTS.saved zr zf zs2
  obtain ⟨⟨hT3, hC3⟩, ⟨hR3, hI3⟩, hTS4⟩ := id hTS3
  have hC31 := c1 hC3
  obtain ⟨u0, u1, u2, u4, u5, u7, u8⟩ := id hT3
  refine t_aload0 dX4_set_42 ?_
  refine g_getr ft4 fl_X4_10 (j := 0) (by decide) dX4_set_43 (by assumption) (by assumption) ?_
  refine t_iload1 dX4_set_46 ?_
  refine g_callV1P (C_settingAt2 (l := l) hlt hC31 hR3) rfl ft0 rfl mc_X0_settingAt ml_X4_104 mi_X0_settingAt ms_X0_settingAt in_X0 (okc_X0_settingAt (by decide)) dX4_set_47 (by assumption) (cat_le (Nat.le_of_ble_eq_true rfl)) ?_
  refine t_istore3 dX4_set_50 (by decide) okp_i ?_
  refine t_aload0 dX4_set_51 ?_
  refine g_getr ft4 fl_X4_10 (j := 0) (by decide) dX4_set_52 (by assumption) (by assumption) ?_
  refine t_iload1 dX4_set_55 ?_
  refine t_iload2 dX4_set_56 ?_
  refine g_callV2V (C_changeSetting2 (l := l) hlt hC31 hR3) rfl ft0 rfl mc_X0_changeSetting ml_X4_107 mi_X0_changeSetting ms_X0_changeSetting in_X0 (okc_X0_changeSetting (by decide)) dX4_set_57 (by assumption) (cat_le (Nat.le_of_ble_eq_true rfl)) (fun zim57 zh57 => ?_)
  refine t_iload3 dX4_set_60 ?_
  refine pw_iret dX4_set_61 rfl ?_
  exact ⟨rfl, rfl, rfl, hTS3.now zh57.1 (hI3.keep fun _ _ => rfl) zh57.2⟩

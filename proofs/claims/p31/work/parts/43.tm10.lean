/-! TideMills: back, tide, firstError -/
theorem dpS_CI {S : CS} {m p : Nat} (hI : CI S) (hm : m < 5) : CI (dpS S m p (cnt S m)) := by
  intro q hq
  by_cases e : q = m
  · subst e
    have := (hI.c hm).1
    exact ⟨cnt S q - 1, by omega, by unfold dpS upM; dsimp only; rw [if_pos rfl, if_pos rfl]⟩
  · obtain ⟨k, hk, he⟩ := hI q hq
    exact ⟨k, hk, by unfold dpS upM; dsimp only; rw [if_neg e]; exact he⟩
set_option maxHeartbeats 4000000 in
set_option maxRecDepth 100000 in
theorem C_back {l : Launch} (hlt : l.stackTraces = false) {im : TI} {rm : TP} {lm : TL} {Z : TI × TP} {S : CS} {n : Nat} {T : Nat → CS} {sn : Option CS} {bl : Nat} {B : Nat → Int32} (hTS : TS Z S n T sn bl B im rm) {x : Int32} {m p : Nat} (hmo : moS S x = some m) (hp : poS S m x = some p) : Con l m_X4_back 8 0 0 NN [pv (some 0), .int (x)] im rm lm (QG (fun v i r q => v = some (.int (S.2.2 m p 2)) ∧ q = lm ∧ TS Z (upG (dpS S m p (cnt S m)) 8 ((dpS S m p (cnt S m)).1 8 + 1)) (shN n) (shT n T S) sn bl B i r)) noX := by
  obtain ⟨⟨hT, hC⟩, ⟨hR, hI⟩, hTS2⟩ := id hTS
  have hk0 := kdT
  have hk79 := kd79
  have hC1 := c1 hC
  have hk1 := hC1.1
  obtain ⟨t0, t1, t2, t4, t5, t7, t8⟩ := id hT
  have hm := (moS_lt hmo).1
  have hkm := ck_of hC1 hm
  obtain ⟨hpc, hp6, hp0⟩ := poS_lt hI hm hp
  refine Con.ofN (k := 3) (L0 := [some (pv (some 0)), some (.int (x)), none, none, none]) hlt (by decide +kernel) rfl rfl (by rw [en1 pv_cat, en1 rfl, en0]; exact Nat.le_of_ble_eq_true rfl) (by rw [en1 pv_cat, en1 rfl, en0]; rfl) ?_
  refine t_aload0 dX4_back_0 ?_
  refine t_iload1 dX4_back_1 ?_
  refine g_callV1P (C_sackOrT (l := l) hlt hT hC hR hI hmo) rfl ft4 rfl mc_X4_millOfSackOrThrow ml_X4_126 mi_X4_millOfSackOrThrow ms_X4_millOfSackOrThrow in_X4 (okc_X4_millOfSackOrThrow (by decide)) dX4_back_2 (by assumption) (cat_le (Nat.le_of_ble_eq_true rfl)) ?_
  refine t_astore2 dX4_back_5 (by decide) okp_i ?_
  refine t_aload0 dX4_back_6 ?_
  refine g_getr ft4 fl_X4_29 (j := 4) (by decide) dX4_back_7 (by assumption) (by assumption) ?_
  refine t_aload0 dX4_back_10 ?_
  refine g_getr ft4 fl_X4_10 (j := 0) (by decide) dX4_back_11 (by assumption) (by assumption) ?_
  refine g_callV1G (C_save (l := l) hlt hC (Classical.choose_spec hTS.2.2.1.1) hR (by decide) (by decide)) rfl ft1 rfl mc_X1_save ml_X4_65 mi_X1_save ms_X1_save in_X1 (okc_X1_save (by decide)) dX4_back_14 (by assumption) (cat_le (Nat.le_of_ble_eq_true rfl)) (fun _ _ _ _ h => h.elim) (by decide) (fun zv14 zim14 zrm14 zlm14 zh14 => ?_)
  obtain ⟨rfl, rfl, zr, zf, zs2⟩ := zh14
  have hTS3 := hTS.saved zr zf zs2
  obtain ⟨⟨hT3, hC3⟩, ⟨hR3, hI3⟩, hTS4⟩ := id hTS3
  have hC31 := c1 hC3
  obtain ⟨u0, u1, u2, u4, u5, u7, u8⟩ := id hT3
  refine t_aload2 dX4_back_17 ?_
  refine t_iload1 dX4_back_18 ?_
  refine g_callV1P (C_place (l := l) hlt hC31 hR3 hI3 hm) rfl ft2 rfl mc_X2_placeOf ml_X4_132 mi_X2_placeOf ms_X2_placeOf in_X2 (okc_X2_placeOf (by decide)) dX4_back_19 (by assumption) (cat_le (Nat.le_of_ble_eq_true rfl)) ?_
  rw [hp, show oI (some p) = nI p from rfl]
  refine t_istore3 dX4_back_22 (by decide) okp_r ?_
  refine t_aload2 dX4_back_23 ?_
  refine t_iload3 dX4_back_24 ?_
  refine g_callV1P (C_restAt (l := l) hlt (hC31.2.2.1 m hm)) rfl ft2 rfl mc_X2_restAt ml_X4_138 mi_X2_restAt ms_X2_restAt in_X2 (okc_X2_restAt (by decide)) dX4_back_25 (by assumption) (cat_le (Nat.le_of_ble_eq_true rfl)) ?_
  rw [if_pos ⟨nI_pos (by omega), by rw [w11 hR3 hm, (hI3.c hm).2]; exact (nI_ltI (by omega) (by have := (hI3.c hm).1; omega)).mpr hpc, (nI_ltI (b := 6) (by omega) (by decide)).mpr hp6⟩, nI_clamp (by omega), ((hR3.2 m hm).2.2 p hp6).2.2.1]
  refine t_istore4 dX4_back_28 (by decide) okp_i ?_
  refine t_aload2 dX4_back_30 ?_
  refine t_iload3 dX4_back_31 ?_
  refine g_callV1V (C_drop (l := l) hlt hC31 hR3 hI3 hm rfl hpc) rfl ft2 rfl mc_X2_dropSack ml_X4_148 mi_X2_dropSack ms_X2_dropSack in_X2 (okc_X2_dropSack (by decide)) dX4_back_32 (by assumption) (cat_le (Nat.le_of_ble_eq_true rfl)) (fun zim32 zh32 => ?_)
  refine t_aload0 dX4_back_35 ?_
  refine g_getr ft4 fl_X4_10 (j := 0) (by decide) dX4_back_36 (by assumption) (by assumption) ?_
  refine pw_dup dX4_back_39 pv_cat ?_
  refine g_geti ft0 fl_X4_151 (j := 12) (by decide) dX4_back_40 (by assumption) ?_
  refine pw_iconst (1) dX4_back_43 (by decide) ?_
  refine pw_iadd dX4_back_44 ?_
  refine g_puti ft0 fl_X4_151 (j := 12) (by decide) ⟨rfl, rfl⟩ dX4_back_45 (by assumption) ?_
  refine t_iload4 dX4_back_48 ?_
  refine pw_iret dX4_back_50 rfl ?_
  have zg := zh32.1.g (j := 8) (x := zim32 1 12 + 1) (by decide) (by decide)
  rw [zh32.1.1.2.2.2.2.2 12 (by decide) (by decide)] at zg ⊢
  exact ⟨rfl, rfl, rfl, hTS3.now zg ((dpS_CI hI3 hm).keep fun _ _ => rfl) (zh32.2.trans (fr.u (by decide) (by decide)))⟩
set_option maxHeartbeats 4000000 in
set_option maxRecDepth 100000 in
theorem C_tide {l : Launch} (hlt : l.stackTraces = false) {im : TI} {rm : TP} {lm : TL} {Z : TI × TP} {S : CS} {n : Nat} {T : Nat → CS} {sn : Option CS} {bl : Nat} {B : Nat → Int32} (hTS : TS Z S n T sn bl B im rm) {x : Int32} (ha : (0 : Int32) ≤ x ∧ x ≤ 2147483647) : Con l m_X4_tide 8 0 0 NN [pv (some 0), .int (x)] im rm lm (QP (.int (tdF S x)) im rm lm) noX := by
  obtain ⟨⟨hT, hC⟩, ⟨hR, hI⟩, hTS2⟩ := id hTS
  have hk0 := kdT
  have hk79 := kd79
  have hC1 := c1 hC
  have hk1 := hC1.1
  obtain ⟨t0, t1, t2, t4, t5, t7, t8⟩ := id hT
  refine Con.ofN (k := 0) (L0 := [some (pv (some 0)), some (.int (x))]) hlt (by decide +kernel) rfl rfl (by rw [en1 pv_cat, en1 rfl, en0]; exact Nat.le_of_ble_eq_true rfl) (by rw [en1 pv_cat, en1 rfl, en0]; rfl) ?_
  refine t_iload1 dX4_tide_0 ?_
  refine g_callS1V (C_belowT (l := l) hlt ha.1 ha.2) rfl mc_X4_requireNotBelowZero ml_X4_191 mi_X4_requireNotBelowZero in_X4 (okc_X4_requireNotBelowZero (by decide)) dX4_tide_1 (Nat.zero_le _) (fun zim1 zh1 => ?_)
  rw [show zim1 = im from zh1]
  refine t_aload0 dX4_tide_4 ?_
  refine g_getr ft4 fl_X4_10 (j := 0) (by decide) dX4_tide_5 (by assumption) (by assumption) ?_
  refine t_iload1 dX4_tide_8 ?_
  refine g_callV1P (C_tideIn (l := l) hlt hk1) rfl ft0 rfl mc_X0_tideIn ml_X4_207 mi_X0_tideIn ms_X0_tideIn in_X0 (okc_X0_tideIn (by decide)) dX4_tide_9 (by assumption) (cat_le (Nat.le_of_ble_eq_true rfl)) ?_
  refine pw_iret dX4_tide_12 rfl ?_
  exact ⟨rfl, by rw [hR.1.1]; rfl, rfl, rfl, rfl⟩
theorem TS.reader {Z : TI × TP} {S : CS} {n : Nat} {T : Nat → CS} {sn : Option CS} {bl : Nat} {B : Nat → Int32} {im im2 : TI} {rm : TP} (h : TS Z S n T sn bl B im rm) (e : ∀ o, o ≠ 238 → o ≠ 239 → im2 o = im o) : TS Z S n T sn bl B im2 rm := by
  obtain ⟨h1, h2, ⟨⟨hs, hO⟩, h4⟩, h5, ⟨h6, h7⟩, h8, h9, h10⟩ := h
  have f0 := e 0 (by decide) (by decide)
  exact ⟨h1, ⟨h2.1.keep fun q a b => e q (by omega) (by omega), h2.2⟩, ⟨⟨hs, hO.keep fun q a b => e q (by omega) (by omega)⟩, h4⟩, h5.keep fun q a b => e q (by omega) (by omega), ⟨h6.keep fun q a b => e q (by omega) (by omega), fun s hs => ⟨(h7 s hs).1.keep fun q a b => e q (by omega) (by omega), (h7 s hs).2⟩⟩, by rw [f0]; exact h8, by rw [f0]; exact h9, ⟨by rw [e 237 (by decide) (by decide)]; exact h10.1, h10.2.keep (fun o ho => e o (by omega) (by omega)) fun _ _ => rfl⟩⟩

/-! TideMills: carry -/
theorem inS_CI {S : CS} {m pl : Nat} {s h r due : Int32} (hI : CI S) (h6 : cnt S m < 6) : CI (inS S m (cnt S m) pl s h r due) := by
  intro q hq
  by_cases e : q = m
  · subst e
    exact ⟨cnt S q + 1, by omega, by unfold inS upM; dsimp only; rw [if_pos rfl, if_pos rfl]⟩
  · obtain ⟨k, hk, he⟩ := hI q hq
    exact ⟨k, hk, by unfold inS upM; dsimp only; rw [if_neg e]; exact he⟩
theorem inS_cnt {S : CS} {m q n pl : Nat} {s h r due : Int32} (e : ¬ q = m) : cnt (inS S m n pl s h r due) q = cnt S q := by unfold cnt inS upM; dsimp only; rw [if_neg e]
set_option maxHeartbeats 4000000 in
set_option maxRecDepth 100000 in
theorem C_carry {l : Launch} (hlt : l.stackTraces = false) {im : TI} {rm : TP} {lm : TL} {Z : TI × TP} {S : CS} {n : Nat} {T : Nat → CS} {sn : Option CS} {bl : Nat} {B : Nat → Int32} (hTS : TS Z S n T sn bl B im rm) {x z : Int32} {m t p : Nat} (hmo : maO z = some t) (hms : moS S x = some m) (hp : poS S m x = some p) (hne : ¬ m = t) (hw : S.2.1 t 9 < 6) : Con l m_X4_carry 8 0 0 NN [pv (some 0), .int (x), .int (z)] im rm lm (QG (fun v i r q => v = some (.int (nI (plS S t x (S.2.2 m p 3)))) ∧ q = lm ∧ TS Z (dpS (inS S t (cnt S t) (plS S t x (S.2.2 m p 3)) x (S.2.2 m p 1) (S.2.2 m p 2) (S.2.2 m p 3)) m p (cnt (inS S t (cnt S t) (plS S t x (S.2.2 m p 3)) x (S.2.2 m p 1) (S.2.2 m p 2) (S.2.2 m p 3)) m)) (shN n) (shT n T S) sn bl B i r)) noX := by
  obtain ⟨⟨hT, hC⟩, ⟨hR, hI⟩, hTS2⟩ := id hTS
  have hk0 := kdT
  have hk79 := kd79
  have hC1 := c1 hC
  have hk1 := hC1.1
  obtain ⟨t0, t1, t2, t4, t5, t7, t8⟩ := id hT
  obtain ⟨ht, zxe⟩ := maO_some hmo
  have hm := (moS_lt hms).1
  have hkm := ck_of hC1 hm
  have hkt := ck_of hC1 ht
  have hwt : im (mA 1 t) 11 = S.2.1 t 9 := w11 hR ht
  have h6 : cnt S t < 6 := (nI_ltI (b := 6) (by have := (hI.c ht).1; omega) (by decide)).mp ((hI.c ht).2 ▸ hw)
  obtain ⟨hpc, hp6, hp0⟩ := poS_lt hI hm hp
  refine Con.ofN (k := 4) (L0 := [some (pv (some 0)), some (.int (x)), some (.int (z)), none, none, none, none]) hlt (by decide +kernel) rfl rfl (by rw [en1 pv_cat, en1 rfl, en1 rfl, en0]; exact Nat.le_of_ble_eq_true rfl) (by rw [en1 pv_cat, en1 rfl, en1 rfl, en0]; rfl) ?_
  refine t_aload0 dX4_carry_0 ?_
  refine t_iload2 dX4_carry_1 ?_
  refine g_callV1P (C_millOrT (l := l) hlt hT hC hR hmo) rfl ft4 rfl mc_X4_millOrThrow ml_X4_48 mi_X4_millOrThrow ms_X4_millOrThrow in_X4 (okc_X4_millOrThrow (by decide)) dX4_carry_2 (by assumption) (cat_le (Nat.le_of_ble_eq_true rfl)) ?_
  refine t_astore3 dX4_carry_5 (by decide) okp_i ?_
  refine t_aload0 dX4_carry_6 ?_
  refine t_iload1 dX4_carry_7 ?_
  refine g_callV1P (C_sackOrT (l := l) hlt hT hC hR hI hms) rfl ft4 rfl mc_X4_millOfSackOrThrow ml_X4_126 mi_X4_millOfSackOrThrow ms_X4_millOfSackOrThrow in_X4 (okc_X4_millOfSackOrThrow (by decide)) dX4_carry_8 (by assumption) (cat_le (Nat.le_of_ble_eq_true rfl)) ?_
  refine t_astore4 dX4_carry_11 (by decide) okp_r ?_
  refine t_aload4 dX4_carry_13 ?_
  refine t_aload3 dX4_carry_15 ?_
  refine g_acmp_eq 32 (fun a b ha hb => by cases ha; cases hb; exact ⟨kd_lt hkm (by decide), kd_lt hkt (by decide)⟩) dX4_carry_16 (by decide) (fun zc16 => ?_) (fun zc16 => ?_)
  · exfalso
    have z := Option.some.inj zc16
    unfold mA at z
    omega
  · refine t_aload3 dX4_carry_19 ?_
    refine g_geti ft2 fl_X4_129 (j := 11) (by decide) dX4_carry_20 (by assumption) ?_
    refine pw_bipush (6) dX4_carry_23 (by decide) ?_
    refine pw_icmp_ge 32 dX4_carry_25 (by decide) (fun zc25 => ?_) (fun zc25 => ?_)
    · exact absurd (hwt ▸ hw) (Int32.not_lt.mpr zc25)
    · refine pw_iconst (1) dX4_carry_28 (by decide) ?_
      refine pw_goto 33 dX4_carry_29 (by decide) ?_
      refine g_callS1V (C_stateT (l := l) hlt (by decide)) rfl mc_X4_requireState ml_X4_61 mi_X4_requireState in_X4 (okc_X4_requireState (by decide)) dX4_carry_33 (Nat.zero_le _) (fun zim33 zh33 => ?_)
      rw [show zim33 = im from zh33]
      refine t_aload0 dX4_carry_36 ?_
      refine g_getr ft4 fl_X4_29 (j := 4) (by decide) dX4_carry_37 (by assumption) (by assumption) ?_
      refine t_aload0 dX4_carry_40 ?_
      refine g_getr ft4 fl_X4_10 (j := 0) (by decide) dX4_carry_41 (by assumption) (by assumption) ?_
      refine g_callV1G (C_save (l := l) hlt hC (Classical.choose_spec hTS.2.2.1.1) hR (by decide) (by decide)) rfl ft1 rfl mc_X1_save ml_X4_65 mi_X1_save ms_X1_save in_X1 (okc_X1_save (by decide)) dX4_carry_44 (by assumption) (cat_le (Nat.le_of_ble_eq_true rfl)) (fun _ _ _ _ h => h.elim) (by decide) (fun zv44 zim44 zrm44 zlm44 zh44 => ?_)
      obtain ⟨rfl, rfl, zr, zf, zs2⟩ := zh44
      have hTS3 := hTS.saved zr zf zs2
      obtain ⟨⟨hT3, hC3⟩, ⟨hR3, hI3⟩, hTS4⟩ := id hTS3
      have hC31 := c1 hC3
      obtain ⟨u0, u1, u2, u4, u5, u7, u8⟩ := id hT3
      refine t_aload4 dX4_carry_47 ?_
      refine t_iload1 dX4_carry_49 ?_
      refine g_callV1P (C_place (l := l) hlt hC31 hR3 hI3 hm) rfl ft2 rfl mc_X2_placeOf ml_X4_132 mi_X2_placeOf ms_X2_placeOf in_X2 (okc_X2_placeOf (by decide)) dX4_carry_50 (by assumption) (cat_le (Nat.le_of_ble_eq_true rfl)) ?_
      rw [hp, show oI (some p) = nI p from rfl]
      refine t_istore5 dX4_carry_53 (by decide) okp_r ?_
      refine t_aload3 dX4_carry_55 ?_
      refine t_iload1 dX4_carry_56 ?_
      refine t_aload4 dX4_carry_57 ?_
      refine t_iload5 dX4_carry_59 ?_
      refine g_callV1P (C_hardnessAt (l := l) hlt (hC31.2.2.1 m hm)) rfl ft2 rfl mc_X2_hardnessAt ml_X4_135 mi_X2_hardnessAt ms_X2_hardnessAt in_X2 (okc_X2_hardnessAt (by decide)) dX4_carry_61 (by assumption) (cat_le (Nat.le_of_ble_eq_true rfl)) ?_
      rw [if_pos ⟨nI_pos (by omega), by rw [w11 hR3 hm, (hI3.c hm).2]; exact (nI_ltI (by omega) (by have := (hI3.c hm).1; omega)).mpr hpc, (nI_ltI (b := 6) (by omega) (by decide)).mpr hp6⟩, nI_clamp (by omega), ((hR3.2 m hm).2.2 p hp6).2.1]
      refine t_aload4 dX4_carry_64 ?_
      refine t_iload5 dX4_carry_66 ?_
      refine g_callV1P (C_restAt (l := l) hlt (hC31.2.2.1 m hm)) rfl ft2 rfl mc_X2_restAt ml_X4_138 mi_X2_restAt ms_X2_restAt in_X2 (okc_X2_restAt (by decide)) dX4_carry_68 (by assumption) (cat_le (Nat.le_of_ble_eq_true rfl)) ?_
      rw [if_pos ⟨nI_pos (by omega), by rw [w11 hR3 hm, (hI3.c hm).2]; exact (nI_ltI (by omega) (by have := (hI3.c hm).1; omega)).mpr hpc, (nI_ltI (b := 6) (by omega) (by decide)).mpr hp6⟩, nI_clamp (by omega), ((hR3.2 m hm).2.2 p hp6).2.2.1]
      refine t_aload4 dX4_carry_71 ?_
      refine t_iload5 dX4_carry_73 ?_
      refine g_callV1P (C_dueAt (l := l) hlt (hC31.2.2.1 m hm)) rfl ft2 rfl mc_X2_dueAt ml_X4_141 mi_X2_dueAt ms_X2_dueAt in_X2 (okc_X2_dueAt (by decide)) dX4_carry_75 (by assumption) (cat_le (Nat.le_of_ble_eq_true rfl)) ?_
      rw [if_pos ⟨nI_pos (by omega), by rw [w11 hR3 hm, (hI3.c hm).2]; exact (nI_ltI (by omega) (by have := (hI3.c hm).1; omega)).mpr hpc, (nI_ltI (b := 6) (by omega) (by decide)).mpr hp6⟩, nI_clamp (by omega), ((hR3.2 m hm).2.2 p hp6).2.2.2]
      refine g_callV4I (C_put (l := l) hlt hC31 hR3 hI3 ht h6) rfl ft2 rfl mc_X2_putSack ml_X4_144 mi_X2_putSack ms_X2_putSack in_X2 (okc_X2_putSack (by decide)) dX4_carry_78 (by assumption) (cat_le (Nat.le_of_ble_eq_true rfl)) (fun zx78 zim78 zh78 => ?_)
      obtain ⟨rfl, zR, zfr⟩ := zh78
      refine t_istore6 dX4_carry_81 (by decide) okp_i ?_
      refine t_aload4 dX4_carry_83 ?_
      refine t_iload5 dX4_carry_85 ?_
      refine g_callV1V (C_drop (l := l) hlt hC31 zR (inS_CI hI3 h6) hm rfl (by rw [inS_cnt hne]; exact hpc)) rfl ft2 rfl mc_X2_dropSack ml_X4_148 mi_X2_dropSack ms_X2_dropSack in_X2 (okc_X2_dropSack (by decide)) dX4_carry_87 (by assumption) (cat_le (Nat.le_of_ble_eq_true rfl)) (fun zim87 zh87 => ?_)
      refine t_iload6 dX4_carry_90 ?_
      refine pw_iret dX4_carry_92 rfl ?_
      exact ⟨rfl, rfl, rfl, hTS3.now zh87.1 (dpS_CI (inS_CI hI3 h6) hm) (zfr.trans zh87.2)⟩

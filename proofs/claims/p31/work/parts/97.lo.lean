/-! The law: its start, its loop -/
theorem CW0 : CW S0 := ⟨fun m _ => ⟨0, by decide, rfl⟩, fun m _ => ⟨by show (0 : Int32) < 200; decide, by show (0 : Int32) < 10; decide⟩, ⟨by show (0 : Int32) ≤ 10 ∧ (10 : Int32) ≤ 15; decide, fun m _ => by show (0 : Int32) ≤ 20 ∧ (20 : Int32) ≤ 60; decide⟩⟩
theorem WA0 : WA S0 := ⟨CW0, fun m p _ hp => absurd hp (by show ¬ p + 1 < 0; omega), fun m _ p _ _ _ hp => absurd hp (by show ¬ p < 0; omega), ⟨0, 0, 0, by decide, rfl, fun m p _ hp => absurd hp (by show ¬ p < 0; omega), rfl, rfl, by decide, by decide, by decide⟩⟩
theorem bx0S : bxS S0 := ⟨⟨by show 1 ≤ (10 : Int32).toInt ∧ (10 : Int32).toInt ≤ 15; decide, by show 0 ≤ (20 : Int32).toInt ∧ (20 : Int32).toInt ≤ 100; decide, by show 5 ≤ (20 : Int32).toInt ∧ (20 : Int32).toInt ≤ 100; decide⟩, fun m _ => ⟨by show 50 ≤ (200 : Int32).toInt ∧ (200 : Int32).toInt ≤ 500; decide, by show 0 ≤ (0 : Int32).toInt ∧ (0 : Int32).toInt ≤ (200 : Int32).toInt; decide, by show 0 ≤ (20 : Int32).toInt ∧ (20 : Int32).toInt ≤ 60; decide, by show 0 ≤ (0 : Int32).toInt ∧ (0 : Int32).toInt ≤ (11 : Int32).toInt ∧ (11 : Int32).toInt ≤ 11; decide, by show 8 ≤ (40 : Int32).toInt ∧ (40 : Int32).toInt ≤ 60; decide, by show 8 ≤ (10 : Int32).toInt ∧ (10 : Int32).toInt ≤ 60; decide⟩, fun m p _ hp => absurd hp (by show ¬ p < 0; omega)⟩
theorem WF0 : WF S0 := WF.of WA0 bx0S
theorem BL0 : BL S0 := by
  unfold BL BLe
  decide +kernel
theorem PI0 : PI 0 S0 := ⟨WF0, BL0, 0, 0, Nat.le_refl _, Nat.le_refl _, rfl, rfl⟩
theorem mo0 : moS S0 0 = none := by
  rcases mo_ex WF0.1.1 (S := S0) (x := 0) with q | ⟨m, p, hm, hp, hx⟩
  · exact q
  · have : cnt S0 m = 0 := rfl
    omega
theorem ch0 : chS S0 = none := fdN_no fun m _ _ h => absurd h.1 (by rw [show rsF S0 m = 1 from if_pos rfl]; decide)
theorem gb0 : gbS S0 0 = none := by unfold gbS; rw [mo0]
theorem bs0 : bsS S0 4 = 60 := if_pos rfl
def QL : TQ := fun N v _ _ _ => N = NN ∧ v = some (.int 1)
def lm0 : TL := fun _ _ => 0
section LAWO
variable {l : Launch} {Lx : Nat} {xs : Nat → Int32}
set_option maxHeartbeats 8000000 in
set_option maxRecDepth 100000 in
theorem law_loop (hlt : l.stackTraces = false) (hL : Lx ≤ 260) : ∀ (k e : Nat) (im : TI) (rm : TP) (lm : TL) (S : CS) (n : Nat) (T : Nat → CS) (sn : Option CS), lm = (fun _ _ => 0) → e + k = 40 → TS (fun _ _ => 0, fun _ _ => none) S n T sn 0 (fun _ => 0) im rm → PI e S → PW l (m_L_law Lx xs) 13 (3 * k) (14 * k) NN 55 [some (pv (some 900)), some (pv (some 0)), some (.int (nI e))] [] im rm lm QL noX := by
  intro k
  induction k with
  | zero =>
    intro e im rm lm S n T sn hl he hTS hP
    refine t_iload2 dL_law_55 ?_
    refine pw_bipush (40) dL_law_56 (by decide) ?_
    refine pw_icmp_ge 99 dL_law_58 (by decide) (fun _ => ?_) (fun zz => absurd (nI_le (a := 40) (b := e) (by omega) (by omega)) zz)
    refine pw_iconst (1) dL_law_99 (by decide) ?_
    exact pw_zret dL_law_100 rfl rfl ⟨rfl, rfl⟩
  | succ k ih =>
    intro e im rm lm S n T sn hl he hTS hP
    have he40 : e < 40 := by omega
    refine t_iload2 dL_law_55 ?_
    refine pw_bipush (40) dL_law_56 (by decide) ?_
    refine pw_icmp_ge 99 dL_law_58 (by decide) (fun zz => absurd zz (nI_ge (b := 40) (a := e) he40 (by decide))) (fun _ => ?_)
    refine t_aload1 dL_law_61 ?_
    refine t_aload0 dL_law_62 ?_
    refine pw_iconst (2) dL_law_63 (by decide) ?_
    refine t_iload2 dL_law_64 ?_
    refine pw_imul dL_law_65 ?_
    rw [show (2 : Int32) * nI e = nI (2 * e) from pk_mul 2 e]
    refine pw_callSS (as := [pv (some 900), .int (nI (2 * e))]) rfl (C_cell (l := l) (Lx := Lx) (xs := xs) (k := 2 * e) hlt (by omega) hL) rfl mc_L_cell ml_L_119 mi_L_cell in_L (okc_L_cell (mt := m_L_law Lx xs) (by decide)) dL_law_66 (cat_le (Nat.le_of_ble_eq_true rfl)) ?_
    refine t_aload0 dL_law_69 ?_
    refine pw_iconst (2) dL_law_70 (by decide) ?_
    refine t_iload2 dL_law_71 ?_
    refine pw_imul dL_law_72 ?_
    rw [show (2 : Int32) * nI e = nI (2 * e) from pk_mul 2 e]
    refine pw_iconst (1) dL_law_73 (by decide) ?_
    refine pw_iadd dL_law_74 ?_
    rw [nI_1]
    refine pw_callSS (as := [pv (some 900), .int (nI (2 * e + 1))]) rfl (C_cell (l := l) (Lx := Lx) (xs := xs) (k := 2 * e + 1) hlt (by omega) hL) rfl mc_L_cell ml_L_119 mi_L_cell in_L (okc_L_cell (mt := m_L_law Lx xs) (by decide)) dL_law_75 (cat_le (Nat.le_of_ble_eq_true rfl)) ?_
    refine g_callS3G (H_act (l := l) hlt hTS hl he40 hP) rfl mc_L_act ml_L_123 mi_L_act in_L (okc_L_act (by decide)) dL_law_78 (Nat.zero_le _) (fun _ _ _ _ h => h.elim) ⟨by omega, by omega⟩ (fun zv zim zrm zlm zh => ?_)
    obtain ⟨rfl, hq, S2, n2, T2, sn2, hP2, hT2⟩ := zh
    obtain ⟨hW2, hB2, c, hh, hc1, hc2, hc3, hc4⟩ := id hP2
    refine pw_if_eq 91 dL_law_81 (by decide) (fun zz => absurd zz (by decide)) (fun _ => ?_)
    refine t_aload1 dL_law_84 ?_
    refine g_callS1P (H_holds (l := l) hlt hT2 hW2 hB2 (by rw [hc4]; exact nI_pos' (by omega))) rfl mc_L_holds ml_L_116 mi_L_holds in_L (okc_L_holds (by decide)) dL_law_85 (Nat.zero_le _) ?_
    refine pw_if_ne 93 dL_law_88 (by decide) (fun _ => ?_) (fun zz => absurd (by decide) zz)
    refine t_iinc2 (1) dL_law_93 (by decide) (by exact Nat.le_of_ble_eq_true rfl) okp_r ?_
    rw [nI_1]
    refine pw_goto 55 dL_law_96 (by decide) ?_
    exact PW.room (mc' := 3 * k) (ms' := 14 * k) (by omega) (by omega) (ih (e + 1) _ _ _ _ _ _ _ (hq.trans hl) (by omega) hT2 hP2)
end LAWO
set_option maxHeartbeats 8000000 in
set_option maxRecDepth 100000 in
theorem law_all {l : Launch} (hlt : l.stackTraces = false) {Lx : Nat} {xs : Nat → Int32} (hL : Lx ≤ 260) : PW l (m_L_law Lx xs) 13 (240 + 120) (2000 + 560) 0 0 [some (pv (some 900)), none, none] [] (fun _ _ => 0) (fun _ _ => none) (fun _ _ => 0) QL noX := by
  have hF : FS 0 (fun _ _ => 0) (fun _ _ => none) (fun _ _ => 0) := ⟨fun _ _ => ⟨rfl, rfl, rfl⟩, fun _ _ _ h => by cases h⟩
  refine PW.room (mc' := (239 + 120) + 1) (ms' := (1992 + 560) + 8) (by omega) (by omega) ?_
  refine pw_new ft4 cl_L_11 it_X4 in_X4 df4 dL_law_0 kdT (by omega) hF noXe (okL_s (show okV _ (pv (some 900)) from Or.inr (by decide)) (okL_n (okL_n okL_z))) okS_z ?_
  have hF := hF.up (N2 := 1) (by omega)
  refine pw_dup dL_law_3 rfl ?_
  refine PW.room (mc' := 239 + (0 + 120)) (ms' := 1992 + (0 + 560)) (by omega) (by omega) ?_
  refine pw_callI (as := []) (b := 0) (K_Mills (l := l) hlt hF) rfl rfl rfl mc_X4_init ml_L_115 mi_X4_init in_X4 (okc_X4_init (by decide)) dL_law_4 (by exact Nat.le_of_ble_eq_true rfl) (fun N' v i r q h => Or.inr ⟨by have := h.1; omega, (okL_s (show okV _ (pv (some 900)) from Or.inr (by decide)) (okL_n (okL_n okL_z))), (okS_c (okr (by omega)) okS_z), noXe⟩) (fun _ _ _ _ h => h.elim) (fun zN zv4 zi4 zr4 zq4 zh4 => ?_)
  obtain ⟨rfl, rfl, hTS, hq4, hG⟩ := zh4; clear hF; have hF := hG; clear hG
  refine t_astore1 (x := (some 0)) dL_law_7 (by exact Nat.le_of_ble_eq_true rfl) okp_r ?_
  have hT : TS (fun _ _ => 0, fun _ _ => none) S0 0 (fun _ => S0) none 0 (fun _ => 0) zi4 zr4 := hTS.cg (fun _ _ => rfl) (fun _ _ _ => rfl) (fun _ _ => rfl) ⟨fun q hq => (hF.1 q (by omega)).1, fun q hq => (hF.1 q (by omega)).2.1, hTS.fz.2.2⟩
  have body : PW l (m_L_law Lx xs) 13 (120) (560) NN 8 [some (pv (some 900)), some (pv (some 0)), none] [] zi4 zr4 zq4 QL noX := by
    refine t_aload1 dL_law_8 ?_
    refine g_callS1P (H_holds (l := l) hlt hT WF0 BL0 (by show (0 : Int32) ≤ 0; decide)) rfl mc_L_holds ml_L_116 mi_L_holds in_L (okc_L_holds (by decide)) dL_law_9 (Nat.zero_le _) ?_
    refine pw_if_eq 51 dL_law_12 (by decide) (fun h => absurd h (by decide)) (fun _ => ?_)
    refine t_aload1 dL_law_15 ?_
    refine pw_iconst (1) dL_law_16 (by decide) ?_
    refine g_callV1P (Q_count (l := l) hlt hT (a := 1) (v := 1) rfl (by decide) (y := -1) (by show (0 : Int32) - 1 = -1; decide)) rfl ft4 rfl mc_X4_count ml_L_19 mi_X4_count ms_X4_count in_X4 (okc_X4_count (by decide)) dL_law_17 kdT (cat_le (Nat.le_of_ble_eq_true rfl)) ?_
    refine pw_iconst (-1) dL_law_20 (by decide) ?_
    refine pw_icmp_ne 51 dL_law_21 (by decide) (fun zz => absurd rfl zz) (fun _ => ?_)
    refine t_aload1 dL_law_24 ?_
    refine g_callV0P (show Con l m_X4_chosen 8 0 0 NN [pv (some 0)] zi4 zr4 zq4 (QP (.int (-1)) zi4 zr4 zq4) noX by have q := C_chosen (l := l) (lm := zq4) hlt hT; rw [ch0] at q; exact q) rfl ft4 rfl mc_X4_chosen ml_L_41 mi_X4_chosen ms_X4_chosen in_X4 (okc_X4_chosen (by decide)) dL_law_25 kdT (cat_le (Nat.le_of_ble_eq_true rfl)) ?_
    refine pw_iconst (-1) dL_law_28 (by decide) ?_
    refine pw_icmp_ne 51 dL_law_29 (by decide) (fun zz => absurd rfl zz) (fun _ => ?_)
    refine t_aload1 dL_law_32 ?_
    refine pw_iconst (0) dL_law_33 (by decide) ?_
    refine g_callV1G (Q_ground (l := l) hlt hT (x := 0) (y := -1) (by rw [gb0]; rfl)) rfl ft4 rfl mc_X4_groundIn ml_L_76 mi_X4_groundIn ms_X4_groundIn in_X4 (okc_X4_groundIn (by decide)) dL_law_34 kdT (cat_le (Nat.le_of_ble_eq_true rfl)) (fun _ _ _ _ h => h.elim) (by decide) (fun zv34 zim34 zrm34 zlm34 zh34 => ?_)
    obtain ⟨rfl, hq34, hT1⟩ := zh34
    refine pw_iconst (-1) dL_law_37 (by decide) ?_
    refine pw_icmp_ne 51 dL_law_38 (by decide) (fun zz => absurd rfl zz) (fun _ => ?_)
    refine t_aload1 dL_law_41 ?_
    refine pw_iconst (4) dL_law_42 (by decide) ?_
    refine g_callV1G (Q_best (l := l) hlt hT1 (m := 4) (x := 4) (by decide) rfl) rfl ft4 rfl mc_X4_bestStone ml_L_62 mi_X4_bestStone ms_X4_bestStone in_X4 (okc_X4_bestStone (by decide)) dL_law_43 kdT (cat_le (Nat.le_of_ble_eq_true rfl)) (fun _ _ _ _ h => h.elim) (by decide) (fun zv43 zim43 zrm43 zlm43 zh43 => ?_)
    obtain ⟨rfl, hq43, hT2⟩ := zh43
    refine pw_bipush (60) dL_law_46 (by decide) ?_
    refine pw_icmp_eq 53 dL_law_48 (by decide) (fun _ => ?_) (fun zz => absurd bs0 zz)
    refine pw_iconst (0) dL_law_53 (by decide) ?_
    refine t_istore2 dL_law_54 (by exact Nat.le_of_ble_eq_true rfl) okp_r ?_
    exact PW.room (mc' := 3 * 40) (ms' := 14 * 40) (by decide) (by decide) (law_loop hlt hL 40 0 _ _ _ _ _ _ _ ((hq43.trans hq34).trans hq4) rfl hT2 PI0)
  exact PW.room (by omega) (by omega) body

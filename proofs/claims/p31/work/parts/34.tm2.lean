/-! TideMills: what would be -/
theorem i32_24 : (24 : Int32) = nI 24 := rfl
set_option maxHeartbeats 4000000 in
set_option maxRecDepth 100000 in
theorem C_foreseen0 {l : Launch} (hlt : l.stackTraces = false) {im : TI} {rm : TP} {lm : TL} {S : CS} (hT : RT rm) (hC : RC rm) (hR : CR 1 S im) (hI : CI S) (hN : NB 27 im) {N : Nat} {x : Int32} (hx : x = nI N) (hN2 : N < 2 ^ 31) : Con l m_X4_foreseen 5 0 0 NN [pv (some 0), .int (x), .int (0)] im rm lm (QI (fun x im2 => x = (hsS N S).1 6 - S.1 6 ∧ fr 27 im im2 ∧ NB 27 im2) rm lm) noX := by
  have hk0 := kdT
  have hC1 := c1 hC
  have hk1 := hC1.1
  obtain ⟨t0, t1, t2, t4, t5, t7, t8⟩ := id hT
  have hC27 := c27 hC
  have hk27 := hC27.1
  refine Con.ofN (k := 0) (L0 := [some (pv (some 0)), some (.int (x)), some (.int (0))]) hlt (by decide +kernel) rfl rfl (by rw [en1 pv_cat, en1 rfl, en1 rfl, en0]; exact Nat.le_of_ble_eq_true rfl) (by rw [en1 pv_cat, en1 rfl, en1 rfl, en0]; rfl) ?_
  subst hx
  refine t_aload0 dX4_foreseen_0 ?_
  refine g_getr ft4 fl_X4_16 (j := 1) (by decide) dX4_foreseen_1 (by assumption) (by assumption) ?_
  refine t_aload0 dX4_foreseen_4 ?_
  refine g_getr ft4 fl_X4_10 (j := 0) (by decide) dX4_foreseen_5 (by assumption) (by assumption) ?_
  refine g_callV1V (C_copy (l := l) (c := 27) (b := 1) hlt hC27 hC1 hR hN (by decide)) rfl ft0 rfl mc_X0_copyFrom ml_X4_181 mi_X0_copyFrom ms_X0_copyFrom in_X0 (okc_X0_copyFrom (by decide)) dX4_foreseen_8 (by assumption) (cat_le (Nat.le_of_ble_eq_true rfl)) (fun zim8 zh8 => ?_)
  refine t_aload0 dX4_foreseen_11 ?_
  refine g_getr ft4 fl_X4_16 (j := 1) (by decide) dX4_foreseen_12 (by assumption) (by assumption) ?_
  refine t_iload1 dX4_foreseen_15 ?_
  refine g_callV1V (C_passHours (l := l) (N := N) hlt hC27 zh8.1 rfl hN2 hI) rfl ft0 rfl mc_X0_passHours ml_X4_114 mi_X0_passHours ms_X0_passHours in_X0 (okc_X0_passHours (by decide)) dX4_foreseen_16 (by assumption) (cat_le (Nat.le_of_ble_eq_true rfl)) (fun zim16 zh16 => ?_)
  refine t_iload2 dX4_foreseen_19 ?_
  refine pw_table (off := 28) 48 dX4_foreseen_20 (by decide) (by decide) (by decide) (by decide) ?_
  refine t_aload0 dX4_foreseen_48 ?_
  refine g_getr ft4 fl_X4_16 (j := 1) (by decide) dX4_foreseen_49 (by assumption) (by assumption) ?_
  refine g_geti ft0 fl_X4_111 (j := 10) (by decide) dX4_foreseen_52 (by assumption) ?_
  refine t_aload0 dX4_foreseen_55 ?_
  refine g_getr ft4 fl_X4_10 (j := 0) (by decide) dX4_foreseen_56 (by assumption) (by assumption) ?_
  refine g_geti ft0 fl_X4_111 (j := 10) (by decide) dX4_foreseen_59 (by assumption) ?_
  refine pw_isub dX4_foreseen_62 ?_
  refine pw_iret dX4_foreseen_63 rfl ?_
  obtain ⟨z1, z2⟩ := zh8
  obtain ⟨z3, z4⟩ := zh16
  have z5 : fr 27 im zim16 := z2.trans z4
  have z6 : CR 1 S zim16 := z5.cr hR (by decide)
  refine ⟨rfl, rfl, rfl, _, rfl, ?_, z5, z3.nb⟩
  rw [z3.1.2.2.2.2.2 10 (by decide) (by decide), z6.1.2.2.2.2.2 10 (by decide) (by decide)]
set_option maxHeartbeats 4000000 in
set_option maxRecDepth 100000 in
theorem C_foreseen1 {l : Launch} (hlt : l.stackTraces = false) {im : TI} {rm : TP} {lm : TL} {S : CS} (hT : RT rm) (hC : RC rm) (hR : CR 1 S im) (hI : CI S) (hN : NB 27 im) {N : Nat} {x : Int32} (hx : x = nI N) (hN2 : N < 2 ^ 31) : Con l m_X4_foreseen 5 0 0 NN [pv (some 0), .int (x), .int (1)] im rm lm (QI (fun x im2 => x = (hsS N S).1 7 - S.1 7 ∧ fr 27 im im2 ∧ NB 27 im2) rm lm) noX := by
  have hk0 := kdT
  have hC1 := c1 hC
  have hk1 := hC1.1
  obtain ⟨t0, t1, t2, t4, t5, t7, t8⟩ := id hT
  have hC27 := c27 hC
  have hk27 := hC27.1
  refine Con.ofN (k := 0) (L0 := [some (pv (some 0)), some (.int (x)), some (.int (1))]) hlt (by decide +kernel) rfl rfl (by rw [en1 pv_cat, en1 rfl, en1 rfl, en0]; exact Nat.le_of_ble_eq_true rfl) (by rw [en1 pv_cat, en1 rfl, en1 rfl, en0]; rfl) ?_
  subst hx
  refine t_aload0 dX4_foreseen_0 ?_
  refine g_getr ft4 fl_X4_16 (j := 1) (by decide) dX4_foreseen_1 (by assumption) (by assumption) ?_
  refine t_aload0 dX4_foreseen_4 ?_
  refine g_getr ft4 fl_X4_10 (j := 0) (by decide) dX4_foreseen_5 (by assumption) (by assumption) ?_
  refine g_callV1V (C_copy (l := l) (c := 27) (b := 1) hlt hC27 hC1 hR hN (by decide)) rfl ft0 rfl mc_X0_copyFrom ml_X4_181 mi_X0_copyFrom ms_X0_copyFrom in_X0 (okc_X0_copyFrom (by decide)) dX4_foreseen_8 (by assumption) (cat_le (Nat.le_of_ble_eq_true rfl)) (fun zim8 zh8 => ?_)
  refine t_aload0 dX4_foreseen_11 ?_
  refine g_getr ft4 fl_X4_16 (j := 1) (by decide) dX4_foreseen_12 (by assumption) (by assumption) ?_
  refine t_iload1 dX4_foreseen_15 ?_
  refine g_callV1V (C_passHours (l := l) (N := N) hlt hC27 zh8.1 rfl hN2 hI) rfl ft0 rfl mc_X0_passHours ml_X4_114 mi_X0_passHours ms_X0_passHours in_X0 (okc_X0_passHours (by decide)) dX4_foreseen_16 (by assumption) (cat_le (Nat.le_of_ble_eq_true rfl)) (fun zim16 zh16 => ?_)
  refine t_iload2 dX4_foreseen_19 ?_
  refine pw_table (off := 44) 64 dX4_foreseen_20 (by decide) (by decide) (by decide) (by decide) ?_
  refine t_aload0 dX4_foreseen_64 ?_
  refine g_getr ft4 fl_X4_16 (j := 1) (by decide) dX4_foreseen_65 (by assumption) (by assumption) ?_
  refine g_geti ft0 fl_X4_314 (j := 11) (by decide) dX4_foreseen_68 (by assumption) ?_
  refine t_aload0 dX4_foreseen_71 ?_
  refine g_getr ft4 fl_X4_10 (j := 0) (by decide) dX4_foreseen_72 (by assumption) (by assumption) ?_
  refine g_geti ft0 fl_X4_314 (j := 11) (by decide) dX4_foreseen_75 (by assumption) ?_
  refine pw_isub dX4_foreseen_78 ?_
  refine pw_iret dX4_foreseen_79 rfl ?_
  obtain ⟨z1, z2⟩ := zh8
  obtain ⟨z3, z4⟩ := zh16
  have z5 : fr 27 im zim16 := z2.trans z4
  have z6 : CR 1 S zim16 := z5.cr hR (by decide)
  refine ⟨rfl, rfl, rfl, _, rfl, ?_, z5, z3.nb⟩
  rw [z3.1.2.2.2.2.2 11 (by decide) (by decide), z6.1.2.2.2.2.2 11 (by decide) (by decide)]
set_option maxHeartbeats 4000000 in
set_option maxRecDepth 100000 in
theorem C_foreseen2 {l : Launch} (hlt : l.stackTraces = false) {im : TI} {rm : TP} {lm : TL} {S : CS} (hT : RT rm) (hC : RC rm) (hR : CR 1 S im) (hI : CI S) (hN : NB 27 im) {N : Nat} {x : Int32} (hx : x = nI N) (hN2 : N < 2 ^ 31) : Con l m_X4_foreseen 5 0 0 NN [pv (some 0), .int (x), .int (2)] im rm lm (QI (fun x im2 => x = (hsS N S).1 2 - S.1 2 ∧ fr 27 im im2 ∧ NB 27 im2) rm lm) noX := by
  have hk0 := kdT
  have hC1 := c1 hC
  have hk1 := hC1.1
  obtain ⟨t0, t1, t2, t4, t5, t7, t8⟩ := id hT
  have hC27 := c27 hC
  have hk27 := hC27.1
  refine Con.ofN (k := 0) (L0 := [some (pv (some 0)), some (.int (x)), some (.int (2))]) hlt (by decide +kernel) rfl rfl (by rw [en1 pv_cat, en1 rfl, en1 rfl, en0]; exact Nat.le_of_ble_eq_true rfl) (by rw [en1 pv_cat, en1 rfl, en1 rfl, en0]; rfl) ?_
  subst hx
  refine t_aload0 dX4_foreseen_0 ?_
  refine g_getr ft4 fl_X4_16 (j := 1) (by decide) dX4_foreseen_1 (by assumption) (by assumption) ?_
  refine t_aload0 dX4_foreseen_4 ?_
  refine g_getr ft4 fl_X4_10 (j := 0) (by decide) dX4_foreseen_5 (by assumption) (by assumption) ?_
  refine g_callV1V (C_copy (l := l) (c := 27) (b := 1) hlt hC27 hC1 hR hN (by decide)) rfl ft0 rfl mc_X0_copyFrom ml_X4_181 mi_X0_copyFrom ms_X0_copyFrom in_X0 (okc_X0_copyFrom (by decide)) dX4_foreseen_8 (by assumption) (cat_le (Nat.le_of_ble_eq_true rfl)) (fun zim8 zh8 => ?_)
  refine t_aload0 dX4_foreseen_11 ?_
  refine g_getr ft4 fl_X4_16 (j := 1) (by decide) dX4_foreseen_12 (by assumption) (by assumption) ?_
  refine t_iload1 dX4_foreseen_15 ?_
  refine g_callV1V (C_passHours (l := l) (N := N) hlt hC27 zh8.1 rfl hN2 hI) rfl ft0 rfl mc_X0_passHours ml_X4_114 mi_X0_passHours ms_X0_passHours in_X0 (okc_X0_passHours (by decide)) dX4_foreseen_16 (by assumption) (cat_le (Nat.le_of_ble_eq_true rfl)) (fun zim16 zh16 => ?_)
  refine t_iload2 dX4_foreseen_19 ?_
  refine pw_table (off := 60) 80 dX4_foreseen_20 (by decide) (by decide) (by decide) (by decide) ?_
  refine t_aload0 dX4_foreseen_80 ?_
  refine g_getr ft4 fl_X4_16 (j := 1) (by decide) dX4_foreseen_81 (by assumption) (by assumption) ?_
  refine g_geti ft0 fl_X4_296 (j := 6) (by decide) dX4_foreseen_84 (by assumption) ?_
  refine t_aload0 dX4_foreseen_87 ?_
  refine g_getr ft4 fl_X4_10 (j := 0) (by decide) dX4_foreseen_88 (by assumption) (by assumption) ?_
  refine g_geti ft0 fl_X4_296 (j := 6) (by decide) dX4_foreseen_91 (by assumption) ?_
  refine pw_isub dX4_foreseen_94 ?_
  refine pw_iret dX4_foreseen_95 rfl ?_
  obtain ⟨z1, z2⟩ := zh8
  obtain ⟨z3, z4⟩ := zh16
  have z5 : fr 27 im zim16 := z2.trans z4
  have z6 : CR 1 S zim16 := z5.cr hR (by decide)
  refine ⟨rfl, rfl, rfl, _, rfl, ?_, z5, z3.nb⟩
  rw [z3.1.2.2.2.2.2 6 (by decide) (by decide), z6.1.2.2.2.2.2 6 (by decide) (by decide)]
set_option maxHeartbeats 4000000 in
set_option maxRecDepth 100000 in
theorem C_foreseen3 {l : Launch} (hlt : l.stackTraces = false) {im : TI} {rm : TP} {lm : TL} {S : CS} (hT : RT rm) (hC : RC rm) (hR : CR 1 S im) (hI : CI S) (hN : NB 27 im) {N : Nat} {x : Int32} (hx : x = nI N) (hN2 : N < 2 ^ 31) : Con l m_X4_foreseen 5 0 0 NN [pv (some 0), .int (x), .int (3)] im rm lm (QI (fun x im2 => x = (hsS N S).1 4 - S.1 4 ∧ fr 27 im im2 ∧ NB 27 im2) rm lm) noX := by
  have hk0 := kdT
  have hC1 := c1 hC
  have hk1 := hC1.1
  obtain ⟨t0, t1, t2, t4, t5, t7, t8⟩ := id hT
  have hC27 := c27 hC
  have hk27 := hC27.1
  refine Con.ofN (k := 0) (L0 := [some (pv (some 0)), some (.int (x)), some (.int (3))]) hlt (by decide +kernel) rfl rfl (by rw [en1 pv_cat, en1 rfl, en1 rfl, en0]; exact Nat.le_of_ble_eq_true rfl) (by rw [en1 pv_cat, en1 rfl, en1 rfl, en0]; rfl) ?_
  subst hx
  refine t_aload0 dX4_foreseen_0 ?_
  refine g_getr ft4 fl_X4_16 (j := 1) (by decide) dX4_foreseen_1 (by assumption) (by assumption) ?_
  refine t_aload0 dX4_foreseen_4 ?_
  refine g_getr ft4 fl_X4_10 (j := 0) (by decide) dX4_foreseen_5 (by assumption) (by assumption) ?_
  refine g_callV1V (C_copy (l := l) (c := 27) (b := 1) hlt hC27 hC1 hR hN (by decide)) rfl ft0 rfl mc_X0_copyFrom ml_X4_181 mi_X0_copyFrom ms_X0_copyFrom in_X0 (okc_X0_copyFrom (by decide)) dX4_foreseen_8 (by assumption) (cat_le (Nat.le_of_ble_eq_true rfl)) (fun zim8 zh8 => ?_)
  refine t_aload0 dX4_foreseen_11 ?_
  refine g_getr ft4 fl_X4_16 (j := 1) (by decide) dX4_foreseen_12 (by assumption) (by assumption) ?_
  refine t_iload1 dX4_foreseen_15 ?_
  refine g_callV1V (C_passHours (l := l) (N := N) hlt hC27 zh8.1 rfl hN2 hI) rfl ft0 rfl mc_X0_passHours ml_X4_114 mi_X0_passHours ms_X0_passHours in_X0 (okc_X0_passHours (by decide)) dX4_foreseen_16 (by assumption) (cat_le (Nat.le_of_ble_eq_true rfl)) (fun zim16 zh16 => ?_)
  refine t_iload2 dX4_foreseen_19 ?_
  refine pw_tableD 96 dX4_foreseen_20 (by decide) (by decide) ?_
  refine t_aload0 dX4_foreseen_96 ?_
  refine g_getr ft4 fl_X4_16 (j := 1) (by decide) dX4_foreseen_97 (by assumption) (by assumption) ?_
  refine g_geti ft0 fl_X4_302 (j := 8) (by decide) dX4_foreseen_100 (by assumption) ?_
  refine t_aload0 dX4_foreseen_103 ?_
  refine g_getr ft4 fl_X4_10 (j := 0) (by decide) dX4_foreseen_104 (by assumption) (by assumption) ?_
  refine g_geti ft0 fl_X4_302 (j := 8) (by decide) dX4_foreseen_107 (by assumption) ?_
  refine pw_isub dX4_foreseen_110 ?_
  refine pw_iret dX4_foreseen_111 rfl ?_
  obtain ⟨z1, z2⟩ := zh8
  obtain ⟨z3, z4⟩ := zh16
  have z5 : fr 27 im zim16 := z2.trans z4
  have z6 : CR 1 S zim16 := z5.cr hR (by decide)
  refine ⟨rfl, rfl, rfl, _, rfl, ?_, z5, z3.nb⟩
  rw [z3.1.2.2.2.2.2 8 (by decide) (by decide), z6.1.2.2.2.2.2 8 (by decide) (by decide)]
theorem hs_one {S : CS} {h : Nat} (h1 : 1 ≤ h) : hsS 1 (hsS (h - 1) S) = hsS h S := by
  obtain ⟨k, rfl⟩ : ∃ k, h = k + 1 := ⟨h - 1, by omega⟩
  rw [Nat.add_sub_cancel, hsS_succ (S := S) k]
  rfl
def gbS (S : CS) (s : Int32) : Option Nat := match moS S s with
  | none => none
  | some m => fdN (fun h => poS (hsS h S) m s = none) 200 1
theorem gbS_lt {S : CS} {s : Int32} {h : Nat} (e : gbS S s = some h) : h ≤ 200 := by
  unfold gbS at e
  split at e
  · cases e
  · have := fdN_some _ _ _ e; omega
set_option maxHeartbeats 4000000 in
set_option maxRecDepth 100000 in
theorem C_hoursTo {l : Launch} (hlt : l.stackTraces = false) {im : TI} {rm : TP} {lm : TL} {S : CS} (hT : RT rm) (hC : RC rm) (hR : CR 1 S im) (hI : CI S) (hN : NB 27 im) {s : Int32} : Con l m_X4_hoursToGround 5 0 0 NN [pv (some 0), .int (s)] im rm lm (QI (fun x im2 => x = oI (gbS S s) ∧ fr 27 im im2 ∧ NB 27 im2) rm lm) noX := by
  have hk0 := kdT
  have hC1 := c1 hC
  have hk1 := hC1.1
  obtain ⟨t0, t1, t2, t4, t5, t7, t8⟩ := id hT
  have hC27 := c27 hC
  have hk27 := hC27.1
  refine Con.ofN (k := 2) (L0 := [some (pv (some 0)), some (.int (s)), none, none]) hlt (by decide +kernel) rfl rfl (by rw [en1 pv_cat, en1 rfl, en0]; exact Nat.le_of_ble_eq_true rfl) (by rw [en1 pv_cat, en1 rfl, en0]; rfl) ?_
  have loop : ∀ (m : Nat), m < 5 → moS S s = some m → ∀ (n h : Nat) (imk : TI), h + n = 201 → 1 ≤ h → CR 27 (hsS (h - 1) S) imk → fr 27 im imk → fdN (fun h => poS (hsS h S) m s = none) 200 1 = fdN (fun h => poS (hsS h S) m s = none) n h → PW l m_X4_hoursToGround 5 0 0 NN 28 [some (pv (some 0)), some (.int s), some (pv (some (mA 27 m))), some (.int (nI h))] [] imk rm lm (QI (fun x im2 => x = oI (gbS S s) ∧ fr 27 im im2 ∧ NB 27 im2) rm lm) noX := by
    intro m hm hmo n
    induction n using Nat.strongRecOn with
    | _ n ih =>
      intro h imk hn h1 hRk hfr hf
      have hIk := hsS_CI hI (h - 1)
      refine t_iload3 dX4_hoursToGround_28 ?_
      refine pw_sipush (200) dX4_hoursToGround_29 (by decide) ?_
      refine pw_icmp_gt 60 dX4_hoursToGround_32 (by decide) (fun zc32 => ?_) (fun zc32 => ?_)
      · refine pw_iconst (-1) dX4_hoursToGround_60 (by decide) ?_
        refine pw_iret dX4_hoursToGround_61 rfl ?_
        have zn : n = 0 := by
          have := (nI_ltI (a := 200) (b := h) (by decide) (by omega)).mp zc32
          omega
        subst zn
        exact ⟨rfl, rfl, rfl, _, rfl, by unfold gbS; rw [hmo]; dsimp only; rw [hf]; rfl, hfr, hRk.nb⟩
      · refine t_aload0 dX4_hoursToGround_35 ?_
        refine g_getr ft4 fl_X4_16 (j := 1) (by decide) dX4_hoursToGround_36 (by first | assumption | exact ck_of hC27 hm) (by assumption) ?_
        refine pw_iconst (1) dX4_hoursToGround_39 (by decide) ?_
        refine g_callV1V (C_passHours (l := l) (N := 1) hlt hC27 hRk rfl (by decide) hIk) rfl ft0 rfl mc_X0_passHours ml_X4_114 mi_X0_passHours ms_X0_passHours in_X0 (okc_X0_passHours (by decide)) dX4_hoursToGround_40 (by first | assumption | exact ck_of hC27 hm) (cat_le (Nat.le_of_ble_eq_true rfl)) (fun zim40 zh40 => ?_)
        obtain ⟨zR, zf⟩ := zh40
        have zI := hsS_CI hI h
        have zn : 0 < n := by
          rcases Nat.eq_zero_or_pos n with z | z
          · refine absurd ?_ zc32
            exact (nI_ltI (a := 200) (b := h) (by decide) (by omega)).mpr (by omega)
          · exact z
        rw [hs_one h1] at zR
        refine t_aload2 dX4_hoursToGround_43 ?_
        refine t_iload1 dX4_hoursToGround_44 ?_
        refine g_callV1P (C_place (l := l) hlt hC27 zR zI hm) rfl ft2 rfl mc_X2_placeOf ml_X4_132 mi_X2_placeOf ms_X2_placeOf in_X2 (okc_X2_placeOf (by decide)) dX4_hoursToGround_45 (by first | assumption | exact ck_of hC27 hm) (cat_le (Nat.le_of_ble_eq_true rfl)) ?_
        refine pw_iconst (-1) dX4_hoursToGround_48 (by decide) ?_
        refine pw_icmp_ne 54 dX4_hoursToGround_49 (by decide) (fun zc49 => ?_) (fun zc49 => ?_)
        · refine t_iinc3 (1) dX4_hoursToGround_54 (by decide) (by decide) okp_r ?_
          refine pw_goto 28 dX4_hoursToGround_57 (by decide) ?_
          rw [nI_1 h]
          exact ih (n - 1) (by omega) (h + 1) zim40 (by omega) (by omega) (by rw [show h + 1 - 1 = h by omega]; exact zR) (hfr.trans zf) (by rw [hf, show n = (n - 1) + 1 by omega, fdN, if_neg (fun z => zc49 ((poS_one zI hm).mpr z))]; rfl)
        · refine t_iload3 dX4_hoursToGround_52 ?_
          refine pw_iret dX4_hoursToGround_53 rfl ?_
          exact ⟨rfl, rfl, rfl, _, rfl, by unfold gbS; rw [hmo]; dsimp only; rw [hf, show n = (n - 1) + 1 by omega, fdN, if_pos ((poS_one zI hm).mp (Classical.not_not.mp zc49))]; rfl, hfr.trans zf, zR.nb⟩
  refine t_aload0 dX4_hoursToGround_0 ?_
  refine g_getr ft4 fl_X4_16 (j := 1) (by decide) dX4_hoursToGround_1 (by assumption) (by assumption) ?_
  refine t_aload0 dX4_hoursToGround_4 ?_
  refine g_getr ft4 fl_X4_10 (j := 0) (by decide) dX4_hoursToGround_5 (by assumption) (by assumption) ?_
  refine g_callV1V (C_copy (l := l) (c := 27) (b := 1) hlt hC27 hC1 hR hN (by decide)) rfl ft0 rfl mc_X0_copyFrom ml_X4_181 mi_X0_copyFrom ms_X0_copyFrom in_X0 (okc_X0_copyFrom (by decide)) dX4_hoursToGround_8 (by assumption) (cat_le (Nat.le_of_ble_eq_true rfl)) (fun zim8 zh8 => ?_)
  refine t_aload0 dX4_hoursToGround_11 ?_
  refine g_getr ft4 fl_X4_16 (j := 1) (by decide) dX4_hoursToGround_12 (by assumption) (by assumption) ?_
  refine t_iload1 dX4_hoursToGround_15 ?_
  refine g_callV1P (C_millOfSack (l := l) hlt hC27 zh8.1 hI) rfl ft0 rfl mc_X0_millOfSack ml_X4_197 mi_X0_millOfSack ms_X0_millOfSack in_X0 (okc_X0_millOfSack (by decide)) dX4_hoursToGround_16 (by assumption) (cat_le (Nat.le_of_ble_eq_true rfl)) ?_
  refine t_astore2 dX4_hoursToGround_19 (by decide) okp_i ?_
  refine t_aload2 dX4_hoursToGround_20 ?_
  refine pw_ifnonnull 26 dX4_hoursToGround_21 (by decide) (fun zy21 zc21 => ?_) (fun zc21 => ?_)
  · obtain ⟨zm, ze, rfl⟩ := gm_some zc21
    rw [ze, gm_s]
    refine pw_iconst (1) dX4_hoursToGround_26 (by decide) ?_
    refine t_istore3 dX4_hoursToGround_27 (by decide) okp_r ?_
    exact loop zm (moS_lt ze).1 ze 200 1 zim8 (by decide) (by decide) zh8.1 zh8.2 rfl
  · refine pw_iconst (-1) dX4_hoursToGround_24 (by decide) ?_
    refine pw_iret dX4_hoursToGround_25 rfl ?_
    exact ⟨rfl, rfl, rfl, _, rfl, by unfold gbS; rw [gm_none zc21]; rfl, zh8.2, zh8.1.nb⟩
def leftS (S : CS) (m j : Nat) : Int32 := rtS (hsS 24 (upF S m 6 (nI (60 - 4 * j))))
def bsN (S : CS) (m : Nat) : Nat → Nat → Int32 → Int32 → Int32
  | 0, _, best, _ => best
  | n + 1, j, best, most => if most < rtS S - leftS S m j then bsN S m n (j + 1) (nI (60 - 4 * j)) (rtS S - leftS S m j) else bsN S m n (j + 1) best most
def bsS (S : CS) (m : Nat) : Int32 := if S.2.1 m 9 = 0 then 60 else bsN S m 14 0 60 (-1)
theorem st4 {j : Nat} (h : j < 14) : nI (60 - 4 * j) + -4 = nI (60 - 4 * (j + 1)) := by
  rcases (show j = 0 ∨ j = 1 ∨ j = 2 ∨ j = 3 ∨ j = 4 ∨ j = 5 ∨ j = 6 ∨ j = 7 ∨ j = 8 ∨ j = 9 ∨ j = 10 ∨ j = 11 ∨ j = 12 ∨ j = 13 by omega) with rfl | rfl | rfl | rfl | rfl | rfl | rfl | rfl | rfl | rfl | rfl | rfl | rfl | rfl <;> decide
set_option maxHeartbeats 4000000 in
set_option maxRecDepth 100000 in
theorem C_stone {l : Launch} (hlt : l.stackTraces = false) {im : TI} {rm : TP} {lm : TL} {S : CS} (hT : RT rm) (hC : RC rm) (hR : CR 1 S im) (hI : CI S) (hN : NB 27 im) {m : Nat} (hm : m < 5) : Con l m_X4_stoneThatGrindsMost 5 0 0 NN [pv (some 0), pv (some (mA 1 m))] im rm lm (QI (fun x im2 => x = bsS S m ∧ fr 27 im im2 ∧ NB 27 im2) rm lm) noX := by
  have hk0 := kdT
  have hC1 := c1 hC
  have hk1 := hC1.1
  obtain ⟨t0, t1, t2, t4, t5, t7, t8⟩ := id hT
  have hC27 := c27 hC
  have hk27 := hC27.1
  refine Con.ofN (k := 5) (L0 := [some (pv (some 0)), some (pv (some (mA 1 m))), none, none, none, none, none]) hlt (by decide +kernel) rfl rfl (by rw [en1 pv_cat, en1 pv_cat, en0]; exact Nat.le_of_ble_eq_true rfl) (by rw [en1 pv_cat, en1 pv_cat, en0]; rfl) ?_
  have loop : ∀ (n j : Nat) (bt le : Int32) (imk : TI), j + n = 14 → NB 27 imk → fr 27 im imk → bsS S m = bsN S m n j bt le → PW l m_X4_stoneThatGrindsMost 5 0 0 NN 28 [some (pv (some 0)), some (pv (some (mA 1 m))), some (.int bt), some (.int le), some (.int (rtS S)), some (.int (nI (60 - 4 * j))), none] [] imk rm lm (QI (fun x im2 => x = bsS S m ∧ fr 27 im im2 ∧ NB 27 im2) rm lm) noX := by
    intro n
    induction n using Nat.strongRecOn with
    | _ n ih =>
      intro j bt le imk hn hNk hfr hf
      have hRk : CR 1 S imk := hfr.cr hR (by decide)
      refine t_iload5 dX4_stoneThatGrindsMost_28 ?_
      refine pw_bipush (8) dX4_stoneThatGrindsMost_30 (by decide) ?_
      refine pw_icmp_lt 98 dX4_stoneThatGrindsMost_32 (by decide) (fun zc32 => ?_) (fun zc32 => ?_)
      · refine t_iload2 dX4_stoneThatGrindsMost_98 ?_
        refine pw_iret dX4_stoneThatGrindsMost_99 rfl ?_
        have zn : n = 0 := by
          have := (nI_ltI (a := 60 - 4 * j) (b := 8) (by omega) (by decide)).mp zc32
          omega
        subst zn
        exact ⟨rfl, rfl, rfl, _, rfl, by rw [hf]; rfl, hfr, hNk⟩
      · have zn : 0 < n := by
          rcases Nat.eq_zero_or_pos n with z | z
          · exact absurd ((nI_ltI (a := 60 - 4 * j) (b := 8) (by omega) (by decide)).mpr (by omega)) zc32
          · exact z
        refine t_aload0 dX4_stoneThatGrindsMost_35 ?_
        refine g_getr ft4 fl_X4_16 (j := 1) (by decide) dX4_stoneThatGrindsMost_36 (by first | assumption | exact ck_of hC1 hm) (by assumption) ?_
        refine t_aload0 dX4_stoneThatGrindsMost_39 ?_
        refine g_getr ft4 fl_X4_10 (j := 0) (by decide) dX4_stoneThatGrindsMost_40 (by first | assumption | exact ck_of hC1 hm) (by assumption) ?_
        refine g_callV1V (C_copy (l := l) (c := 27) (b := 1) hlt hC27 hC1 hRk hNk (by decide)) rfl ft0 rfl mc_X0_copyFrom ml_X4_181 mi_X0_copyFrom ms_X0_copyFrom in_X0 (okc_X0_copyFrom (by decide)) dX4_stoneThatGrindsMost_43 (by first | assumption | exact ck_of hC1 hm) (cat_le (Nat.le_of_ble_eq_true rfl)) (fun zim43 zh43 => ?_)
        refine t_aload0 dX4_stoneThatGrindsMost_46 ?_
        refine g_getr ft4 fl_X4_16 (j := 1) (by decide) dX4_stoneThatGrindsMost_47 (by first | assumption | exact ck_of hC1 hm) (by assumption) ?_
        refine t_aload1 dX4_stoneThatGrindsMost_50 ?_
        refine g_geti ft2 fl_X4_269 (j := 0) (by decide) dX4_stoneThatGrindsMost_51 (by first | assumption | exact ck_of hC1 hm) ?_
        refine t_iload5 dX4_stoneThatGrindsMost_54 ?_
        refine g_callV2V (C_changeStone (l := l) hlt hC27 zh43.1 ((zh43.2.cr hRk (by decide)).2 m hm).1 hm) rfl ft0 rfl mc_X0_changeStone ml_X4_324 mi_X0_changeStone ms_X0_changeStone in_X0 (okc_X0_changeStone (by decide)) dX4_stoneThatGrindsMost_56 (by first | assumption | exact ck_of hC1 hm) (cat_le (Nat.le_of_ble_eq_true rfl)) (fun zim56 zh56 => ?_)
        refine t_aload0 dX4_stoneThatGrindsMost_59 ?_
        refine g_getr ft4 fl_X4_16 (j := 1) (by decide) dX4_stoneThatGrindsMost_60 (by first | assumption | exact ck_of hC1 hm) (by assumption) ?_
        refine pw_bipush (24) dX4_stoneThatGrindsMost_63 (by decide) ?_
        refine g_callV1V (C_passHours (l := l) (N := 24) hlt hC27 zh56.1 rfl (by decide) (hI.keep fun n _ => by unfold upF; simp)) rfl ft0 rfl mc_X0_passHours ml_X4_114 mi_X0_passHours ms_X0_passHours in_X0 (okc_X0_passHours (by decide)) dX4_stoneThatGrindsMost_65 (by first | assumption | exact ck_of hC1 hm) (cat_le (Nat.le_of_ble_eq_true rfl)) (fun zim65 zh65 => ?_)
        obtain ⟨zR, zf3⟩ := zh65
        refine t_iload4 dX4_stoneThatGrindsMost_68 ?_
        refine t_aload0 dX4_stoneThatGrindsMost_70 ?_
        refine g_getr ft4 fl_X4_16 (j := 1) (by decide) dX4_stoneThatGrindsMost_71 (by first | assumption | exact ck_of hC1 hm) (by assumption) ?_
        refine g_callV0P (C_restsOfAll (l := l) hlt hC27 zR (hsS_CI (hI.keep fun n _ => by unfold upF; simp) 24)) rfl ft0 rfl mc_X0_restsOfAll ml_X4_321 mi_X0_restsOfAll ms_X0_restsOfAll in_X0 (okc_X0_restsOfAll (by decide)) dX4_stoneThatGrindsMost_74 (by first | assumption | exact ck_of hC1 hm) (cat_le (Nat.le_of_ble_eq_true rfl)) ?_
        refine pw_isub dX4_stoneThatGrindsMost_77 ?_
        refine t_istore6 dX4_stoneThatGrindsMost_78 (by decide) okp_i ?_
        refine t_iload6 dX4_stoneThatGrindsMost_80 ?_
        refine t_iload3 dX4_stoneThatGrindsMost_82 ?_
        refine pw_icmp_le 92 dX4_stoneThatGrindsMost_83 (by decide) (fun zc83 => ?_) (fun zc83 => ?_)
        · refine t_iinc5 (-4) dX4_stoneThatGrindsMost_92 (by decide) (by decide) okp_i ?_
          refine pw_goto 28 dX4_stoneThatGrindsMost_95 (by decide) ?_
          rw [st4 (by omega)]
          refine PW.sub (s_e (s_e (s_e (s_e (s_e (s_e (s_n s_z))))))) ?_
          exact ih (n - 1) (by omega) (j + 1) _ _ zim65 (by omega) zR.nb (hfr.trans (zh43.2.trans (zh56.2.trans zf3))) (by rw [hf, show n = (n - 1) + 1 by omega, bsN, if_neg (show ¬ le < rtS S - leftS S m j from Int32.not_lt.mpr zc83)]; rfl)
        · refine t_iload6 dX4_stoneThatGrindsMost_86 ?_
          refine t_istore3 dX4_stoneThatGrindsMost_88 (by decide) okp_i ?_
          refine t_iload5 dX4_stoneThatGrindsMost_89 ?_
          refine t_istore2 dX4_stoneThatGrindsMost_91 (by decide) okp_r ?_
          refine t_iinc5 (-4) dX4_stoneThatGrindsMost_92 (by decide) (by decide) okp_i ?_
          refine pw_goto 28 dX4_stoneThatGrindsMost_95 (by decide) ?_
          rw [st4 (by omega)]
          refine PW.sub (s_e (s_e (s_e (s_e (s_e (s_e (s_n s_z))))))) ?_
          exact ih (n - 1) (by omega) (j + 1) _ _ zim65 (by omega) zR.nb (hfr.trans (zh43.2.trans (zh56.2.trans zf3))) (by rw [hf, show n = (n - 1) + 1 by omega, bsN, if_pos (show le < rtS S - leftS S m j from Int32.not_le.mp zc83)]; rfl)
  refine t_aload1 dX4_stoneThatGrindsMost_0 ?_
  refine g_geti ft2 fl_X4_129 (j := 11) (by decide) dX4_stoneThatGrindsMost_1 (by first | assumption | exact ck_of hC1 hm) ?_
  refine pw_if_ne 10 dX4_stoneThatGrindsMost_4 (by decide) (fun zc4 => ?_) (fun zc4 => ?_)
  · refine pw_bipush (60) dX4_stoneThatGrindsMost_10 (by decide) ?_
    refine t_istore2 dX4_stoneThatGrindsMost_12 (by decide) okp_r ?_
    refine pw_iconst (-1) dX4_stoneThatGrindsMost_13 (by decide) ?_
    refine t_istore3 dX4_stoneThatGrindsMost_14 (by decide) okp_i ?_
    refine t_aload0 dX4_stoneThatGrindsMost_15 ?_
    refine g_getr ft4 fl_X4_10 (j := 0) (by decide) dX4_stoneThatGrindsMost_16 (by first | assumption | exact ck_of hC1 hm) (by assumption) ?_
    refine g_callV0P (C_restsOfAll (l := l) hlt hC1 hR hI) rfl ft0 rfl mc_X0_restsOfAll ml_X4_321 mi_X0_restsOfAll ms_X0_restsOfAll in_X0 (okc_X0_restsOfAll (by decide)) dX4_stoneThatGrindsMost_19 (by first | assumption | exact ck_of hC1 hm) (cat_le (Nat.le_of_ble_eq_true rfl)) ?_
    refine t_istore4 dX4_stoneThatGrindsMost_22 (by decide) okp_i ?_
    refine pw_bipush (60) dX4_stoneThatGrindsMost_24 (by decide) ?_
    refine t_istore5 dX4_stoneThatGrindsMost_26 (by decide) okp_i ?_
    rw [w11 hR hm] at zc4
    exact loop 14 0 60 (-1) im rfl hN fr.rf (by unfold bsS; rw [if_neg zc4])
  · refine pw_bipush (60) dX4_stoneThatGrindsMost_7 (by decide) ?_
    refine pw_iret dX4_stoneThatGrindsMost_9 rfl ?_
    rw [w11 hR hm] at zc4
    exact ⟨rfl, rfl, rfl, _, rfl, by unfold bsS; rw [if_pos (Classical.not_not.mp zc4)], fr.rf, hN⟩

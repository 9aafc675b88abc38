/-! TideMills: what reads the buffer -/
theorem nuI_fr {im im2 : TI} {x : Int32} (h : im2 239 = im 239) : nuI im2 x = nuI im x := by unfold nuI; rw [h]
theorem bgM_fr {im : TI} {x : Int32} {o : Nat} (h1 : o ≠ 238) (h2 : o ≠ 239) : bgM im x o = im o := by
  unfold bgM
  split
  · rw [ui_ne h2, ui_ne h1, ui_ne h1]
  · rw [ui_ne h1, ui_ne h1]
theorem beM_fr {im : TI} {o : Nat} (h1 : o ≠ 238) (h2 : o ≠ 239) : beM im o = im o := by unfold beM; rw [bgM_fr h1 h2, ui_ne h1]
theorem tkA_fr {im : TI} {x : Int32} {o : Nat} (h1 : o ≠ 238) (h2 : o ≠ 239) : (tkA im x).2 o = im o := by
  unfold tkA
  split
  · unfold tkK
    split
    · exact ui_ne h1
    · rfl
  · split
    · unfold tkD
      split
      · show ui (ui im 239 _ _) 238 3 _ o = im o
        rw [ui_ne h1, ui_ne h2]
      · rfl
    · split
      · unfold tkC
        split
        · exact bgM_fr h1 h2
        · rfl
      · split
        · unfold tkS
          split
          · exact beM_fr h1 h2
          · rfl
        · rfl
/-- the reader over n characters from k on, to the first that it does not take -/
def rdE (B : Nat → Int32) : Nat → Nat → TI → Nat × TI
  | 0, k, im => (k, im)
  | n + 1, k, im => if (tkA im (B k)).1 = 0 then (k, (tkA im (B k)).2) else rdE B n (k + 1) (tkA im (B k)).2
theorem rdE_le {B : Nat → Int32} : ∀ (n k : Nat) (im : TI), k ≤ (rdE B n k im).1 ∧ (rdE B n k im).1 ≤ k + n := by
  intro n
  induction n with
  | zero => exact fun k im => ⟨Nat.le_refl _, Nat.le_refl _⟩
  | succ n ih =>
    intro k im
    unfold rdE
    split
    · exact ⟨Nat.le_refl _, by omega⟩
    · have := ih (k + 1) (tkA im (B k)).2
      omega
theorem rdE_fr {B : Nat → Int32} {o : Nat} (h1 : o ≠ 238) (h2 : o ≠ 239) : ∀ (n k : Nat) (im : TI), (rdE B n k im).2 o = im o := by
  intro n
  induction n with
  | zero => exact fun k im => rfl
  | succ n ih =>
    intro k im
    unfold rdE
    split
    · exact tkA_fr h1 h2
    · rw [ih, tkA_fr h1 h2]
set_option maxHeartbeats 4000000 in
set_option maxRecDepth 100000 in
theorem C_readToError {l : Launch} (hlt : l.stackTraces = false) {im : TI} {rm : TP} {lm : TL} (hT : RT rm) {T : Nat} (hL : im 0 6 = nI T) (hT60 : T ≤ 60) : Con l m_X4_readToError 5 0 0 NN [pv (some 0)] im rm lm (QI (fun x i2 => x = nI (rdE (im 237) T 0 (beM im)).1 ∧ i2 = (rdE (im 237) T 0 (beM im)).2) rm lm) noX := by
  have hk0 := kdT
  have hk3 := kdR
  have hkb := kdB
  obtain ⟨t0, t1, t2, t4, t5, t7, t8⟩ := id hT
  refine Con.ofN (k := 1) (L0 := [some (pv (some 0)), none]) hlt (by decide +kernel) rfl rfl (by rw [en1 pv_cat, en0]; exact Nat.le_of_ble_eq_true rfl) (by rw [en1 pv_cat, en0]; rfl) ?_
  have loop : ∀ (n k : Nat) (imk : TI), k + n = T → imk 237 = im 237 → imk 0 = im 0 → rdE (im 237) T 0 (beM im) = rdE (im 237) n k imk → PW l m_X4_readToError 5 0 0 NN 9 [some (pv (some 0)), some (.int (nI k))] [] imk rm lm (QI (fun x i2 => x = nI (rdE (im 237) T 0 (beM im)).1 ∧ i2 = (rdE (im 237) T 0 (beM im)).2) rm lm) noX := by
    intro n
    induction n using Nat.strongRecOn with
    | _ n ih =>
      intro k imk hkn hb h0 hf
      have hL' : imk 0 6 = nI T := by rw [h0]; exact hL
      refine t_iload1 dX4_readToError_9 ?_
      refine t_aload0 dX4_readToError_10 ?_
      refine g_geti ft4 fl_X4_37 (j := 6) (by decide) dX4_readToError_11 (by assumption) ?_
      refine pw_icmp_ge 48 dX4_readToError_14 (by decide) (fun zc14 => ?_) (fun zc14 => ?_)
      · refine t_iload1 dX4_readToError_48 ?_
        refine pw_iret dX4_readToError_49 rfl ?_
        have zn : n = 0 := by
          have := (nI_leI (a := T) (b := k) (by omega) (by omega)).mp (hL' ▸ zc14)
          omega
        subst zn
        exact ⟨rfl, rfl, rfl, _, rfl, by rw [hf, rdE], by rw [hf, rdE]⟩
      · have zlt : k < T := by
          rcases Nat.lt_or_ge k T with z | z
          · exact z
          · exact absurd (hL' ▸ (nI_leI (a := T) (b := k) (by omega) (by omega)).mpr z) zc14
        refine t_iload1 dX4_readToError_17 ?_
        refine t_aload0 dX4_readToError_18 ?_
        refine g_getr ft4 fl_X4_33 (j := 5) (by decide) dX4_readToError_19 (by assumption) (by assumption) ?_
        refine g_alen dX4_readToError_22 (by assumption) rfl ?_
        refine pw_icmp_ge 48 dX4_readToError_23 (by decide) (fun zc23 => ?_) (fun zc23 => ?_)
        · refine t_iload1 dX4_readToError_48 ?_
          refine pw_iret dX4_readToError_49 rfl ?_
          exact absurd ((nI_leI (a := 60) (b := k) (by decide) (by omega)).mp (by rw [alB] at zc23; exact zc23)) (by have := zlt; omega)
        · refine t_aload0 dX4_readToError_26 ?_
          refine g_getr ft4 fl_X4_44 (j := 7) (by decide) dX4_readToError_27 (by assumption) (by assumption) ?_
          refine t_aload0 dX4_readToError_30 ?_
          refine g_getr ft4 fl_X4_33 (j := 5) (by decide) dX4_readToError_31 (by assumption) (by assumption) ?_
          refine t_iload1 dX4_readToError_34 ?_
          refine g_iald dX4_readToError_35 (by assumption) (by rw [alB]; exact vin_nI (by omega) (by decide)) ?_
          refine g_callV1I (C_rTake (l := l) hlt t8) rfl ft3 rfl mc_X3_take ml_X4_275 mi_X3_take ms_X3_take in_X3 (okc_X3_take (by decide)) dX4_readToError_36 (by assumption) (cat_le (Nat.le_of_ble_eq_true rfl)) (fun zx36 zim36 zh36 => ?_)
          refine pw_if_eq 48 dX4_readToError_39 (by decide) (fun zc39 => ?_) (fun zc39 => ?_)
          · refine t_iload1 dX4_readToError_48 ?_
            refine pw_iret dX4_readToError_49 rfl ?_
            obtain ⟨n', rfl⟩ : ∃ n', n = n' + 1 := ⟨n - 1, by have := zlt; omega⟩
            rw [nI_clamp (by omega), hb] at zh36
            have z0 : (tkA imk (im 237 k)).1 = 0 := by rw [← zh36]; exact zc39
            exact ⟨rfl, rfl, rfl, _, rfl, by rw [hf, rdE, if_pos z0], by rw [hf, rdE, if_pos z0, ← zh36]⟩
          · refine t_iinc1 (1) dX4_readToError_42 (by decide) (by decide) okp_r ?_
            refine pw_goto 9 dX4_readToError_45 (by decide) ?_
            obtain ⟨n', rfl⟩ : ∃ n', n = n' + 1 := ⟨n - 1, by have := zlt; omega⟩
            rw [nI_clamp (by omega), hb] at zh36
            have z0 : ¬ (tkA imk (im 237 k)).1 = 0 := by rw [← zh36]; exact zc39
            have z2 : (tkA imk (im 237 k)).2 = zim36 := by rw [← zh36]
            rw [nI_1 k]
            exact ih n' (by omega) (k + 1) zim36 (by omega) (by rw [← z2, tkA_fr (by decide) (by decide), hb]) (by rw [← z2, tkA_fr (by decide) (by decide), h0]) (by rw [hf, rdE, if_neg z0, z2])
  refine t_aload0 dX4_readToError_0 ?_
  refine g_getr ft4 fl_X4_44 (j := 7) (by decide) dX4_readToError_1 (by assumption) (by assumption) ?_
  refine g_callV0V (C_rBeg (l := l) hlt t8) rfl ft3 rfl mc_X3_begin ml_X4_272 mi_X3_begin ms_X3_begin in_X3 (okc_X3_begin (by decide)) dX4_readToError_4 (by assumption) (cat_le (Nat.le_of_ble_eq_true rfl)) (fun zim4 zh4 => ?_)
  refine pw_iconst (0) dX4_readToError_7 (by decide) ?_
  refine t_istore1 dX4_readToError_8 (by decide) okp_r ?_
  subst zh4
  exact loop T 0 (beM im) (by omega) (beM_fr (by decide) (by decide)) (beM_fr (by decide) (by decide)) rfl
set_option maxHeartbeats 4000000 in
set_option maxRecDepth 100000 in
theorem C_doPartH {l : Launch} (hlt : l.stackTraces = false) {im : TI} {rm : TP} {lm : TL} {S : CS} (hT : RT rm) (hC : RC rm) (hR : CR 1 S im) (hI : CI S) {N : Nat} (hkd : im 238 0 = 43) (hn0 : nuI im 0 = nI N) (hN : N < 2 ^ 31) : Con l m_X4_doPart 5 0 0 NN [pv (some 0)] im rm lm (QI (fun x im2 => x = 1 ∧ CR 1 (hsS N S) im2 ∧ fr 1 im im2) rm lm) noX := by
  have hk0 := kdT
  have hC1 := c1 hC
  have hk1 := hC1.1
  obtain ⟨t0, t1, t2, t4, t5, t7, t8⟩ := id hT
  have hk3 := kdR
  refine Con.ofN (k := 1) (L0 := [some (pv (some 0)), none]) hlt (by decide +kernel) rfl rfl (by rw [en1 pv_cat, en0]; exact Nat.le_of_ble_eq_true rfl) (by rw [en1 pv_cat, en0]; rfl) ?_
  refine t_aload0 dX4_doPart_0 ?_
  refine g_getr ft4 fl_X4_44 (j := 7) (by decide) dX4_doPart_1 (by assumption) (by assumption) ?_
  refine g_geti ft3 fl_X4_282 (j := 0) (by decide) dX4_doPart_4 (by assumption) ?_
  refine pw_bipush (43) dX4_doPart_7 (by decide) ?_
  refine pw_icmp_ne 29 dX4_doPart_9 (by decide) (fun zc9 => ?_) (fun zc9 => ?_)
  · exact absurd hkd zc9
  · refine t_aload0 dX4_doPart_12 ?_
    refine g_getr ft4 fl_X4_10 (j := 0) (by decide) dX4_doPart_13 (by assumption) (by assumption) ?_
    refine t_aload0 dX4_doPart_16 ?_
    refine g_getr ft4 fl_X4_44 (j := 7) (by decide) dX4_doPart_17 (by assumption) (by assumption) ?_
    refine pw_iconst (0) dX4_doPart_20 (by decide) ?_
    refine g_callV1P (C_rNum (l := l) hlt t8) rfl ft3 rfl mc_X3_numberAt ml_X4_285 mi_X3_numberAt ms_X3_numberAt in_X3 (okc_X3_numberAt (by decide)) dX4_doPart_21 (by assumption) (cat_le (Nat.le_of_ble_eq_true rfl)) ?_
    refine g_callV1V (C_passHours (l := l) hlt hC1 hR hn0 hN hI) rfl ft0 rfl mc_X0_passHours ml_X4_114 mi_X0_passHours ms_X0_passHours in_X0 (okc_X0_passHours (by decide)) dX4_doPart_24 (by assumption) (cat_le (Nat.le_of_ble_eq_true rfl)) (fun zim24 zh24 => ?_)
    refine pw_iconst (1) dX4_doPart_27 (by decide) ?_
    refine pw_zret dX4_doPart_28 rfl ?_ ?_
    · first | rfl | exact bI_n
    · exact ⟨rfl, rfl, rfl, _, rfl, rfl, zh24⟩
set_option maxHeartbeats 4000000 in
set_option maxRecDepth 100000 in
theorem C_doPartG {l : Launch} (hlt : l.stackTraces = false) {im : TI} {rm : TP} {lm : TL} {S : CS} (hT : RT rm) (hC : RC rm) (hR : CR 1 S im) (hI : CI S) {m : Nat} (hm : m < 5) (hkd : im 238 0 = 103) (hn0 : nuI im 0 = nI m) : Con l m_X4_doPart 5 0 0 NN [pv (some 0)] im rm lm (QI (fun x im2 => x = 1 ∧ CR 1 (upF (upF S m 5 (nuI im 1)) m 6 (nuI im 2)) im2 ∧ fr 1 im im2) rm lm) noX := by
  have hk0 := kdT
  have hC1 := c1 hC
  have hk1 := hC1.1
  obtain ⟨t0, t1, t2, t4, t5, t7, t8⟩ := id hT
  have hk3 := kdR
  have hkm := ck_of hC1 hm
  refine Con.ofN (k := 1) (L0 := [some (pv (some 0)), none]) hlt (by decide +kernel) rfl rfl (by rw [en1 pv_cat, en0]; exact Nat.le_of_ble_eq_true rfl) (by rw [en1 pv_cat, en0]; rfl) ?_
  refine t_aload0 dX4_doPart_0 ?_
  refine g_getr ft4 fl_X4_44 (j := 7) (by decide) dX4_doPart_1 (by assumption) (by assumption) ?_
  refine g_geti ft3 fl_X4_282 (j := 0) (by decide) dX4_doPart_4 (by assumption) ?_
  refine pw_bipush (43) dX4_doPart_7 (by decide) ?_
  refine pw_icmp_ne 29 dX4_doPart_9 (by decide) (fun zc9 => ?_) (fun zc9 => ?_)
  · refine t_aload0 dX4_doPart_29 ?_
    refine g_getr ft4 fl_X4_10 (j := 0) (by decide) dX4_doPart_30 (by assumption) (by assumption) ?_
    refine t_aload0 dX4_doPart_33 ?_
    refine g_getr ft4 fl_X4_44 (j := 7) (by decide) dX4_doPart_34 (by assumption) (by assumption) ?_
    refine pw_iconst (0) dX4_doPart_37 (by decide) ?_
    refine g_callV1P (C_rNum (l := l) hlt t8) rfl ft3 rfl mc_X3_numberAt ml_X4_285 mi_X3_numberAt ms_X3_numberAt in_X3 (okc_X3_numberAt (by decide)) dX4_doPart_38 (by assumption) (cat_le (Nat.le_of_ble_eq_true rfl)) ?_
    refine g_callV1P (C_millAt (l := l) hlt hC1 hR) rfl ft0 rfl mc_X0_millAt ml_X4_256 mi_X0_millAt ms_X0_millAt in_X0 (okc_X0_millAt (by decide)) dX4_doPart_41 (by assumption) (cat_le (Nat.le_of_ble_eq_true rfl)) ?_
    rw [hn0, maO_nI hm, gm_s]
    refine t_astore1 dX4_doPart_44 (by decide) okp_r ?_
    refine t_aload1 dX4_doPart_45 ?_
    refine pw_ifnonnull 51 dX4_doPart_46 (by decide) (fun zy46 zc46 => ?_) (fun zc46 => ?_)
    · refine t_aload0 dX4_doPart_51 ?_
      refine g_getr ft4 fl_X4_44 (j := 7) (by decide) dX4_doPart_52 (by assumption) (by assumption) ?_
      refine g_geti ft3 fl_X4_282 (j := 0) (by decide) dX4_doPart_55 (by assumption) ?_
      refine pw_bipush (103) dX4_doPart_58 (by decide) ?_
      refine pw_icmp_ne 89 dX4_doPart_60 (by decide) (fun zc60 => ?_) (fun zc60 => ?_)
      · exact absurd hkd zc60
      · refine t_aload1 dX4_doPart_63 ?_
        refine t_aload0 dX4_doPart_64 ?_
        refine g_getr ft4 fl_X4_44 (j := 7) (by decide) dX4_doPart_65 (by assumption) (by assumption) ?_
        refine pw_iconst (1) dX4_doPart_68 (by decide) ?_
        refine g_callV1P (C_rNum (l := l) hlt t8) rfl ft3 rfl mc_X3_numberAt ml_X4_285 mi_X3_numberAt ms_X3_numberAt in_X3 (okc_X3_numberAt (by decide)) dX4_doPart_69 (by assumption) (cat_le (Nat.le_of_ble_eq_true rfl)) ?_
        refine g_puti ft2 fl_X4_81 (j := 7) (by decide) ⟨rfl, rfl⟩ dX4_doPart_72 (by assumption) ?_
        refine t_aload1 dX4_doPart_75 ?_
        refine t_aload0 dX4_doPart_76 ?_
        refine g_getr ft4 fl_X4_44 (j := 7) (by decide) dX4_doPart_77 (by assumption) (by assumption) ?_
        refine pw_iconst (2) dX4_doPart_80 (by decide) ?_
        refine g_callV1P (C_rNum (l := l) hlt t8) rfl ft3 rfl mc_X3_numberAt ml_X4_285 mi_X3_numberAt ms_X3_numberAt in_X3 (okc_X3_numberAt (by decide)) dX4_doPart_81 (by assumption) (cat_le (Nat.le_of_ble_eq_true rfl)) ?_
        rw [nuI_fr (ui_ne (show (239 : Nat) ≠ mA 1 m by unfold mA; omega))]
        refine g_puti ft2 fl_X4_84 (j := 8) (by decide) ⟨rfl, rfl⟩ dX4_doPart_84 (by assumption) ?_
        refine pw_iconst (1) dX4_doPart_87 (by decide) ?_
        refine pw_zret dX4_doPart_88 rfl ?_ ?_
        · first | rfl | exact bI_n
        · exact ⟨rfl, rfl, rfl, _, rfl, rfl, (hR.f (w := 5) hm (by decide)).f (w := 6) hm (by decide), (fr.m hm).trans (fr.m hm)⟩
    · exact absurd zc46 (fun z => by cases z)
  · exact absurd (hkd.symm.trans (Classical.not_not.mp zc9)) (by decide)
set_option maxHeartbeats 4000000 in
set_option maxRecDepth 100000 in
theorem C_doPartS {l : Launch} (hlt : l.stackTraces = false) {im : TI} {rm : TP} {lm : TL} {S : CS} (hT : RT rm) (hC : RC rm) (hR : CR 1 S im) (hI : CI S) {m : Nat} (hm : m < 5) (hkd : im 238 0 = 115) (hn0 : nuI im 0 = nI m) (hs : ¬ S.1 5 = -1) : Con l m_X4_doPart 5 0 0 NN [pv (some 0)] im rm lm (QI (fun x im2 => if hrP S m then x = 1 ∧ CR 1 (brS S m (nuI im 1) (nuI im 2)) im2 ∧ fr 1 im im2 else x = 0 ∧ im2 = im) rm lm) noX := by
  have hk0 := kdT
  have hC1 := c1 hC
  have hk1 := hC1.1
  obtain ⟨t0, t1, t2, t4, t5, t7, t8⟩ := id hT
  have hk3 := kdR
  have hkm := ck_of hC1 hm
  refine Con.ofN (k := 1) (L0 := [some (pv (some 0)), none]) hlt (by decide +kernel) rfl rfl (by rw [en1 pv_cat, en0]; exact Nat.le_of_ble_eq_true rfl) (by rw [en1 pv_cat, en0]; rfl) ?_
  refine t_aload0 dX4_doPart_0 ?_
  refine g_getr ft4 fl_X4_44 (j := 7) (by decide) dX4_doPart_1 (by assumption) (by assumption) ?_
  refine g_geti ft3 fl_X4_282 (j := 0) (by decide) dX4_doPart_4 (by assumption) ?_
  refine pw_bipush (43) dX4_doPart_7 (by decide) ?_
  refine pw_icmp_ne 29 dX4_doPart_9 (by decide) (fun zc9 => ?_) (fun zc9 => ?_)
  · refine t_aload0 dX4_doPart_29 ?_
    refine g_getr ft4 fl_X4_10 (j := 0) (by decide) dX4_doPart_30 (by assumption) (by assumption) ?_
    refine t_aload0 dX4_doPart_33 ?_
    refine g_getr ft4 fl_X4_44 (j := 7) (by decide) dX4_doPart_34 (by assumption) (by assumption) ?_
    refine pw_iconst (0) dX4_doPart_37 (by decide) ?_
    refine g_callV1P (C_rNum (l := l) hlt t8) rfl ft3 rfl mc_X3_numberAt ml_X4_285 mi_X3_numberAt ms_X3_numberAt in_X3 (okc_X3_numberAt (by decide)) dX4_doPart_38 (by assumption) (cat_le (Nat.le_of_ble_eq_true rfl)) ?_
    refine g_callV1P (C_millAt (l := l) hlt hC1 hR) rfl ft0 rfl mc_X0_millAt ml_X4_256 mi_X0_millAt ms_X0_millAt in_X0 (okc_X0_millAt (by decide)) dX4_doPart_41 (by assumption) (cat_le (Nat.le_of_ble_eq_true rfl)) ?_
    rw [hn0, maO_nI hm, gm_s]
    refine t_astore1 dX4_doPart_44 (by decide) okp_r ?_
    refine t_aload1 dX4_doPart_45 ?_
    refine pw_ifnonnull 51 dX4_doPart_46 (by decide) (fun zy46 zc46 => ?_) (fun zc46 => ?_)
    · refine t_aload0 dX4_doPart_51 ?_
      refine g_getr ft4 fl_X4_44 (j := 7) (by decide) dX4_doPart_52 (by assumption) (by assumption) ?_
      refine g_geti ft3 fl_X4_282 (j := 0) (by decide) dX4_doPart_55 (by assumption) ?_
      refine pw_bipush (103) dX4_doPart_58 (by decide) ?_
      refine pw_icmp_ne 89 dX4_doPart_60 (by decide) (fun zc60 => ?_) (fun zc60 => ?_)
      · refine t_aload0 dX4_doPart_89 ?_
        refine g_getr ft4 fl_X4_10 (j := 0) (by decide) dX4_doPart_90 (by assumption) (by assumption) ?_
        refine t_aload1 dX4_doPart_93 ?_
        refine t_aload0 dX4_doPart_94 ?_
        refine g_getr ft4 fl_X4_44 (j := 7) (by decide) dX4_doPart_95 (by assumption) (by assumption) ?_
        refine pw_iconst (1) dX4_doPart_98 (by decide) ?_
        refine g_callV1P (C_rNum (l := l) hlt t8) rfl ft3 rfl mc_X3_numberAt ml_X4_285 mi_X3_numberAt ms_X3_numberAt in_X3 (okc_X3_numberAt (by decide)) dX4_doPart_99 (by assumption) (cat_le (Nat.le_of_ble_eq_true rfl)) ?_
        refine t_aload0 dX4_doPart_102 ?_
        refine g_getr ft4 fl_X4_44 (j := 7) (by decide) dX4_doPart_103 (by assumption) (by assumption) ?_
        refine pw_iconst (2) dX4_doPart_106 (by decide) ?_
        refine g_callV1P (C_rNum (l := l) hlt t8) rfl ft3 rfl mc_X3_numberAt ml_X4_285 mi_X3_numberAt ms_X3_numberAt in_X3 (okc_X3_numberAt (by decide)) dX4_doPart_107 (by assumption) (cat_le (Nat.le_of_ble_eq_true rfl)) ?_
        refine g_callV3I (C_bringSack (l := l) hlt hC1 hR hm hI) rfl ft0 rfl mc_X0_bringSack ml_X4_122 mi_X0_bringSack ms_X0_bringSack in_X0 (okc_X0_bringSack (by decide)) dX4_doPart_110 (by assumption) (cat_le (Nat.le_of_ble_eq_true rfl)) (fun zx110 zim110 zh110 => ?_)
        refine pw_iconst (-1) dX4_doPart_113 (by decide) ?_
        refine pw_icmp_eq 121 dX4_doPart_114 (by decide) (fun zc114 => ?_) (fun zc114 => ?_)
        · refine pw_iconst (0) dX4_doPart_121 (by decide) ?_
          refine pw_zret dX4_doPart_122 rfl ?_ ?_
          · first | rfl | exact bI_n
          · split at zh110
            · exact absurd (zh110.1.symm.trans zc114) hs
            · obtain ⟨ze, rfl⟩ := zh110
              exact ⟨rfl, rfl, rfl, _, rfl, by dsimp only; rw [if_neg (by assumption)]; exact ⟨rfl, rfl⟩⟩
        · refine pw_iconst (1) dX4_doPart_117 (by decide) ?_
          refine pw_goto 122 dX4_doPart_118 (by decide) ?_
          refine pw_zret dX4_doPart_122 rfl ?_ ?_
          · first | rfl | exact bI_n
          · split at zh110
            · exact ⟨rfl, rfl, rfl, _, rfl, by dsimp only; rw [if_pos (by assumption)]; exact ⟨rfl, zh110.2⟩⟩
            · exact absurd zh110.1 zc114
      · exact absurd (hkd.symm.trans (Classical.not_not.mp zc60)) (by decide)
    · exact absurd zc46 (fun z => by cases z)
  · exact absurd (hkd.symm.trans (Classical.not_not.mp zc9)) (by decide)

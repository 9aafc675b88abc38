/-! TideMills$Creek: an hour -/
def nN (im : TI) : Option Nat → Int32
  | none => -1
  | some a => im a 0
theorem nN_s {im : TI} {a : Nat} : nN im (some a) = im a 0 := rfl
theorem nN_n {im : TI} : nN im none = -1 := rfl
set_option maxHeartbeats 4000000 in
set_option maxRecDepth 100000 in
theorem C_numNone {l : Launch} (hlt : l.stackTraces = false) {im : TI} {rm : TP} {lm : TL} {o : Option Nat} (ho : ∀ a, o = some a → kd a = 2) : Con l m_X4_numberOrNone 0 0 0 NN [pv (o)] im rm lm (QP (.int (nN im o)) im rm lm) noX := by
  refine Con.ofN (k := 0) (L0 := [some (pv (o))]) hlt (by decide +kernel) rfl rfl (by rw [en1 pv_cat, en0]; exact Nat.le_of_ble_eq_true rfl) (by rw [en1 pv_cat, en0]; rfl) ?_
  refine t_aload0 dX4_numberOrNone_0 ?_
  refine pw_ifnonnull 8 dX4_numberOrNone_1 (by decide) (fun zy1 zc1 => ?_) (fun zc1 => ?_)
  · subst zc1
    have hko := ho _ rfl
    refine t_aload0 dX4_numberOrNone_8 ?_
    refine g_geti ft2 fl_X4_269 (j := 0) (by decide) dX4_numberOrNone_9 (by assumption) ?_
    refine pw_iret dX4_numberOrNone_12 rfl ?_
    exact ⟨rfl, rfl, rfl, rfl, rfl⟩
  · subst zc1
    refine pw_iconst (-1) dX4_numberOrNone_4 (by decide) ?_
    refine pw_goto 12 dX4_numberOrNone_5 (by decide) ?_
    refine pw_iret dX4_numberOrNone_12 rfl ?_
    exact ⟨rfl, rfl, rfl, rfl, rfl⟩
set_option maxHeartbeats 4000000 in
set_option maxRecDepth 100000 in
theorem C_letWaterIn {l : Launch} (hlt : l.stackTraces = false) {im : TI} {rm : TP} {lm : TL} {c : Nat} {S : CS} (hC : isC rm c) (hR : CR c S im) : Con l m_X0_letWaterIn 3 0 0 NN [pv (some c)] im rm lm (QV (fun im2 => CR c (lwS 5 0 S) im2 ∧ fr c im im2) rm lm) noX := by
  have hkc := hC.1
  refine Con.ofN (k := 2) (L0 := [some (pv (some c)), none, none]) hlt (by decide +kernel) rfl rfl (by rw [en1 pv_cat, en0]; exact Nat.le_of_ble_eq_true rfl) (by rw [en1 pv_cat, en0]; rfl) ?_
  have loop : ∀ (n m : Nat) (Sk : CS) (imk : TI), n = 5 - m → CR c Sk imk → Sk.1 0 = S.1 0 → tdF Sk (Sk.1 0) = tdF S (S.1 0) → fr c im imk → lwS 5 0 S = lwS n m Sk → PW l m_X0_letWaterIn 3 0 0 NN 14 [some (pv (some c)), some (.int (tdF S (S.1 0))), some (pv (mo c m))] [] imk rm lm (QV (fun im2 => CR c (lwS 5 0 S) im2 ∧ fr c im im2) rm lm) noX := by
    intro n
    induction n using Nat.strongRecOn with
    | _ n ih =>
      intro m Sk imk hn hRk hG ht hfr hf
      refine t_aload2 dX0_letWaterIn_14 ?_
      refine pw_ifnull 44 dX0_letWaterIn_15 (by decide) (fun zc15 => ?_) (fun zy15 zc15 => ?_)
      · have zm5 := mo_none zc15
        refine pw_vret dX0_letWaterIn_44 rfl ?_
        exact ⟨rfl, rfl, rfl, rfl, by rw [hf, show n = 0 by omega]; exact hRk, hfr⟩
      · obtain ⟨zhm, rfl⟩ := mo_some zc15
        rw [mo_of zhm]
        have hkm := ck_of hC zhm
        refine t_aload0 dX0_letWaterIn_18 ?_
        refine pw_dup dX0_letWaterIn_19 pv_cat ?_
        refine g_geti ft0 fl_X0_30 (j := 7) (by decide) dX0_letWaterIn_20 (by assumption) ?_
        refine t_aload2 dX0_letWaterIn_23 ?_
        refine t_aload0 dX0_letWaterIn_24 ?_
        refine g_geti ft0 fl_X0_21 (j := 4) (by decide) dX0_letWaterIn_25 (by assumption) ?_
        refine t_iload1 dX0_letWaterIn_28 ?_
        refine g_callV2I (C_letIn (l := l) hlt hkm) rfl ft2 rfl mc_X2_letIn ml_X0_133 mi_X2_letIn ms_X2_letIn in_X2 (okc_X2_letIn (by decide)) dX0_letWaterIn_29 (by assumption) (cat_le (Nat.le_of_ble_eq_true rfl)) (fun zx29 zim29 zh29 => ?_)
        refine pw_iadd dX0_letWaterIn_32 ?_
        refine g_puti ft0 fl_X0_30 (j := 7) (by decide) ⟨rfl, rfl⟩ dX0_letWaterIn_33 (by assumption) ?_
        refine t_aload2 dX0_letWaterIn_36 ?_
        refine g_getr ft2 fl_X0_61 (j := 1) (by decide) dX0_letWaterIn_37 (by assumption) (by first | assumption | exact hC.2.2.2 _ zhm) ?_
        refine t_astore2 dX0_letWaterIn_40 (by decide) okp_i ?_
        refine pw_goto 14 dX0_letWaterIn_41 (by decide) ?_
        have zm5 : m < 5 := zhm
        obtain ⟨n', rfl⟩ : ∃ n', n = n' + 1 := ⟨n - 1, by omega⟩
        obtain ⟨zh1, zh2⟩ := zh29
        rw [hRk.1.2.2.2.1, ← ht] at zh1 zh2
        refine ih n' (by omega) (m + 1) (liS Sk m) _ (by omega) (hRk.li zhm zh1 (by rw [zh2, ← zh1])) hG ht ?_ (by rw [hf]; rfl)
        refine hfr.trans (fr.trans ?_ (fr.u (Nat.le_refl _) (by omega)))
        rw [zh2]
        split
        · exact fr.rf
        · exact fr.m zhm
  refine t_aload0 dX0_letWaterIn_0 ?_
  refine t_aload0 dX0_letWaterIn_1 ?_
  refine g_geti ft0 fl_X0_21 (j := 4) (by decide) dX0_letWaterIn_2 (by assumption) ?_
  refine g_callV1P (C_tideIn (l := l) hlt hkc) rfl ft0 rfl mc_X0_tideIn ml_X0_95 mi_X0_tideIn ms_X0_tideIn in_X0 (okc_X0_tideIn (by decide)) dX0_letWaterIn_5 (by assumption) (cat_le (Nat.le_of_ble_eq_true rfl)) ?_
  refine t_istore1 dX0_letWaterIn_8 (by decide) okp_r ?_
  refine t_aload0 dX0_letWaterIn_9 ?_
  refine g_getr ft0 fl_X0_53 (j := 0) (by decide) dX0_letWaterIn_10 (by assumption) (hC.2.1) ?_
  refine t_astore2 dX0_letWaterIn_13 (by decide) okp_i ?_
  rw [td_of hR, hR.1.2.2.2.1]
  exact loop 5 0 S im rfl hR rfl rfl fr.rf rfl
set_option maxHeartbeats 4000000 in
set_option maxRecDepth 100000 in
theorem C_turn {l : Launch} (hlt : l.stackTraces = false) {im : TI} {rm : TP} {lm : TL} {c : Nat} {S : CS} (hC : isC rm c) (hR : CR c S im) {m : Nat} (hm : m < 5) : Con l m_X0_turn 2 0 0 NN [pv (some c), pv (some (mA c m))] im rm lm (QI (fun x im2 => x = tof (S.2.1 m) (hd S m) ∧ CR c (tuS S m) im2 ∧ fr c im im2) rm lm) noX := by
  have hkc := hC.1
  have hkm := ck_of hC hm
  refine Con.ofN (k := 1) (L0 := [some (pv (some c)), some (pv (some (mA c m))), none]) hlt (by decide +kernel) rfl rfl (by rw [en1 pv_cat, en1 pv_cat, en0]; exact Nat.le_of_ble_eq_true rfl) (by rw [en1 pv_cat, en1 pv_cat, en0]; rfl) ?_
  refine t_aload1 dX0_turn_0 ?_
  refine t_aload1 dX0_turn_1 ?_
  refine t_aload0 dX0_turn_2 ?_
  refine t_aload0 dX0_turn_3 ?_
  refine g_geti ft0 fl_X0_21 (j := 4) (by decide) dX0_turn_4 (by assumption) ?_
  refine g_callV1P (C_tideIn (l := l) hlt hkc) rfl ft0 rfl mc_X0_tideIn ml_X0_95 mi_X0_tideIn ms_X0_tideIn in_X0 (okc_X0_tideIn (by decide)) dX0_turn_7 (by assumption) (cat_le (Nat.le_of_ble_eq_true rfl)) ?_
  refine g_callV1P (C_headAt (l := l) hlt hkm) rfl ft2 rfl mc_X2_headAt ml_X0_98 mi_X2_headAt ms_X2_headAt in_X2 (okc_X2_headAt (by decide)) dX0_turn_10 (by assumption) (cat_le (Nat.le_of_ble_eq_true rfl)) ?_
  refine g_callV1P (C_turnsOfStone (l := l) hlt hkm) rfl ft2 rfl mc_X2_turnsOfStone ml_X0_137 mi_X2_turnsOfStone ms_X2_turnsOfStone in_X2 (okc_X2_turnsOfStone (by decide)) dX0_turn_13 (by assumption) (cat_le (Nat.le_of_ble_eq_true rfl)) ?_
  refine t_istore2 dX0_turn_16 (by decide) okp_r ?_
  refine t_aload1 dX0_turn_17 ?_
  refine pw_dup dX0_turn_18 pv_cat ?_
  refine g_geti ft2 fl_X0_78 (j := 3) (by decide) dX0_turn_19 (by assumption) ?_
  refine t_aload0 dX0_turn_22 ?_
  refine g_geti ft0 fl_X0_18 (j := 3) (by decide) dX0_turn_23 (by assumption) ?_
  refine pw_isub dX0_turn_26 ?_
  refine g_puti ft2 fl_X0_78 (j := 3) (by decide) ⟨rfl, rfl⟩ dX0_turn_27 (by assumption) ?_
  refine t_aload0 dX0_turn_30 ?_
  refine pw_dup dX0_turn_31 pv_cat ?_
  refine g_geti ft0 fl_X0_33 (j := 8) (by decide) dX0_turn_32 (by assumption) ?_
  refine t_aload0 dX0_turn_35 ?_
  refine g_geti ft0 fl_X0_18 (j := 3) (by decide) dX0_turn_36 (by assumption) ?_
  refine pw_iadd dX0_turn_39 ?_
  refine g_puti ft0 fl_X0_33 (j := 8) (by decide) ⟨rfl, rfl⟩ dX0_turn_40 (by assumption) ?_
  refine t_aload1 dX0_turn_43 ?_
  refine pw_dup dX0_turn_44 pv_cat ?_
  refine g_geti ft2 fl_X0_140 (j := 9) (by decide) dX0_turn_45 (by assumption) ?_
  refine pw_iconst (1) dX0_turn_48 (by decide) ?_
  refine pw_iadd dX0_turn_49 ?_
  refine g_puti ft2 fl_X0_140 (j := 9) (by decide) ⟨rfl, rfl⟩ dX0_turn_50 (by assumption) ?_
  refine t_iload2 dX0_turn_53 ?_
  refine pw_iret dX0_turn_54 rfl ?_
  refine ⟨rfl, rfl, rfl, _, rfl, by rw [toF_of (hR.2 m hm), hd_of hR hm], ?_, (fr.m hm).trans ((fr.u (Nat.le_refl _) (by omega)).trans (fr.m hm))⟩
  have z1 : CR c (upF S m 1 (S.2.1 m 1 - S.1 11)) (ui im (mA c m) 3 (im (mA c m) 3 - im c 3)) := by
    rw [w3 hR hm, hR.1.2.2.1]; exact hR.f (w := 1) hm (by decide)
  have z2 := z1.g (j := 4) (x := (upF S m 1 (S.2.1 m 1 - S.1 11)).1 4 + (upF S m 1 (S.2.1 m 1 - S.1 11)).1 11) (by decide) (by decide)
  rw [← z1.1.2.2.2.2.2 8 (by decide) (by decide), ← z1.1.2.2.1] at z2
  have z3 := z2.f (w := 7) (x := ui (ui im (mA c m) 3 (im (mA c m) 3 - im c 3)) c (4 + 4) (ui im (mA c m) 3 (im (mA c m) 3 - im c 3) c 8 + ui im (mA c m) 3 (im (mA c m) 3 - im c 3) c 3) (mA c m) 9 + 1) hm (by decide)
  have e1 := (z2.2 m hm).2.1 7 (by decide)
  unfold tuS
  dsimp only
  rw [← z1.1.2.2.2.2.2 8 (by decide) (by decide), ← z1.1.2.2.1, ← e1]
  exact z3

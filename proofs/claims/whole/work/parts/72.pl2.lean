/-! TideMills: play, and what firstError tells -/
theorem TS.played {Z : TI × TP} {S S2 : CS} {n : Nat} {T : Nat → CS} {sn : Option CS} {bl : Nat} {B : Nat → Int32} {im im2 : TI} {rm : TP} (h : TS Z S n T sn bl B im rm) (hR : CR 1 S2 im2) (hI : CI S2) (f : frD im im2) : TS Z S2 n T sn bl B im2 rm := by
  obtain ⟨h1, h2, ⟨⟨hs, hO⟩, h4⟩, h5, ⟨h6, h7⟩, h8, h9, h10⟩ := h
  have f0 := f 0 (by omega) (by omega) (by omega)
  refine ⟨h1, ⟨hR, hI⟩, ⟨⟨hs, hO.keep fun q a b => f q (by omega) (by omega) (by omega)⟩, h4⟩, h5.keep fun q a b => f q (by omega) (by omega) (by omega), ⟨h6.keep fun q a b => f q (by omega) (by omega) (by omega), fun s hs => ⟨(h7 s hs).1.keep fun q a b => f q (by omega) (by omega) (by omega), (h7 s hs).2⟩⟩, by rw [f0]; exact h8, by rw [f0]; exact h9, ⟨by rw [f 237 (by omega) (by omega) (by omega)]; exact h10.1, h10.2.keep (fun o ho => f o (by omega) (by omega) (by omega)) fun _ _ => rfl⟩⟩
/-- the text and what both readers make of it -/
theorem TS.text {Z : TI × TP} {S : CS} {n : Nat} {T : Nat → CS} {sn : Option CS} {bl : Nat} {B : Nat → Int32} {im : TI} {rm : TP} {b : Nat → Nat} (h : TS Z S n T sn bl B im rm) (hB : ∀ j, j < bl → B j = nI (b j) ∧ b j < 128) :
    (∀ j, j < bl → im 237 j = nI (b j) ∧ b j < 128) ∧ (rdE (im 237) bl 0 (beM im)).1 = (vt b bl (bl + 1) 0).2 ∧ ((rdE (im 237) bl 0 (beM im)).1 = bl ∧ pwP (rdE (im 237) bl 0 (beM im)).2 ↔ (vt b bl (bl + 1) 0).1 = true) := by
  obtain ⟨-, -, -, -, -, -, h9, h10⟩ := h
  have hb : ∀ j, j < bl → im 237 j = nI (b j) ∧ b j < 128 := fun j hj => ⟨by rw [h10.1 j (by omega)]; exact (hB j hj).1, (hB j hj).2⟩
  exact ⟨hb, sim_text hb h9.2 (bl + 1) 0 (beM im) (Nat.zero_le _) (by omega) beM_BG⟩
def XR (Z : TI × TP) (S : CS) (n : Nat) (T : Nat → CS) (sn : Option CS) (bl : Nat) (B : Nat → Int32) (rm : TP) (lm : TL) : TX := fun E i r q => E = xcA ∧ r = rm ∧ q = lm ∧ TS Z S n T sn bl B i r
set_option maxHeartbeats 4000000 in
set_option maxRecDepth 100000 in
theorem C_play {l : Launch} (hlt : l.stackTraces = false) {im : TI} {rm : TP} {lm : TL} {Z : TI × TP} {S : CS} {n : Nat} {T : Nat → CS} {sn : Option CS} {bl : Nat} {B : Nat → Int32} (hTS : TS Z S n T sn bl B im rm) {b : Nat → Nat} (hB : ∀ j, j < bl → B j = nI (b j) ∧ b j < 128) (hW : WF S) (hv : (vt b bl (bl + 1) 0).1 = true) : Con l m_X4_play 9 0 0 NN [pv (some 0)] im rm lm (QG (fun v i r q => v = some (.int (nI (py b bl (bl + 1) 0 0 S).1)) ∧ q = lm ∧ TS Z (py b bl (bl + 1) 0 0 S).2 (shN n) (shT n T S) sn 0 B i r)) noX := by
  obtain ⟨⟨hT, hC⟩, ⟨hR, hI⟩, hTS2⟩ := id hTS
  have hk0 := kdT
  have hk79 := kd79
  have hC1 := c1 hC
  have hk1 := hC1.1
  obtain ⟨t0, t1, t2, t4, t5, t7, t8⟩ := id hT
  have hkr := kdR
  obtain ⟨htx, hx1, hx2⟩ := hTS.text hB
  have hw := hx2.mpr hv
  refine Con.ofN (k := 1) (L0 := [some (pv (some 0)), none]) hlt (by decide +kernel) rfl rfl (by rw [en1 pv_cat, en0]; exact Nat.le_of_ble_eq_true rfl) (by rw [en1 pv_cat, en0]; rfl) ?_
  refine t_aload0 dX4_play_0 ?_
  refine g_callV0I (C_readToError (l := l) hlt hT hTS.2.2.2.2.2.2.1.1 hTS.2.2.2.2.2.2.1.2) rfl ft4 rfl mc_X4_readToError ml_X4_159 mi_X4_readToError ms_X4_readToError in_X4 (okc_X4_readToError (by decide)) dX4_play_1 (by assumption) (cat_le (Nat.le_of_ble_eq_true rfl)) (fun zx1 zim1 zh1 => ?_)
  obtain ⟨zx, zm⟩ := zh1
  have hTS := hTS.reader (im2 := zim1) fun q z1 z2 => by rw [zm, rdE_fr z1 z2, beM_fr z1 z2]
  obtain ⟨⟨hT, hC⟩, ⟨hR, hI⟩, hTS2⟩ := id hTS
  obtain ⟨t0, t1, t2, t4, t5, t7, t8⟩ := id hT
  rw [zx]
  refine t_aload0 dX4_play_4 ?_
  refine g_geti ft4 fl_X4_37 (j := 6) (by decide) dX4_play_5 (by assumption) ?_
  rw [hTS.2.2.2.2.2.2.1.1]
  refine pw_icmp_lt 21 dX4_play_8 (by decide) (fun zc8 => ?_) (fun zc8 => ?_)
  · exact absurd zc8 (by rw [hw.1]; exact i32_lt_irr)
  · refine t_aload0 dX4_play_11 ?_
    refine g_getr ft4 fl_X4_44 (j := 7) (by decide) dX4_play_12 (by assumption) (by assumption) ?_
    refine g_callV0P (C_rPart (l := l) hlt t8) rfl ft3 rfl mc_X3_partIsWhole ml_X4_163 mi_X3_partIsWhole ms_X3_partIsWhole in_X3 (okc_X3_partIsWhole (by decide)) dX4_play_15 (by assumption) (cat_le (Nat.le_of_ble_eq_true rfl)) ?_
    rw [bI_t (show pwP zim1 by rw [zm]; exact hw.2)]
    refine pw_if_ne 31 dX4_play_18 (by decide) (fun _ => ?_) (fun h => absurd (by decide) h)
    refine t_aload0 dX4_play_31 ?_
    refine g_getr ft4 fl_X4_29 (j := 4) (by decide) dX4_play_32 (by assumption) (by assumption) ?_
    refine t_aload0 dX4_play_35 ?_
    refine g_getr ft4 fl_X4_10 (j := 0) (by decide) dX4_play_36 (by assumption) (by assumption) ?_
    refine g_callV1G (C_save (l := l) hlt hC (Classical.choose_spec hTS.2.2.1.1) hR (by decide) (by decide)) rfl ft1 rfl mc_X1_save ml_X4_65 mi_X1_save ms_X1_save in_X1 (okc_X1_save (by decide)) dX4_play_39 (by assumption) (cat_le (Nat.le_of_ble_eq_true rfl)) (fun _ _ _ _ h => h.elim) (by decide) (fun zv39 zim39 zrm39 zlm39 zh39 => ?_)
    obtain ⟨rfl, rfl, zr, zf, zs2⟩ := zh39
    have hTS3 := hTS.saved zr zf zs2
    obtain ⟨⟨hT3, hC3⟩, ⟨hR3, hI3⟩, hTS4⟩ := id hTS3
    have hC31 := c1 hC3
    obtain ⟨u0, u1, u2, u4, u5, u7, u8⟩ := id hT3
    refine t_aload0 dX4_play_42 ?_
    refine g_callV0I (C_doParts (l := l) hlt hT3 hC3 hR3 hW hTS3.2.2.2.2.2.2.1.1 hTS3.2.2.2.2.2.2.1.2 (hTS3.text hB).1 hv) rfl ft4 rfl mc_X4_doParts ml_X4_172 mi_X4_doParts ms_X4_doParts in_X4 (okc_X4_doParts (by decide)) dX4_play_43 (by assumption) (cat_le (Nat.le_of_ble_eq_true rfl)) (fun zx43 zim43 zh43 => ?_)
    obtain ⟨zx2, zR, zW, zf⟩ := zh43
    refine t_istore1 dX4_play_46 (by decide) okp_r ?_
    refine t_aload0 dX4_play_47 ?_
    refine pw_iconst (0) dX4_play_48 (by decide) ?_
    refine g_puti ft4 fl_X4_37 (j := 6) (by decide) ⟨rfl, rfl⟩ dX4_play_49 (by assumption) ?_
    refine t_iload1 dX4_play_52 ?_
    refine pw_iret dX4_play_53 rfl ?_
    have hTS4 := hTS3.played zR zW.1.1 zf
    exact ⟨rfl, by rw [zx2], rfl, hTS4.row0 (fun q z _ => ui_ne z) (by rw [ui_at, if_neg (by decide)]) (by rw [ui_at, if_pos rfl]; rfl) (by decide) (fun j hj => by rw [ui_ne (by decide)]; exact hTS4.2.2.2.2.2.2.2.1 j hj)⟩
set_option maxHeartbeats 4000000 in
set_option maxRecDepth 100000 in
theorem C_playA {l : Launch} (hlt : l.stackTraces = false) {im : TI} {rm : TP} {lm : TL} {Z : TI × TP} {S : CS} {n : Nat} {T : Nat → CS} {sn : Option CS} {bl : Nat} {B : Nat → Int32} (hTS : TS Z S n T sn bl B im rm) {b : Nat → Nat} (hB : ∀ j, j < bl → B j = nI (b j) ∧ b j < 128) (hv : ¬ (vt b bl (bl + 1) 0).1 = true) : Con l m_X4_play 9 1 6 NN [pv (some 0)] im rm lm (QG (fun _ _ _ _ => False)) (XR Z S n T sn bl B rm lm) := by
  obtain ⟨⟨hT, hC⟩, ⟨hR, hI⟩, hTS2⟩ := id hTS
  have hk0 := kdT
  have hk79 := kd79
  have hC1 := c1 hC
  have hk1 := hC1.1
  obtain ⟨t0, t1, t2, t4, t5, t7, t8⟩ := id hT
  have hkr := kdR
  obtain ⟨htx, hx1, hx2⟩ := hTS.text hB
  have hbl60 := hTS.2.2.2.2.2.2.1.2
  refine Con.ofX (k := 1) (L0 := [some (pv (some 0)), none]) hlt (by decide +kernel) rfl rfl rfl (by rw [en1 pv_cat, en0]; exact Nat.le_of_ble_eq_true rfl) (by rw [en1 pv_cat, en0]; rfl) ?_
  refine t_aload0 dX4_play_0 ?_
  refine g_callV0I (C_readToError (l := l) hlt hT hTS.2.2.2.2.2.2.1.1 hTS.2.2.2.2.2.2.1.2) rfl ft4 rfl mc_X4_readToError ml_X4_159 mi_X4_readToError ms_X4_readToError in_X4 (okc_X4_readToError (by decide)) dX4_play_1 (by assumption) (cat_le (Nat.le_of_ble_eq_true rfl)) (fun zx1 zim1 zh1 => ?_)
  obtain ⟨zx, zm⟩ := zh1
  have hTS := hTS.reader (im2 := zim1) fun q z1 z2 => by rw [zm, rdE_fr z1 z2, beM_fr z1 z2]
  obtain ⟨⟨hT, hC⟩, ⟨hR, hI⟩, hTS2⟩ := id hTS
  obtain ⟨t0, t1, t2, t4, t5, t7, t8⟩ := id hT
  rw [zx]
  refine t_aload0 dX4_play_4 ?_
  refine g_geti ft4 fl_X4_37 (j := 6) (by decide) dX4_play_5 (by assumption) ?_
  rw [hTS.2.2.2.2.2.2.1.1]
  refine pw_icmp_lt 21 dX4_play_8 (by decide) (fun zc8 => ?_) (fun zc8 => ?_)
  · refine pw_throw (E := xcA) (mc := 0) (ms := 0) ⟨167, 169, 171, "no complete works as a text", by decide, cl_X4_167, in_IllegalArgument, ⟨rfl, Or.inr (Or.inl ⟨rfl, rfl⟩)⟩, dX4_play_21, dX4_play_24, Or.inl ⟨dX4_play_25, dX4_play_27, dX4_play_30⟩⟩ (by decide) ?_ (cat_le (Nat.le_of_ble_eq_true rfl))
    exact ⟨rfl, rfl, rfl, hTS⟩
  · refine t_aload0 dX4_play_11 ?_
    refine g_getr ft4 fl_X4_44 (j := 7) (by decide) dX4_play_12 (by assumption) (by assumption) ?_
    refine g_callV0P (C_rPart (l := l) hlt t8) rfl ft3 rfl mc_X3_partIsWhole ml_X4_163 mi_X3_partIsWhole ms_X3_partIsWhole in_X3 (okc_X3_partIsWhole (by decide)) dX4_play_15 (by assumption) (cat_le (Nat.le_of_ble_eq_true rfl)) ?_
    refine pw_if_ne 31 dX4_play_18 (by decide) (fun zc18 => ?_) (fun zc18 => ?_)
    · have hpz := bI_nz zc18
      rw [zm] at hpz
      have hle := (rdE_le (B := im 237) bl 0 (beM im)).2
      have hge : bl ≤ (rdE (im 237) bl 0 (beM im)).1 := by
        have z := Int32.not_lt.mp zc8
        exact (nI_leI (by omega) (by omega)).mp z
      exact absurd (hx2.mp ⟨by omega, hpz⟩) hv
    · refine pw_throw (E := xcA) (mc := 0) (ms := 0) ⟨167, 169, 171, "no complete works as a text", by decide, cl_X4_167, in_IllegalArgument, ⟨rfl, Or.inr (Or.inl ⟨rfl, rfl⟩)⟩, dX4_play_21, dX4_play_24, Or.inl ⟨dX4_play_25, dX4_play_27, dX4_play_30⟩⟩ (by decide) ?_ (cat_le (Nat.le_of_ble_eq_true rfl))
      exact ⟨rfl, rfl, rfl, hTS⟩

/-! TideMills: undo, keep, restore -/
theorem TS.undone {Z : TI × TP} {S : CS} {n : Nat} {T : Nat → CS} {sn : Option CS} {bl : Nat} {B : Nat → Int32} {im im2 : TI} {rm : TP} {hs : Nat → Nat} (h : TS Z S n T sn bl B im rm) (hn : 0 < n) (hR : CR 1 (T (n - 1)) im2) (hO : HO rm im2 hs (n - 1) T) (f : ∀ o, ¬ o = 79 → (o < 1 ∨ 1 + 25 < o) → im2 o = im o) : TS Z (T (n - 1)) (n - 1) T sn bl B im2 rm := by
  obtain ⟨h1, h2, ⟨_, h4⟩, h5, ⟨h6, h7⟩, h8, h9, h10⟩ := h
  have f0 := f 0 (by decide) (by decide)
  exact ⟨h1, ⟨hR, h4 (n - 1) (by omega)⟩, ⟨⟨hs, hO⟩, fun i hi => h4 i (by omega)⟩, h5.keep fun q a b => f q (by omega) (by omega), ⟨h6.keep fun q a b => f q (by omega) (by omega), fun s hs => ⟨(h7 s hs).1.keep fun q a b => f q (by omega) (by omega), (h7 s hs).2⟩⟩, by rw [f0]; exact h8, by rw [f0]; exact h9, ⟨by rw [f 237 (by decide) (by decide)]; exact h10.1, h10.2.keep (fun o ho => f o (by omega) (by omega)) fun _ _ => rfl⟩⟩
theorem TS.kept {Z : TI × TP} {S : CS} {n : Nat} {T : Nat → CS} {sn : Option CS} {bl : Nat} {B : Nat → Int32} {im im2 : TI} {rm : TP} (h : TS Z S n T sn bl B im rm) (hR : CR 53 S im2) (f0 : fr 53 im im2) : TS Z S n T (some S) bl B (ui im2 0 3 1) rm := by
  obtain ⟨h1, h2, ⟨⟨hs, hO⟩, h4⟩, h5, ⟨h6, h7⟩, h8, h9, h10⟩ := h
  have f : ∀ o, o ≠ 0 → (o < 53 ∨ 53 + 25 < o) → (ui im2 0 3 1) o = im o := fun o h0 ho => by rw [ui_ne h0]; exact f0 o ho
  have g : CR 53 S (ui im2 0 3 1) := hR.keep fun q a b => ui_ne (by omega)
  exact ⟨h1, ⟨h2.1.keep fun q a b => f q (by omega) (by omega), h2.2⟩, ⟨⟨hs, hO.keep fun q a b => f q (by omega) (by omega)⟩, h4⟩, h5.keep fun q a b => f q (by omega) (by omega), ⟨g.nb, fun s hs => by cases hs; exact ⟨g, h2.2⟩⟩, by rw [ui_at, if_pos rfl]; rfl, by rw [ui_at, if_neg (by decide), f0 0 (by decide)]; exact h9, ⟨by rw [f 237 (by decide) (by decide)]; exact h10.1, h10.2.keep (fun o ho => f o (by omega) (by omega)) fun _ _ => rfl⟩⟩
set_option maxHeartbeats 4000000 in
set_option maxRecDepth 100000 in
theorem C_undo {l : Launch} (hlt : l.stackTraces = false) {im : TI} {rm : TP} {lm : TL} {Z : TI × TP} {S : CS} {n : Nat} {T : Nat → CS} {sn : Option CS} {bl : Nat} {B : Nat → Int32} (hTS : TS Z S n T sn bl B im rm) (hn : 0 < n) : Con l m_X4_undo 8 0 0 NN [pv (some 0)] im rm lm (QG (fun v i r q => v = some (.int (nI (n - 1))) ∧ q = lm ∧ TS Z (T (n - 1)) (n - 1) T sn bl B i r)) noX := by
  obtain ⟨⟨hT, hC⟩, ⟨hR, hI⟩, hTS2⟩ := id hTS
  have hk0 := kdT
  have hk79 := kd79
  have hC1 := c1 hC
  have hk1 := hC1.1
  obtain ⟨t0, t1, t2, t4, t5, t7, t8⟩ := id hT
  have hO := Classical.choose_spec hTS.2.2.1.1
  have hn6 := hO.2.2.1
  refine Con.ofN (k := 0) (L0 := [some (pv (some 0))]) hlt (by decide +kernel) rfl rfl (by rw [en1 pv_cat, en0]; exact Nat.le_of_ble_eq_true rfl) (by rw [en1 pv_cat, en0]; rfl) ?_
  refine t_aload0 dX4_undo_0 ?_
  refine g_getr ft4 fl_X4_29 (j := 4) (by decide) dX4_undo_1 (by assumption) (by assumption) ?_
  refine g_geti ft1 fl_X4_175 (j := 1) (by decide) dX4_undo_4 (by assumption) ?_
  refine pw_if_le 14 dX4_undo_7 (by decide) (fun zc7 => ?_) (fun zc7 => ?_)
  · exact absurd ((nI_leI (a := n) (b := 0) (by omega) (by decide)).mp (hO.2.1 ▸ zc7)) (by omega)
  · refine pw_iconst (1) dX4_undo_10 (by decide) ?_
    refine pw_goto 15 dX4_undo_11 (by decide) ?_
    refine g_callS1V (C_stateT (l := l) hlt (by decide)) rfl mc_X4_requireState ml_X4_61 mi_X4_requireState in_X4 (okc_X4_requireState (by decide)) dX4_undo_15 (Nat.zero_le _) (fun zim15 zh15 => ?_)
    rw [show zim15 = im from zh15]
    refine t_aload0 dX4_undo_18 ?_
    refine g_getr ft4 fl_X4_29 (j := 4) (by decide) dX4_undo_19 (by assumption) (by assumption) ?_
    refine t_aload0 dX4_undo_22 ?_
    refine g_getr ft4 fl_X4_10 (j := 0) (by decide) dX4_undo_23 (by assumption) (by assumption) ?_
    refine g_callV1V (C_restoreLatest (l := l) hlt hC hO hn hR.nb (by decide) (by decide)) rfl ft1 rfl mc_X1_restoreLatest ml_X4_178 mi_X1_restoreLatest ms_X1_restoreLatest in_X1 (okc_X1_restoreLatest (by decide)) dX4_undo_26 (by assumption) (cat_le (Nat.le_of_ble_eq_true rfl)) (fun zim26 zh26 => ?_)
    refine t_aload0 dX4_undo_29 ?_
    refine g_getr ft4 fl_X4_29 (j := 4) (by decide) dX4_undo_30 (by assumption) (by assumption) ?_
    refine g_geti ft1 fl_X4_175 (j := 1) (by decide) dX4_undo_33 (by assumption) ?_
    refine pw_iret dX4_undo_36 rfl ?_
    obtain ⟨zR, zO, zf⟩ := zh26
    exact ⟨rfl, by rw [zO.2.1], rfl, hTS.undone hn zR zO zf⟩
set_option maxHeartbeats 4000000 in
set_option maxRecDepth 100000 in
theorem C_keep {l : Launch} (hlt : l.stackTraces = false) {im : TI} {rm : TP} {lm : TL} {Z : TI × TP} {S : CS} {n : Nat} {T : Nat → CS} {sn : Option CS} {bl : Nat} {B : Nat → Int32} (hTS : TS Z S n T sn bl B im rm) : Con l m_X4_keep 8 0 0 NN [pv (some 0)] im rm lm (QG (fun v i r q => v = some (.int (S.1 0)) ∧ q = lm ∧ TS Z S n T (some S) bl B i r)) noX := by
  obtain ⟨⟨hT, hC⟩, ⟨hR, hI⟩, hTS2⟩ := id hTS
  have hk0 := kdT
  have hk79 := kd79
  have hC1 := c1 hC
  have hk1 := hC1.1
  obtain ⟨t0, t1, t2, t4, t5, t7, t8⟩ := id hT
  have hk53 := (c53 hC).1
  refine Con.ofN (k := 0) (L0 := [some (pv (some 0))]) hlt (by decide +kernel) rfl rfl (by rw [en1 pv_cat, en0]; exact Nat.le_of_ble_eq_true rfl) (by rw [en1 pv_cat, en0]; rfl) ?_
  refine t_aload0 dX4_keep_0 ?_
  refine g_getr ft4 fl_X4_19 (j := 2) (by decide) dX4_keep_1 (by assumption) (by assumption) ?_
  refine t_aload0 dX4_keep_4 ?_
  refine g_getr ft4 fl_X4_10 (j := 0) (by decide) dX4_keep_5 (by assumption) (by assumption) ?_
  refine g_callV1V (C_copy (l := l) hlt (c53 hC) hC1 hR hTS.2.2.2.2.1.1 (by unfold apt; decide)) rfl ft0 rfl mc_X0_copyFrom ml_X4_181 mi_X0_copyFrom ms_X0_copyFrom in_X0 (okc_X0_copyFrom (by decide)) dX4_keep_8 (by assumption) (cat_le (Nat.le_of_ble_eq_true rfl)) (fun zim8 zh8 => ?_)
  refine t_aload0 dX4_keep_11 ?_
  refine pw_iconst (1) dX4_keep_12 (by decide) ?_
  refine g_puti ft4 fl_X4_22 (j := 3) (by decide) ⟨rfl, rfl⟩ dX4_keep_13 (by assumption) ?_
  refine t_aload0 dX4_keep_16 ?_
  refine g_getr ft4 fl_X4_10 (j := 0) (by decide) dX4_keep_17 (by assumption) (by assumption) ?_
  refine g_geti ft0 fl_X4_184 (j := 4) (by decide) dX4_keep_20 (by assumption) ?_
  refine pw_iret dX4_keep_23 rfl ?_
  have zR1 : CR 1 S zim8 := zh8.2.cr hR (by unfold apt; decide)
  exact ⟨rfl, by rw [ui_ne (by decide), zR1.1.2.2.2.1], rfl, hTS.kept zh8.1 zh8.2⟩
set_option maxHeartbeats 4000000 in
set_option maxRecDepth 100000 in
theorem C_restore {l : Launch} (hlt : l.stackTraces = false) {im : TI} {rm : TP} {lm : TL} {Z : TI × TP} {S : CS} {n : Nat} {T : Nat → CS} {sn : Option CS} {bl : Nat} {B : Nat → Int32} (hTS : TS Z S n T sn bl B im rm) {s : CS} (hsn : sn = some s) : Con l m_X4_restore 8 0 0 NN [pv (some 0)] im rm lm (QG (fun v i r q => v = some (.int (s.1 0)) ∧ q = lm ∧ TS Z s (shN n) (shT n T S) sn bl B i r)) noX := by
  obtain ⟨⟨hT, hC⟩, ⟨hR, hI⟩, hTS2⟩ := id hTS
  have hk0 := kdT
  have hk79 := kd79
  have hC1 := c1 hC
  have hk1 := hC1.1
  obtain ⟨t0, t1, t2, t4, t5, t7, t8⟩ := id hT
  have hk53 := (c53 hC).1
  have h3 := hTS.2.2.2.2.2.1
  refine Con.ofN (k := 0) (L0 := [some (pv (some 0))]) hlt (by decide +kernel) rfl rfl (by rw [en1 pv_cat, en0]; exact Nat.le_of_ble_eq_true rfl) (by rw [en1 pv_cat, en0]; rfl) ?_
  refine t_aload0 dX4_restore_0 ?_
  refine g_geti ft4 fl_X4_22 (j := 3) (by decide) dX4_restore_1 (by assumption) ?_
  refine g_callS1V (C_stateT (l := l) hlt (by rw [h3, hsn]; exact (by decide : ¬ ((1 : Int32) = 0)))) rfl mc_X4_requireState ml_X4_61 mi_X4_requireState in_X4 (okc_X4_requireState (by decide)) dX4_restore_4 (Nat.zero_le _) (fun zim4 zh4 => ?_)
  rw [show zim4 = im from zh4]
  refine t_aload0 dX4_restore_7 ?_
  refine g_getr ft4 fl_X4_29 (j := 4) (by decide) dX4_restore_8 (by assumption) (by assumption) ?_
  refine t_aload0 dX4_restore_11 ?_
  refine g_getr ft4 fl_X4_10 (j := 0) (by decide) dX4_restore_12 (by assumption) (by assumption) ?_
  refine g_callV1G (C_save (l := l) hlt hC (Classical.choose_spec hTS.2.2.1.1) hR (by decide) (by decide)) rfl ft1 rfl mc_X1_save ml_X4_65 mi_X1_save ms_X1_save in_X1 (okc_X1_save (by decide)) dX4_restore_15 (by assumption) (cat_le (Nat.le_of_ble_eq_true rfl)) (fun _ _ _ _ h => h.elim) (by decide) (fun zv15 zim15 zrm15 zlm15 zh15 => ?_)
  obtain ⟨rfl, rfl, zr, zf, zs2⟩ := zh15
  have hTS3 := hTS.saved zr zf zs2
  obtain ⟨⟨hT3, hC3⟩, ⟨hR3, hI3⟩, hTS4⟩ := id hTS3
  have hC31 := c1 hC3
  obtain ⟨u0, u1, u2, u4, u5, u7, u8⟩ := id hT3
  refine t_aload0 dX4_restore_18 ?_
  refine g_getr ft4 fl_X4_10 (j := 0) (by decide) dX4_restore_19 (by assumption) (by assumption) ?_
  refine t_aload0 dX4_restore_22 ?_
  refine g_getr ft4 fl_X4_19 (j := 2) (by decide) dX4_restore_23 (by assumption) (by assumption) ?_
  refine g_callV1V (C_copy (l := l) hlt hC31 (c53 hC3) (hTS4.2.2.1.2 s hsn).1 hR3.nb (by unfold apt; decide)) rfl ft0 rfl mc_X0_copyFrom ml_X4_181 mi_X0_copyFrom ms_X0_copyFrom in_X0 (okc_X0_copyFrom (by decide)) dX4_restore_26 (by assumption) (cat_le (Nat.le_of_ble_eq_true rfl)) (fun zim26 zh26 => ?_)
  refine t_aload0 dX4_restore_29 ?_
  refine g_getr ft4 fl_X4_10 (j := 0) (by decide) dX4_restore_30 (by assumption) (by assumption) ?_
  refine g_geti ft0 fl_X4_184 (j := 4) (by decide) dX4_restore_33 (by assumption) ?_
  refine pw_iret dX4_restore_36 rfl ?_
  exact ⟨rfl, by rw [zh26.1.1.2.2.2.1], rfl, hTS3.now zh26.1 (hTS4.2.2.1.2 s hsn).2 zh26.2⟩

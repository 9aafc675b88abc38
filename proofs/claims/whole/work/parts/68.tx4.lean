/-! TideMillsModel: firstError, play -/
theorem MZ.tt {Y : TI} {S : CS} {n : Nat} {T : Nat → CS} {sn : Option CS} {bl : Nat} {B : Nat → Int32} {im : TI} {b : Nat → Nat} (h : MZ Y S n T sn bl B im) (hB : ∀ j, j < bl → B j = nI (b j) ∧ b j < 128) : TT b bl 0 (ui im 240 9 0) := by
  obtain ⟨h1, h2, h5, ⟨h7, h8⟩, h9, h10⟩ := h
  refine ⟨⟨by rw [ui_at, if_neg (by decide)]; exact h7, h8⟩, fun j hj => ⟨by rw [ui_ne (by decide), h9 j (by omega)]; exact (hB j hj).1, (hB j hj).2⟩, by rw [ui_at, if_pos rfl]; rfl, Nat.zero_le _⟩
theorem MZ.read {Y : TI} {S : CS} {n : Nat} {T : Nat → CS} {sn : Option CS} {bl : Nat} {B : Nat → Int32} {im im2 : TI} (h : MZ Y S n T sn bl B im) (f : fQ im im2) : MZ Y S n T sn bl B im2 :=
  h.keep (fun o ho => f.1 o (by omega) (by omega)) fun j hj => f.2 j (by omega) (by omega) (by omega)
theorem MZ.played {Y : TI} {S S2 : CS} {n : Nat} {T : Nat → CS} {sn : Option CS} {bl : Nat} {B : Nat → Int32} {im im2 : TI} (h : MZ Y S n T sn bl B im) (f : fS im im2) (hR : RW (im2 241) S2) : MZ Y S2 n T sn bl B im2 := by
  obtain ⟨h1, ⟨h2, h3, h4⟩, ⟨h5, h6⟩, ⟨h7, h8⟩, h9, h10⟩ := h
  refine ⟨hR, ⟨by rw [f.2 2 (by decide) (by decide) (by decide)]; exact h2, h3, by rw [f.1 242 (by decide) (by decide) (by decide)]; exact h4⟩, ⟨by rw [f.2 4 (by decide) (by decide) (by decide)]; exact h5, by rw [f.1 243 (by decide) (by decide) (by decide)]; exact h6⟩, ⟨by rw [f.2 7 (by decide) (by decide) (by decide)]; exact h7, h8⟩, by rw [f.1 245 (by decide) (by decide) (by decide)]; exact h9, fun o ho => (f.1 o (by omega) (by omega) (by omega)).trans (h10 o ho)⟩
theorem vt_t {b : Nat → Nat} {bl : Nat} : ∀ n p, (vt b bl n p).1 = true → (vt b bl n p).2 = bl := by
  intro n
  induction n with
  | zero => intro p h; cases h
  | succ n ih =>
    intro p h
    rw [vt] at h ⊢
    by_cases h1 : (rdP b bl p).1 = true
    · rw [if_pos h1] at h ⊢
      by_cases h2 : (rdP b bl p).2.1 = bl
      · rw [if_pos h2]
      · rw [if_neg h2] at h ⊢
        by_cases h3 : b (rdP b bl p).2.1 = 59
        · rw [if_pos h3] at h ⊢; exact ih _ h
        · rw [if_neg h3] at h; cases h
    · rw [if_neg h1] at h; cases h
set_option maxHeartbeats 4000000 in
set_option maxRecDepth 100000 in
theorem M_firstError {l : Launch} (hlt : l.stackTraces = false) {im : TI} {rm : TP} {lm : TL} {Y : TI} {S : CS} {n : Nat} {T : Nat → CS} {sn : Option CS} {bl : Nat} {B : Nat → Int32} (hM : MM rm) (hZ : MZ Y S n T sn bl B im) {b : Nat → Nat} (hB : ∀ j, j < bl → B j = nI (b j) ∧ b j < 128) : Con l m_X5_firstError 9 0 0 NN [pv (some 240)] im rm lm (QI (fun y im2 => y = nI (vt b bl (bl + 1) 0).2 ∧ im2 240 8 = 0 ∧ MZ Y S n T sn bl B im2) rm lm) noX := by
  have hk0 := kdM
  have hks := kds
  obtain ⟨r0, r1, r3, r5, r6, r11⟩ := id hM
  refine Con.ofN (k := 0) (L0 := [some (pv (some 240))]) hlt (by decide +kernel) rfl rfl (by rw [en1 pv_cat, en0]; exact Nat.le_of_ble_eq_true rfl) (by rw [en1 pv_cat, en0]; rfl) ?_
  refine t_aload0 dX5_firstError_0 ?_
  refine pw_iconst (0) dX5_firstError_1 (by decide) ?_
  refine g_puti ft5 fl_X5_32 (j := 8) (by decide) ⟨rfl, rfl⟩ dX5_firstError_2 (by assumption) ?_
  refine t_aload0 dX5_firstError_5 ?_
  refine pw_iconst (0) dX5_firstError_6 (by decide) ?_
  refine g_callV1I (M_readText0 (l := l) hlt hM (hZ.th.tt hB)) rfl ft5 rfl mc_X5_readText ml_X5_155 mi_X5_readText ms_X5_readText in_X5 (okc_X5_readText (by decide)) dX5_firstError_7 (by assumption) (cat_le (Nat.le_of_ble_eq_true rfl)) (fun zx7 zim7 zh7 => ?_)
  obtain ⟨zx, hT, hq⟩ := zh7
  have hth : zim7 240 8 = 0 := (hq.2 8 (by decide) (by decide) (by decide)).trans th_at
  have hZ7 : MZ Y S n T sn bl B zim7 := hZ.th.read hq
  refine pw_if_eq 20 dX5_firstError_10 (by decide) (fun zc10 => ?_) (fun zc10 => ?_)
  · refine t_aload0 dX5_firstError_20 ?_
    refine g_geti ft5 fl_X5_127 (j := 9) (by decide) dX5_firstError_21 (by assumption) ?_
    refine pw_iret dX5_firstError_24 rfl ?_
    exact ⟨rfl, rfl, rfl, _, rfl, hT.2.2.1, hth, hZ7⟩
  · refine t_aload0 dX5_firstError_13 ?_
    refine g_geti ft5 fl_X5_124 (j := 7) (by decide) dX5_firstError_14 (by assumption) ?_
    refine pw_goto 24 dX5_firstError_17 (by decide) ?_
    refine pw_iret dX5_firstError_24 rfl ?_
    exact ⟨rfl, rfl, rfl, _, rfl, by rw [hT.1.1, vt_t _ _ (if1 (zx ▸ zc10))], hth, hZ7⟩
set_option maxHeartbeats 4000000 in
set_option maxRecDepth 100000 in
theorem M_play {l : Launch} (hlt : l.stackTraces = false) {im : TI} {rm : TP} {lm : TL} {Y : TI} {S : CS} {n : Nat} {T : Nat → CS} {sn : Option CS} {bl : Nat} {B : Nat → Int32} (hM : MM rm) (hZ : MZ Y S n T sn bl B im) {b : Nat → Nat} (hB : ∀ j, j < bl → B j = nI (b j) ∧ b j < 128) (hW : WF S) (hv : (vt b bl (bl + 1) 0).1 = true) : Con l m_X5_play 9 0 0 NN [pv (some 240)] im rm lm (QI (fun y im2 => y = nI (py b bl (bl + 1) 0 0 S).1 ∧ im2 240 8 = 0 ∧ MZ Y (py b bl (bl + 1) 0 0 S).2 (shN n) (shT n T S) sn 0 B im2) rm lm) noX := by
  have hk0 := kdM
  have hks := kds
  obtain ⟨r0, r1, r3, r5, r6, r11⟩ := id hM
  refine Con.ofN (k := 1) (L0 := [some (pv (some 240)), none]) hlt (by decide +kernel) rfl rfl (by rw [en1 pv_cat, en0]; exact Nat.le_of_ble_eq_true rfl) (by rw [en1 pv_cat, en0]; rfl) ?_
  refine t_aload0 dX5_play_0 ?_
  refine t_aload0 dX5_play_1 ?_
  refine pw_iconst (0) dX5_play_2 (by decide) ?_
  refine g_callV1I (M_readText0 (l := l) hlt hM (hZ.tt hB)) rfl ft5 rfl mc_X5_readText ml_X5_155 mi_X5_readText ms_X5_readText in_X5 (okc_X5_readText (by decide)) dX5_play_3 (by assumption) (cat_le (Nat.le_of_ble_eq_true rfl)) (fun zx3 zim3 zh3 => ?_)
  obtain ⟨zx, hT, hq⟩ := zh3
  rw [if_pos hv] at zx
  rw [zx]
  have hZ3 : MZ Y S n T sn bl B zim3 := hZ.read hq
  refine pw_if_eq 13 dX5_play_6 (by decide) (fun h => absurd h (by decide)) (fun _ => ?_)
  refine pw_iconst (0) dX5_play_9 (by decide) ?_
  refine pw_goto 14 dX5_play_10 (by decide) ?_
  refine g_callV1I (M_holdsT (l := l) hlt) rfl ft5 rfl mc_X5_holds ml_X5_98 mi_X5_holds ms_X5_holds in_X5 (okc_X5_holds (by decide)) dX5_play_14 (by assumption) (cat_le (Nat.le_of_ble_eq_true rfl)) (fun zx14 zim14 zh14 => ?_)
  obtain ⟨rfl, rfl⟩ := zh14
  have hZ1 := hZ3.th (x := 0)
  refine pw_if_ne 22 dX5_play_17 (by decide) (fun _ => ?_) (fun h => absurd (by decide) h)
  refine t_aload0 dX5_play_22 ?_
  refine g_callV0V (M_save (l := l) hlt hM hZ1.1 hZ1.2.1) rfl ft5 rfl mc_X5_save ml_X5_101 mi_X5_save ms_X5_save in_X5 (okc_X5_save (by decide)) dX5_play_23 (by assumption) (cat_le (Nat.le_of_ble_eq_true rfl)) (fun zim23 zh23 => ?_)
  have hZ2 := hZ1.saved zh23
  have hth : zim23 240 8 = 0 := (zh23.2.2 8 (by decide)).trans th_at
  refine t_aload0 dX5_play_26 ?_
  refine pw_iconst (1) dX5_play_27 (by decide) ?_
  refine g_callV1I (M_readText1 (l := l) hlt hM (hZ2.tt hB) hZ2.1 hW hv) rfl ft5 rfl mc_X5_readText ml_X5_155 mi_X5_readText ms_X5_readText in_X5 (okc_X5_readText (by decide)) dX5_play_28 (by assumption) (cat_le (Nat.le_of_ble_eq_true rfl)) (fun zx28 zim28 zh28 => ?_)
  obtain ⟨zx2, hpt, hR2, hfs⟩ := zh28
  have hZ4 := (hZ2.played hfs hR2).clr
  refine t_istore1 dX5_play_31 (by decide) okp_r ?_
  refine t_aload0 dX5_play_32 ?_
  refine pw_iconst (0) dX5_play_33 (by decide) ?_
  refine g_puti ft5 fl_X5_124 (j := 7) (by decide) ⟨rfl, rfl⟩ dX5_play_34 (by assumption) ?_
  refine t_iload1 dX5_play_37 ?_
  refine pw_if_eq 48 dX5_play_38 (by decide) (fun zc38 => ?_) (fun zc38 => ?_)
  · exact absurd zc38 (by rw [zx2]; decide)
  · refine t_aload0 dX5_play_41 ?_
    refine g_geti ft5 fl_X5_146 (j := 12) (by decide) dX5_play_42 (by assumption) ?_
    refine pw_goto 49 dX5_play_45 (by decide) ?_
    refine pw_iret dX5_play_49 rfl ?_
    exact ⟨rfl, rfl, rfl, _, rfl, by rw [ui_at, if_neg (by decide)]; exact hpt, by rw [ui_at, if_neg (by decide), hfs.2 8 (by decide) (by decide) (by decide)]; exact hth, hZ4⟩
set_option maxHeartbeats 4000000 in
set_option maxRecDepth 100000 in
theorem M_playA {l : Launch} (hlt : l.stackTraces = false) {im : TI} {rm : TP} {lm : TL} {Y : TI} {S : CS} {n : Nat} {T : Nat → CS} {sn : Option CS} {bl : Nat} {B : Nat → Int32} (hM : MM rm) (hZ : MZ Y S n T sn bl B im) {b : Nat → Nat} (hB : ∀ j, j < bl → B j = nI (b j) ∧ b j < 128) (hv : ¬ (vt b bl (bl + 1) 0).1 = true) : Con l m_X5_play 9 0 0 NN [pv (some 240)] im rm lm (QI (fun x im2 => im2 240 8 = 1 ∧ MZ Y S n T sn bl B im2) rm lm) noX := by
  have hk0 := kdM
  have hks := kds
  obtain ⟨r0, r1, r3, r5, r6, r11⟩ := id hM
  refine Con.ofN (k := 1) (L0 := [some (pv (some 240)), none]) hlt (by decide +kernel) rfl rfl (by rw [en1 pv_cat, en0]; exact Nat.le_of_ble_eq_true rfl) (by rw [en1 pv_cat, en0]; rfl) ?_
  refine t_aload0 dX5_play_0 ?_
  refine t_aload0 dX5_play_1 ?_
  refine pw_iconst (0) dX5_play_2 (by decide) ?_
  refine g_callV1I (M_readText0 (l := l) hlt hM (hZ.tt hB)) rfl ft5 rfl mc_X5_readText ml_X5_155 mi_X5_readText ms_X5_readText in_X5 (okc_X5_readText (by decide)) dX5_play_3 (by assumption) (cat_le (Nat.le_of_ble_eq_true rfl)) (fun zx3 zim3 zh3 => ?_)
  obtain ⟨zx, hT, hq⟩ := zh3
  rw [if_neg hv] at zx
  rw [zx]
  have hZ3 : MZ Y S n T sn bl B zim3 := hZ.read hq
  refine pw_if_eq 13 dX5_play_6 (by decide) (fun _ => ?_) (fun h => absurd (by decide) h)
  refine pw_iconst (1) dX5_play_13 (by decide) ?_
  refine g_callV1I (M_holds1 (l := l) hlt) rfl ft5 rfl mc_X5_holds ml_X5_98 mi_X5_holds ms_X5_holds in_X5 (okc_X5_holds (by decide)) dX5_play_14 (by assumption) (cat_le (Nat.le_of_ble_eq_true rfl)) (fun zx14 zim14 zh14 => ?_)
  obtain ⟨rfl, rfl⟩ := zh14
  have hZ1 := hZ3.th (x := 1)
  refine pw_if_ne 22 dX5_play_17 (by decide) (fun h => absurd h (by decide)) (fun _ => ?_)
  refine pw_iconst (0) dX5_play_20 (by decide) ?_
  refine pw_iret dX5_play_21 rfl ?_
  exact ⟨rfl, rfl, rfl, _, rfl, th_at, hZ1⟩

/-! TideMillsModel: its public methods that tell -/
theorem MZ.tri {Y : TI} {S : CS} {n : Nat} {T : Nat → CS} {sn : Option CS} {bl : Nat} {B : Nat → Int32} {im im2 : TI} (h : MZ Y S n T sn bl B im) (g : MB im S im2) : MZ Y S n T sn bl B im2 := by
  obtain ⟨h1, ⟨h2, h3, h4⟩, ⟨h5, h6⟩, ⟨h7, h8⟩, h9, h10⟩ := h
  refine ⟨g.1, ⟨by rw [g.2 240 (by decide) (by decide)]; exact h2, h3, by rw [g.2 242 (by decide) (by decide)]; exact h4⟩, ⟨by rw [g.2 240 (by decide) (by decide)]; exact h5, by rw [g.2 243 (by decide) (by decide)]; exact h6⟩, ⟨by rw [g.2 240 (by decide) (by decide)]; exact h7, h8⟩, by rw [g.2 245 (by decide) (by decide)]; exact h9, fun o ho => (g.2 o (by omega) (by omega)).trans (h10 o ho)⟩
theorem RW.mb {im : TI} {S : CS} (h : RW (im 241) S) : MB im S im := ⟨h, fun _ _ _ => rfl⟩
set_option maxHeartbeats 4000000 in
set_option maxRecDepth 100000 in
theorem M_mill {l : Launch} (hlt : l.stackTraces = false) {im : TI} {rm : TP} {lm : TL} {Y : TI} {S : CS} {n : Nat} {T : Nat → CS} {sn : Option CS} {bl : Nat} {B : Nat → Int32} (hM : MM rm) (hZ : MZ Y S n T sn bl B im) (hW : CW S) {x : Int32} {m v : Nat} (hmo : maO x = some m) (hv : v ≤ 10) (ha : (0 : Int32) ≤ nI v ∧ nI v ≤ 10) : Con l m_X5_mill 9 0 0 NN [pv (some 240), .int (x), .int (nI v)] im rm lm (QI (fun y im2 => y = mlS S m v ∧ im2 240 8 = 0 ∧ MZ Y S n T sn bl B im2) rm lm) noX := by
  have hk0 := kdM
  have hks := kds
  obtain ⟨r0, r1, r3, r5, r6, r11⟩ := id hM
  have hR : MS im S im := ⟨hZ.1, fun _ _ => rfl⟩
  refine Con.ofN (k := 0) (L0 := [some (pv (some 240)), some (.int (x)), some (.int (nI v))]) hlt (by decide +kernel) rfl rfl (by rw [en1 pv_cat, en1 rfl, en1 rfl, en0]; exact Nat.le_of_ble_eq_true rfl) (by rw [en1 pv_cat, en1 rfl, en1 rfl, en0]; rfl) ?_
  obtain ⟨hm, rfl⟩ := maO_some hmo
  refine t_aload0 dX5_mill_0 ?_
  refine t_iload1 dX5_mill_1 ?_
  refine g_callS1P (M_isMill (l := l) hlt) rfl mc_X5_isMill ml_X5_94 mi_X5_isMill in_X5 (okc_X5_isMill (by decide)) dX5_mill_2 (cat_le (Nat.le_of_ble_eq_true rfl)) ?_
  rw [bI_t (ma_in hmo)]
  refine pw_if_ne 12 dX5_mill_5 (by decide) (fun _ => ?_) (fun h => absurd (by decide) h)
  refine t_iload2 dX5_mill_12 ?_
  refine pw_iconst (0) dX5_mill_13 (by decide) ?_
  refine pw_bipush (10) dX5_mill_14 (by decide) ?_
  refine g_callS3P (M_in (l := l) hlt) rfl mc_X5_in ml_X5_36 mi_X5_in in_X5 (okc_X5_in (by decide)) dX5_mill_16 (cat_le (Nat.le_of_ble_eq_true rfl)) ?_
  rw [bI_t ha]
  refine pw_if_ne 26 dX5_mill_19 (by decide) (fun _ => ?_) (fun h => absurd (by decide) h)
  refine pw_iconst (0) dX5_mill_26 (by decide) ?_
  refine g_callV1I (M_holdsT (l := l) hlt) rfl ft5 rfl mc_X5_holds ml_X5_98 mi_X5_holds ms_X5_holds in_X5 (okc_X5_holds (by decide)) dX5_mill_27 (by assumption) (cat_le (Nat.le_of_ble_eq_true rfl)) (fun zx27 zim27 zh27 => ?_)
  obtain ⟨rfl, rfl⟩ := zh27
  have hZ1 := hZ.th (x := 0)
  have hR : MS (ui im 240 8 0) S (ui im 240 8 0) := ⟨hZ1.1, fun _ _ => rfl⟩
  refine pw_if_eq 42 dX5_mill_30 (by decide) (fun h => absurd h (by decide)) (fun _ => ?_)
  refine t_aload0 dX5_mill_33 ?_
  refine t_iload1 dX5_mill_34 ?_
  refine t_iload2 dX5_mill_35 ?_
  refine g_callV2P (M_millTold (l := l) hlt hM hR hW.2.1 hm hv) rfl ft5 rfl mc_X5_millTold ml_X5_163 mi_X5_millTold ms_X5_millTold in_X5 (okc_X5_millTold (by decide)) dX5_mill_36 (by assumption) (cat_le (Nat.le_of_ble_eq_true rfl)) ?_
  refine pw_goto 43 dX5_mill_39 (by decide) ?_
  refine pw_iret dX5_mill_43 rfl ?_
  exact ⟨rfl, rfl, rfl, _, rfl, rfl, th_at, hZ.th⟩
set_option maxHeartbeats 4000000 in
set_option maxRecDepth 100000 in
theorem M_millI {l : Launch} (hlt : l.stackTraces = false) {im : TI} {rm : TP} {lm : TL} {Y : TI} {S : CS} {n : Nat} {T : Nat → CS} {sn : Option CS} {bl : Nat} {B : Nat → Int32} (hM : MM rm) (hZ : MZ Y S n T sn bl B im) {x a : Int32} (hmo : maO x = none) : Con l m_X5_mill 9 0 0 NN [pv (some 240), .int (x), .int (a)] im rm lm (QI (fun x im2 => im2 240 8 = 1 ∧ MZ Y S n T sn bl B im2) rm lm) noX := by
  have hk0 := kdM
  have hks := kds
  obtain ⟨r0, r1, r3, r5, r6, r11⟩ := id hM
  have hR : MS im S im := ⟨hZ.1, fun _ _ => rfl⟩
  refine Con.ofN (k := 0) (L0 := [some (pv (some 240)), some (.int (x)), some (.int (a))]) hlt (by decide +kernel) rfl rfl (by rw [en1 pv_cat, en1 rfl, en1 rfl, en0]; exact Nat.le_of_ble_eq_true rfl) (by rw [en1 pv_cat, en1 rfl, en1 rfl, en0]; rfl) ?_
  refine t_aload0 dX5_mill_0 ?_
  refine t_iload1 dX5_mill_1 ?_
  refine g_callS1P (M_isMill (l := l) hlt) rfl mc_X5_isMill ml_X5_94 mi_X5_isMill in_X5 (okc_X5_isMill (by decide)) dX5_mill_2 (cat_le (Nat.le_of_ble_eq_true rfl)) ?_
  rw [bI_f (ma_out hmo)]
  refine pw_if_ne 12 dX5_mill_5 (by decide) (fun h => absurd h (by decide)) (fun _ => ?_)
  refine pw_iconst (1) dX5_mill_8 (by decide) ?_
  refine pw_goto 27 dX5_mill_9 (by decide) ?_
  refine g_callV1I (M_holds1 (l := l) hlt) rfl ft5 rfl mc_X5_holds ml_X5_98 mi_X5_holds ms_X5_holds in_X5 (okc_X5_holds (by decide)) dX5_mill_27 (by assumption) (cat_le (Nat.le_of_ble_eq_true rfl)) (fun zx27 zim27 zh27 => ?_)
  obtain ⟨rfl, rfl⟩ := zh27
  refine pw_if_eq 42 dX5_mill_30 (by decide) (fun _ => ?_) (fun h => absurd (by decide) h)
  refine pw_iconst (0) dX5_mill_42 (by decide) ?_
  refine pw_iret dX5_mill_43 rfl ?_
  exact ⟨rfl, rfl, rfl, _, rfl, th_at, hZ.th⟩
set_option maxHeartbeats 4000000 in
set_option maxRecDepth 100000 in
theorem M_millA {l : Launch} (hlt : l.stackTraces = false) {im : TI} {rm : TP} {lm : TL} {Y : TI} {S : CS} {n : Nat} {T : Nat → CS} {sn : Option CS} {bl : Nat} {B : Nat → Int32} (hM : MM rm) (hZ : MZ Y S n T sn bl B im) {x a : Int32} {m : Nat} (hmo : maO x = some m) (ha : ¬ (0 ≤ a ∧ a ≤ 10)) : Con l m_X5_mill 9 0 0 NN [pv (some 240), .int (x), .int (a)] im rm lm (QI (fun x im2 => im2 240 8 = 2 ∧ MZ Y S n T sn bl B im2) rm lm) noX := by
  have hk0 := kdM
  have hks := kds
  obtain ⟨r0, r1, r3, r5, r6, r11⟩ := id hM
  have hR : MS im S im := ⟨hZ.1, fun _ _ => rfl⟩
  refine Con.ofN (k := 0) (L0 := [some (pv (some 240)), some (.int (x)), some (.int (a))]) hlt (by decide +kernel) rfl rfl (by rw [en1 pv_cat, en1 rfl, en1 rfl, en0]; exact Nat.le_of_ble_eq_true rfl) (by rw [en1 pv_cat, en1 rfl, en1 rfl, en0]; rfl) ?_
  refine t_aload0 dX5_mill_0 ?_
  refine t_iload1 dX5_mill_1 ?_
  refine g_callS1P (M_isMill (l := l) hlt) rfl mc_X5_isMill ml_X5_94 mi_X5_isMill in_X5 (okc_X5_isMill (by decide)) dX5_mill_2 (cat_le (Nat.le_of_ble_eq_true rfl)) ?_
  rw [bI_t (ma_in hmo)]
  refine pw_if_ne 12 dX5_mill_5 (by decide) (fun _ => ?_) (fun h => absurd (by decide) h)
  refine t_iload2 dX5_mill_12 ?_
  refine pw_iconst (0) dX5_mill_13 (by decide) ?_
  refine pw_bipush (10) dX5_mill_14 (by decide) ?_
  refine g_callS3P (M_in (l := l) hlt) rfl mc_X5_in ml_X5_36 mi_X5_in in_X5 (okc_X5_in (by decide)) dX5_mill_16 (cat_le (Nat.le_of_ble_eq_true rfl)) ?_
  rw [bI_f ha]
  refine pw_if_ne 26 dX5_mill_19 (by decide) (fun h => absurd h (by decide)) (fun _ => ?_)
  refine pw_iconst (2) dX5_mill_22 (by decide) ?_
  refine pw_goto 27 dX5_mill_23 (by decide) ?_
  refine g_callV1I (M_holds2 (l := l) hlt) rfl ft5 rfl mc_X5_holds ml_X5_98 mi_X5_holds ms_X5_holds in_X5 (okc_X5_holds (by decide)) dX5_mill_27 (by assumption) (cat_le (Nat.le_of_ble_eq_true rfl)) (fun zx27 zim27 zh27 => ?_)
  obtain ⟨rfl, rfl⟩ := zh27
  refine pw_if_eq 42 dX5_mill_30 (by decide) (fun _ => ?_) (fun h => absurd (by decide) h)
  refine pw_iconst (0) dX5_mill_42 (by decide) ?_
  refine pw_iret dX5_mill_43 rfl ?_
  exact ⟨rfl, rfl, rfl, _, rfl, th_at, hZ.th⟩
set_option maxHeartbeats 4000000 in
set_option maxRecDepth 100000 in
theorem M_sackAt {l : Launch} (hlt : l.stackTraces = false) {im : TI} {rm : TP} {lm : TL} {Y : TI} {S : CS} {n : Nat} {T : Nat → CS} {sn : Option CS} {bl : Nat} {B : Nat → Int32} (hM : MM rm) (hZ : MZ Y S n T sn bl B im) (hW : CW S) {x : Int32} {m p : Nat} (hmo : maO x = some m) (hp : p < 2 ^ 31) : Con l m_X5_sackAt 9 0 0 NN [pv (some 240), .int (x), .int (nI p)] im rm lm (QI (fun y im2 => y = stS S m p 0 ∧ im2 240 8 = 0 ∧ MZ Y S n T sn bl B im2) rm lm) noX := by
  have hk0 := kdM
  have hks := kds
  obtain ⟨r0, r1, r3, r5, r6, r11⟩ := id hM
  have hR : MS im S im := ⟨hZ.1, fun _ _ => rfl⟩
  refine Con.ofN (k := 0) (L0 := [some (pv (some 240)), some (.int (x)), some (.int (nI p))]) hlt (by decide +kernel) rfl rfl (by rw [en1 pv_cat, en1 rfl, en1 rfl, en0]; exact Nat.le_of_ble_eq_true rfl) (by rw [en1 pv_cat, en1 rfl, en1 rfl, en0]; rfl) ?_
  obtain ⟨hm, rfl⟩ := maO_some hmo
  refine t_aload0 dX5_sackAt_0 ?_
  refine t_iload1 dX5_sackAt_1 ?_
  refine g_callS1P (M_isMill (l := l) hlt) rfl mc_X5_isMill ml_X5_94 mi_X5_isMill in_X5 (okc_X5_isMill (by decide)) dX5_sackAt_2 (cat_le (Nat.le_of_ble_eq_true rfl)) ?_
  rw [bI_t (ma_in hmo)]
  refine pw_if_ne 12 dX5_sackAt_5 (by decide) (fun _ => ?_) (fun h => absurd (by decide) h)
  refine t_iload2 dX5_sackAt_12 ?_
  refine pw_if_ge 20 dX5_sackAt_13 (by decide) (fun zc13 => ?_) (fun zc13 => ?_)
  · refine pw_iconst (0) dX5_sackAt_20 (by decide) ?_
    refine g_callV1I (M_holdsT (l := l) hlt) rfl ft5 rfl mc_X5_holds ml_X5_98 mi_X5_holds ms_X5_holds in_X5 (okc_X5_holds (by decide)) dX5_sackAt_21 (by assumption) (cat_le (Nat.le_of_ble_eq_true rfl)) (fun zx21 zim21 zh21 => ?_)
    obtain ⟨rfl, rfl⟩ := zh21
    have hZ1 := hZ.th (x := 0)
    have hR : MS (ui im 240 8 0) S (ui im 240 8 0) := ⟨hZ1.1, fun _ _ => rfl⟩
    refine pw_if_eq 37 dX5_sackAt_24 (by decide) (fun h => absurd h (by decide)) (fun _ => ?_)
    refine t_aload0 dX5_sackAt_27 ?_
    refine t_iload1 dX5_sackAt_28 ?_
    refine t_iload2 dX5_sackAt_29 ?_
    refine pw_iconst (0) dX5_sackAt_30 (by decide) ?_
    refine g_callV3P (M_sackTold (l := l) hlt hM hR hW.1 (m := m) (p := p) (w := 0) hm hp (by decide)) rfl ft5 rfl mc_X5_sackTold ml_X5_166 mi_X5_sackTold ms_X5_sackTold in_X5 (okc_X5_sackTold (by decide)) dX5_sackAt_31 (by assumption) (cat_le (Nat.le_of_ble_eq_true rfl)) ?_
    refine pw_goto 38 dX5_sackAt_34 (by decide) ?_
    refine pw_iret dX5_sackAt_38 rfl ?_
    exact ⟨rfl, rfl, rfl, _, rfl, rfl, th_at, hZ.th⟩
  · exact absurd (nI_pos' hp) zc13
set_option maxHeartbeats 4000000 in
set_option maxRecDepth 100000 in
theorem M_sackAtI {l : Launch} (hlt : l.stackTraces = false) {im : TI} {rm : TP} {lm : TL} {Y : TI} {S : CS} {n : Nat} {T : Nat → CS} {sn : Option CS} {bl : Nat} {B : Nat → Int32} (hM : MM rm) (hZ : MZ Y S n T sn bl B im) {x a : Int32} (hmo : maO x = none) : Con l m_X5_sackAt 9 0 0 NN [pv (some 240), .int (x), .int (a)] im rm lm (QI (fun x im2 => im2 240 8 = 1 ∧ MZ Y S n T sn bl B im2) rm lm) noX := by
  have hk0 := kdM
  have hks := kds
  obtain ⟨r0, r1, r3, r5, r6, r11⟩ := id hM
  have hR : MS im S im := ⟨hZ.1, fun _ _ => rfl⟩
  refine Con.ofN (k := 0) (L0 := [some (pv (some 240)), some (.int (x)), some (.int (a))]) hlt (by decide +kernel) rfl rfl (by rw [en1 pv_cat, en1 rfl, en1 rfl, en0]; exact Nat.le_of_ble_eq_true rfl) (by rw [en1 pv_cat, en1 rfl, en1 rfl, en0]; rfl) ?_
  refine t_aload0 dX5_sackAt_0 ?_
  refine t_iload1 dX5_sackAt_1 ?_
  refine g_callS1P (M_isMill (l := l) hlt) rfl mc_X5_isMill ml_X5_94 mi_X5_isMill in_X5 (okc_X5_isMill (by decide)) dX5_sackAt_2 (cat_le (Nat.le_of_ble_eq_true rfl)) ?_
  rw [bI_f (ma_out hmo)]
  refine pw_if_ne 12 dX5_sackAt_5 (by decide) (fun h => absurd h (by decide)) (fun _ => ?_)
  refine pw_iconst (1) dX5_sackAt_8 (by decide) ?_
  refine pw_goto 21 dX5_sackAt_9 (by decide) ?_
  refine g_callV1I (M_holds1 (l := l) hlt) rfl ft5 rfl mc_X5_holds ml_X5_98 mi_X5_holds ms_X5_holds in_X5 (okc_X5_holds (by decide)) dX5_sackAt_21 (by assumption) (cat_le (Nat.le_of_ble_eq_true rfl)) (fun zx21 zim21 zh21 => ?_)
  obtain ⟨rfl, rfl⟩ := zh21
  refine pw_if_eq 37 dX5_sackAt_24 (by decide) (fun _ => ?_) (fun h => absurd (by decide) h)
  refine pw_iconst (0) dX5_sackAt_37 (by decide) ?_
  refine pw_iret dX5_sackAt_38 rfl ?_
  exact ⟨rfl, rfl, rfl, _, rfl, th_at, hZ.th⟩
set_option maxHeartbeats 4000000 in
set_option maxRecDepth 100000 in
theorem M_sackAtA {l : Launch} (hlt : l.stackTraces = false) {im : TI} {rm : TP} {lm : TL} {Y : TI} {S : CS} {n : Nat} {T : Nat → CS} {sn : Option CS} {bl : Nat} {B : Nat → Int32} (hM : MM rm) (hZ : MZ Y S n T sn bl B im) {x a : Int32} {m : Nat} (hmo : maO x = some m) (ha : a < 0) : Con l m_X5_sackAt 9 0 0 NN [pv (some 240), .int (x), .int (a)] im rm lm (QI (fun x im2 => im2 240 8 = 2 ∧ MZ Y S n T sn bl B im2) rm lm) noX := by
  have hk0 := kdM
  have hks := kds
  obtain ⟨r0, r1, r3, r5, r6, r11⟩ := id hM
  have hR : MS im S im := ⟨hZ.1, fun _ _ => rfl⟩
  refine Con.ofN (k := 0) (L0 := [some (pv (some 240)), some (.int (x)), some (.int (a))]) hlt (by decide +kernel) rfl rfl (by rw [en1 pv_cat, en1 rfl, en1 rfl, en0]; exact Nat.le_of_ble_eq_true rfl) (by rw [en1 pv_cat, en1 rfl, en1 rfl, en0]; rfl) ?_
  refine t_aload0 dX5_sackAt_0 ?_
  refine t_iload1 dX5_sackAt_1 ?_
  refine g_callS1P (M_isMill (l := l) hlt) rfl mc_X5_isMill ml_X5_94 mi_X5_isMill in_X5 (okc_X5_isMill (by decide)) dX5_sackAt_2 (cat_le (Nat.le_of_ble_eq_true rfl)) ?_
  rw [bI_t (ma_in hmo)]
  refine pw_if_ne 12 dX5_sackAt_5 (by decide) (fun _ => ?_) (fun h => absurd (by decide) h)
  refine t_iload2 dX5_sackAt_12 ?_
  refine pw_if_ge 20 dX5_sackAt_13 (by decide) (fun zc13 => ?_) (fun zc13 => ?_)
  · exact absurd ha (Int32.not_lt.mpr zc13)
  · refine pw_iconst (2) dX5_sackAt_16 (by decide) ?_
    refine pw_goto 21 dX5_sackAt_17 (by decide) ?_
    refine g_callV1I (M_holds2 (l := l) hlt) rfl ft5 rfl mc_X5_holds ml_X5_98 mi_X5_holds ms_X5_holds in_X5 (okc_X5_holds (by decide)) dX5_sackAt_21 (by assumption) (cat_le (Nat.le_of_ble_eq_true rfl)) (fun zx21 zim21 zh21 => ?_)
    obtain ⟨rfl, rfl⟩ := zh21
    refine pw_if_eq 37 dX5_sackAt_24 (by decide) (fun _ => ?_) (fun h => absurd (by decide) h)
    refine pw_iconst (0) dX5_sackAt_37 (by decide) ?_
    refine pw_iret dX5_sackAt_38 rfl ?_
    exact ⟨rfl, rfl, rfl, _, rfl, th_at, hZ.th⟩
set_option maxHeartbeats 4000000 in
set_option maxRecDepth 100000 in
theorem M_sackOf_0 {l : Launch} (hlt : l.stackTraces = false) {im : TI} {rm : TP} {lm : TL} {Y : TI} {S : CS} {n : Nat} {T : Nat → CS} {sn : Option CS} {bl : Nat} {B : Nat → Int32} (hM : MM rm) (hZ : MZ Y S n T sn bl B im) (hW : CW S) {x : Int32} {m p : Nat} (hwh : whS S x = some (6 * m + p)) (hm : m < 5) (hp6 : p < 6) (hp : p < cnt S m) : Con l m_X5_sackOf 9 0 0 NN [pv (some 240), .int (x), .int (0)] im rm lm (QI (fun y im2 => y = nI m ∧ im2 240 8 = 0 ∧ MZ Y S n T sn bl B im2) rm lm) noX := by
  have hk0 := kdM
  have hks := kds
  obtain ⟨r0, r1, r3, r5, r6, r11⟩ := id hM
  have hR : MS im S im := ⟨hZ.1, fun _ _ => rfl⟩
  refine Con.ofN (k := 1) (L0 := [some (pv (some 240)), some (.int (x)), some (.int (0)), none]) hlt (by decide +kernel) rfl rfl (by rw [en1 pv_cat, en1 rfl, en1 rfl, en0]; exact Nat.le_of_ble_eq_true rfl) (by rw [en1 pv_cat, en1 rfl, en1 rfl, en0]; rfl) ?_
  refine t_aload0 dX5_sackOf_0 ?_
  refine t_iload2 dX5_sackOf_1 ?_
  refine pw_iconst (0) dX5_sackOf_2 (by decide) ?_
  refine pw_iconst (4) dX5_sackOf_3 (by decide) ?_
  refine g_callS3P (M_in (l := l) hlt) rfl mc_X5_in ml_X5_36 mi_X5_in in_X5 (okc_X5_in (by decide)) dX5_sackOf_4 (cat_le (Nat.le_of_ble_eq_true rfl)) ?_
  rw [bI_t (by decide)]
  refine pw_if_eq 14 dX5_sackOf_7 (by decide) (fun h => absurd h (by decide)) (fun _ => ?_)
  refine pw_iconst (0) dX5_sackOf_10 (by decide) ?_
  refine pw_goto 15 dX5_sackOf_11 (by decide) ?_
  refine g_callV1I (M_holdsT (l := l) hlt) rfl ft5 rfl mc_X5_holds ml_X5_98 mi_X5_holds ms_X5_holds in_X5 (okc_X5_holds (by decide)) dX5_sackOf_15 (by assumption) (cat_le (Nat.le_of_ble_eq_true rfl)) (fun zx15 zim15 zh15 => ?_)
  obtain ⟨rfl, rfl⟩ := zh15
  have hZ1 := hZ.th (x := 0)
  have hR : MS (ui im 240 8 0) S (ui im 240 8 0) := ⟨hZ1.1, fun _ _ => rfl⟩
  refine pw_if_ne 23 dX5_sackOf_18 (by decide) (fun _ => ?_) (fun h => absurd (by decide) h)
  refine t_aload0 dX5_sackOf_23 ?_
  refine t_iload1 dX5_sackOf_24 ?_
  refine g_callV1P (M_whereIs (l := l) hlt hM hR) rfl ft5 rfl mc_X5_whereIs ml_X5_121 mi_X5_whereIs ms_X5_whereIs in_X5 (okc_X5_whereIs (by decide)) dX5_sackOf_25 (by assumption) (cat_le (Nat.le_of_ble_eq_true rfl)) ?_
  rw [hwh, show oI (some (6 * m + p)) = nI (6 * m + p) from rfl]
  refine t_istore3 dX5_sackOf_28 (by decide) okp_i ?_
  refine t_iload3 dX5_sackOf_29 ?_
  refine pw_iconst (-1) dX5_sackOf_30 (by decide) ?_
  refine pw_icmp_ne 36 dX5_sackOf_31 (by decide) (fun zc31 => ?_) (fun zc31 => ?_)
  · refine t_iload2 dX5_sackOf_36 ?_
    refine pw_if_ne 47 dX5_sackOf_37 (by decide) (fun h => absurd h (by decide)) (fun _ => ?_)
    refine t_iload3 dX5_sackOf_40 ?_
    refine pw_bipush (6) dX5_sackOf_41 (by decide) ?_
    refine pw_idiv dX5_sackOf_43 (by decide) ?_
    rw [mdiv (by omega), show (6 * m + p) / 6 = m by omega]
    refine pw_goto 72 dX5_sackOf_44 (by decide) ?_
    refine pw_iret dX5_sackOf_72 rfl ?_
    exact ⟨rfl, rfl, rfl, _, rfl, rfl, th_at, hZ.th⟩
  · exact absurd (Classical.not_not.mp zc31) (nI_m1 (by omega))
set_option maxHeartbeats 4000000 in
set_option maxRecDepth 100000 in
theorem M_sackOf_1 {l : Launch} (hlt : l.stackTraces = false) {im : TI} {rm : TP} {lm : TL} {Y : TI} {S : CS} {n : Nat} {T : Nat → CS} {sn : Option CS} {bl : Nat} {B : Nat → Int32} (hM : MM rm) (hZ : MZ Y S n T sn bl B im) (hW : CW S) {x : Int32} {m p : Nat} (hwh : whS S x = some (6 * m + p)) (hm : m < 5) (hp6 : p < 6) (hp : p < cnt S m) : Con l m_X5_sackOf 9 0 0 NN [pv (some 240), .int (x), .int (1)] im rm lm (QI (fun y im2 => y = S.2.2 m p 1 ∧ im2 240 8 = 0 ∧ MZ Y S n T sn bl B im2) rm lm) noX := by
  have hk0 := kdM
  have hks := kds
  obtain ⟨r0, r1, r3, r5, r6, r11⟩ := id hM
  have hR : MS im S im := ⟨hZ.1, fun _ _ => rfl⟩
  refine Con.ofN (k := 1) (L0 := [some (pv (some 240)), some (.int (x)), some (.int (1)), none]) hlt (by decide +kernel) rfl rfl (by rw [en1 pv_cat, en1 rfl, en1 rfl, en0]; exact Nat.le_of_ble_eq_true rfl) (by rw [en1 pv_cat, en1 rfl, en1 rfl, en0]; rfl) ?_
  refine t_aload0 dX5_sackOf_0 ?_
  refine t_iload2 dX5_sackOf_1 ?_
  refine pw_iconst (0) dX5_sackOf_2 (by decide) ?_
  refine pw_iconst (4) dX5_sackOf_3 (by decide) ?_
  refine g_callS3P (M_in (l := l) hlt) rfl mc_X5_in ml_X5_36 mi_X5_in in_X5 (okc_X5_in (by decide)) dX5_sackOf_4 (cat_le (Nat.le_of_ble_eq_true rfl)) ?_
  rw [bI_t (by decide)]
  refine pw_if_eq 14 dX5_sackOf_7 (by decide) (fun h => absurd h (by decide)) (fun _ => ?_)
  refine pw_iconst (0) dX5_sackOf_10 (by decide) ?_
  refine pw_goto 15 dX5_sackOf_11 (by decide) ?_
  refine g_callV1I (M_holdsT (l := l) hlt) rfl ft5 rfl mc_X5_holds ml_X5_98 mi_X5_holds ms_X5_holds in_X5 (okc_X5_holds (by decide)) dX5_sackOf_15 (by assumption) (cat_le (Nat.le_of_ble_eq_true rfl)) (fun zx15 zim15 zh15 => ?_)
  obtain ⟨rfl, rfl⟩ := zh15
  have hZ1 := hZ.th (x := 0)
  have hR : MS (ui im 240 8 0) S (ui im 240 8 0) := ⟨hZ1.1, fun _ _ => rfl⟩
  refine pw_if_ne 23 dX5_sackOf_18 (by decide) (fun _ => ?_) (fun h => absurd (by decide) h)
  refine t_aload0 dX5_sackOf_23 ?_
  refine t_iload1 dX5_sackOf_24 ?_
  refine g_callV1P (M_whereIs (l := l) hlt hM hR) rfl ft5 rfl mc_X5_whereIs ml_X5_121 mi_X5_whereIs ms_X5_whereIs in_X5 (okc_X5_whereIs (by decide)) dX5_sackOf_25 (by assumption) (cat_le (Nat.le_of_ble_eq_true rfl)) ?_
  rw [hwh, show oI (some (6 * m + p)) = nI (6 * m + p) from rfl]
  refine t_istore3 dX5_sackOf_28 (by decide) okp_i ?_
  refine t_iload3 dX5_sackOf_29 ?_
  refine pw_iconst (-1) dX5_sackOf_30 (by decide) ?_
  refine pw_icmp_ne 36 dX5_sackOf_31 (by decide) (fun zc31 => ?_) (fun zc31 => ?_)
  · refine t_iload2 dX5_sackOf_36 ?_
    refine pw_if_ne 47 dX5_sackOf_37 (by decide) (fun _ => ?_) (fun h => absurd (by decide) h)
    refine t_iload2 dX5_sackOf_47 ?_
    refine pw_iconst (4) dX5_sackOf_48 (by decide) ?_
    refine pw_icmp_ne 59 dX5_sackOf_49 (by decide) (fun _ => ?_) (fun h => absurd (by decide) h)
    refine t_aload0 dX5_sackOf_59 ?_
    refine t_iload3 dX5_sackOf_60 ?_
    refine pw_bipush (6) dX5_sackOf_61 (by decide) ?_
    refine pw_idiv dX5_sackOf_63 (by decide) ?_
    rw [mdiv (by omega), show (6 * m + p) / 6 = m by omega]
    refine t_iload3 dX5_sackOf_64 ?_
    refine pw_bipush (6) dX5_sackOf_65 (by decide) ?_
    refine pw_irem dX5_sackOf_67 (by decide) ?_
    rw [mrem (by omega), show (6 * m + p) % 6 = p by omega]
    refine t_iload2 dX5_sackOf_68 ?_
    refine g_callV3P (M_sackTold (l := l) hlt hM hR hW.1 (m := m) (p := p) (w := 1) hm (by omega) (by decide)) rfl ft5 rfl mc_X5_sackTold ml_X5_166 mi_X5_sackTold ms_X5_sackTold in_X5 (okc_X5_sackTold (by decide)) dX5_sackOf_69 (by assumption) (cat_le (Nat.le_of_ble_eq_true rfl)) ?_
    rw [stS, if_pos hp]
    refine pw_iret dX5_sackOf_72 rfl ?_
    exact ⟨rfl, rfl, rfl, _, rfl, rfl, th_at, hZ.th⟩
  · exact absurd (Classical.not_not.mp zc31) (nI_m1 (by omega))
set_option maxHeartbeats 4000000 in
set_option maxRecDepth 100000 in
theorem M_sackOf_2 {l : Launch} (hlt : l.stackTraces = false) {im : TI} {rm : TP} {lm : TL} {Y : TI} {S : CS} {n : Nat} {T : Nat → CS} {sn : Option CS} {bl : Nat} {B : Nat → Int32} (hM : MM rm) (hZ : MZ Y S n T sn bl B im) (hW : CW S) {x : Int32} {m p : Nat} (hwh : whS S x = some (6 * m + p)) (hm : m < 5) (hp6 : p < 6) (hp : p < cnt S m) : Con l m_X5_sackOf 9 0 0 NN [pv (some 240), .int (x), .int (2)] im rm lm (QI (fun y im2 => y = S.2.2 m p 2 ∧ im2 240 8 = 0 ∧ MZ Y S n T sn bl B im2) rm lm) noX := by
  have hk0 := kdM
  have hks := kds
  obtain ⟨r0, r1, r3, r5, r6, r11⟩ := id hM
  have hR : MS im S im := ⟨hZ.1, fun _ _ => rfl⟩
  refine Con.ofN (k := 1) (L0 := [some (pv (some 240)), some (.int (x)), some (.int (2)), none]) hlt (by decide +kernel) rfl rfl (by rw [en1 pv_cat, en1 rfl, en1 rfl, en0]; exact Nat.le_of_ble_eq_true rfl) (by rw [en1 pv_cat, en1 rfl, en1 rfl, en0]; rfl) ?_
  refine t_aload0 dX5_sackOf_0 ?_
  refine t_iload2 dX5_sackOf_1 ?_
  refine pw_iconst (0) dX5_sackOf_2 (by decide) ?_
  refine pw_iconst (4) dX5_sackOf_3 (by decide) ?_
  refine g_callS3P (M_in (l := l) hlt) rfl mc_X5_in ml_X5_36 mi_X5_in in_X5 (okc_X5_in (by decide)) dX5_sackOf_4 (cat_le (Nat.le_of_ble_eq_true rfl)) ?_
  rw [bI_t (by decide)]
  refine pw_if_eq 14 dX5_sackOf_7 (by decide) (fun h => absurd h (by decide)) (fun _ => ?_)
  refine pw_iconst (0) dX5_sackOf_10 (by decide) ?_
  refine pw_goto 15 dX5_sackOf_11 (by decide) ?_
  refine g_callV1I (M_holdsT (l := l) hlt) rfl ft5 rfl mc_X5_holds ml_X5_98 mi_X5_holds ms_X5_holds in_X5 (okc_X5_holds (by decide)) dX5_sackOf_15 (by assumption) (cat_le (Nat.le_of_ble_eq_true rfl)) (fun zx15 zim15 zh15 => ?_)
  obtain ⟨rfl, rfl⟩ := zh15
  have hZ1 := hZ.th (x := 0)
  have hR : MS (ui im 240 8 0) S (ui im 240 8 0) := ⟨hZ1.1, fun _ _ => rfl⟩
  refine pw_if_ne 23 dX5_sackOf_18 (by decide) (fun _ => ?_) (fun h => absurd (by decide) h)
  refine t_aload0 dX5_sackOf_23 ?_
  refine t_iload1 dX5_sackOf_24 ?_
  refine g_callV1P (M_whereIs (l := l) hlt hM hR) rfl ft5 rfl mc_X5_whereIs ml_X5_121 mi_X5_whereIs ms_X5_whereIs in_X5 (okc_X5_whereIs (by decide)) dX5_sackOf_25 (by assumption) (cat_le (Nat.le_of_ble_eq_true rfl)) ?_
  rw [hwh, show oI (some (6 * m + p)) = nI (6 * m + p) from rfl]
  refine t_istore3 dX5_sackOf_28 (by decide) okp_i ?_
  refine t_iload3 dX5_sackOf_29 ?_
  refine pw_iconst (-1) dX5_sackOf_30 (by decide) ?_
  refine pw_icmp_ne 36 dX5_sackOf_31 (by decide) (fun zc31 => ?_) (fun zc31 => ?_)
  · refine t_iload2 dX5_sackOf_36 ?_
    refine pw_if_ne 47 dX5_sackOf_37 (by decide) (fun _ => ?_) (fun h => absurd (by decide) h)
    refine t_iload2 dX5_sackOf_47 ?_
    refine pw_iconst (4) dX5_sackOf_48 (by decide) ?_
    refine pw_icmp_ne 59 dX5_sackOf_49 (by decide) (fun _ => ?_) (fun h => absurd (by decide) h)
    refine t_aload0 dX5_sackOf_59 ?_
    refine t_iload3 dX5_sackOf_60 ?_
    refine pw_bipush (6) dX5_sackOf_61 (by decide) ?_
    refine pw_idiv dX5_sackOf_63 (by decide) ?_
    rw [mdiv (by omega), show (6 * m + p) / 6 = m by omega]
    refine t_iload3 dX5_sackOf_64 ?_
    refine pw_bipush (6) dX5_sackOf_65 (by decide) ?_
    refine pw_irem dX5_sackOf_67 (by decide) ?_
    rw [mrem (by omega), show (6 * m + p) % 6 = p by omega]
    refine t_iload2 dX5_sackOf_68 ?_
    refine g_callV3P (M_sackTold (l := l) hlt hM hR hW.1 (m := m) (p := p) (w := 2) hm (by omega) (by decide)) rfl ft5 rfl mc_X5_sackTold ml_X5_166 mi_X5_sackTold ms_X5_sackTold in_X5 (okc_X5_sackTold (by decide)) dX5_sackOf_69 (by assumption) (cat_le (Nat.le_of_ble_eq_true rfl)) ?_
    rw [stS, if_pos hp]
    refine pw_iret dX5_sackOf_72 rfl ?_
    exact ⟨rfl, rfl, rfl, _, rfl, rfl, th_at, hZ.th⟩
  · exact absurd (Classical.not_not.mp zc31) (nI_m1 (by omega))
set_option maxHeartbeats 4000000 in
set_option maxRecDepth 100000 in
theorem M_sackOf_3 {l : Launch} (hlt : l.stackTraces = false) {im : TI} {rm : TP} {lm : TL} {Y : TI} {S : CS} {n : Nat} {T : Nat → CS} {sn : Option CS} {bl : Nat} {B : Nat → Int32} (hM : MM rm) (hZ : MZ Y S n T sn bl B im) (hW : CW S) {x : Int32} {m p : Nat} (hwh : whS S x = some (6 * m + p)) (hm : m < 5) (hp6 : p < 6) (hp : p < cnt S m) : Con l m_X5_sackOf 9 0 0 NN [pv (some 240), .int (x), .int (3)] im rm lm (QI (fun y im2 => y = S.2.2 m p 3 ∧ im2 240 8 = 0 ∧ MZ Y S n T sn bl B im2) rm lm) noX := by
  have hk0 := kdM
  have hks := kds
  obtain ⟨r0, r1, r3, r5, r6, r11⟩ := id hM
  have hR : MS im S im := ⟨hZ.1, fun _ _ => rfl⟩
  refine Con.ofN (k := 1) (L0 := [some (pv (some 240)), some (.int (x)), some (.int (3)), none]) hlt (by decide +kernel) rfl rfl (by rw [en1 pv_cat, en1 rfl, en1 rfl, en0]; exact Nat.le_of_ble_eq_true rfl) (by rw [en1 pv_cat, en1 rfl, en1 rfl, en0]; rfl) ?_
  refine t_aload0 dX5_sackOf_0 ?_
  refine t_iload2 dX5_sackOf_1 ?_
  refine pw_iconst (0) dX5_sackOf_2 (by decide) ?_
  refine pw_iconst (4) dX5_sackOf_3 (by decide) ?_
  refine g_callS3P (M_in (l := l) hlt) rfl mc_X5_in ml_X5_36 mi_X5_in in_X5 (okc_X5_in (by decide)) dX5_sackOf_4 (cat_le (Nat.le_of_ble_eq_true rfl)) ?_
  rw [bI_t (by decide)]
  refine pw_if_eq 14 dX5_sackOf_7 (by decide) (fun h => absurd h (by decide)) (fun _ => ?_)
  refine pw_iconst (0) dX5_sackOf_10 (by decide) ?_
  refine pw_goto 15 dX5_sackOf_11 (by decide) ?_
  refine g_callV1I (M_holdsT (l := l) hlt) rfl ft5 rfl mc_X5_holds ml_X5_98 mi_X5_holds ms_X5_holds in_X5 (okc_X5_holds (by decide)) dX5_sackOf_15 (by assumption) (cat_le (Nat.le_of_ble_eq_true rfl)) (fun zx15 zim15 zh15 => ?_)
  obtain ⟨rfl, rfl⟩ := zh15
  have hZ1 := hZ.th (x := 0)
  have hR : MS (ui im 240 8 0) S (ui im 240 8 0) := ⟨hZ1.1, fun _ _ => rfl⟩
  refine pw_if_ne 23 dX5_sackOf_18 (by decide) (fun _ => ?_) (fun h => absurd (by decide) h)
  refine t_aload0 dX5_sackOf_23 ?_
  refine t_iload1 dX5_sackOf_24 ?_
  refine g_callV1P (M_whereIs (l := l) hlt hM hR) rfl ft5 rfl mc_X5_whereIs ml_X5_121 mi_X5_whereIs ms_X5_whereIs in_X5 (okc_X5_whereIs (by decide)) dX5_sackOf_25 (by assumption) (cat_le (Nat.le_of_ble_eq_true rfl)) ?_
  rw [hwh, show oI (some (6 * m + p)) = nI (6 * m + p) from rfl]
  refine t_istore3 dX5_sackOf_28 (by decide) okp_i ?_
  refine t_iload3 dX5_sackOf_29 ?_
  refine pw_iconst (-1) dX5_sackOf_30 (by decide) ?_
  refine pw_icmp_ne 36 dX5_sackOf_31 (by decide) (fun zc31 => ?_) (fun zc31 => ?_)
  · refine t_iload2 dX5_sackOf_36 ?_
    refine pw_if_ne 47 dX5_sackOf_37 (by decide) (fun _ => ?_) (fun h => absurd (by decide) h)
    refine t_iload2 dX5_sackOf_47 ?_
    refine pw_iconst (4) dX5_sackOf_48 (by decide) ?_
    refine pw_icmp_ne 59 dX5_sackOf_49 (by decide) (fun _ => ?_) (fun h => absurd (by decide) h)
    refine t_aload0 dX5_sackOf_59 ?_
    refine t_iload3 dX5_sackOf_60 ?_
    refine pw_bipush (6) dX5_sackOf_61 (by decide) ?_
    refine pw_idiv dX5_sackOf_63 (by decide) ?_
    rw [mdiv (by omega), show (6 * m + p) / 6 = m by omega]
    refine t_iload3 dX5_sackOf_64 ?_
    refine pw_bipush (6) dX5_sackOf_65 (by decide) ?_
    refine pw_irem dX5_sackOf_67 (by decide) ?_
    rw [mrem (by omega), show (6 * m + p) % 6 = p by omega]
    refine t_iload2 dX5_sackOf_68 ?_
    refine g_callV3P (M_sackTold (l := l) hlt hM hR hW.1 (m := m) (p := p) (w := 3) hm (by omega) (by decide)) rfl ft5 rfl mc_X5_sackTold ml_X5_166 mi_X5_sackTold ms_X5_sackTold in_X5 (okc_X5_sackTold (by decide)) dX5_sackOf_69 (by assumption) (cat_le (Nat.le_of_ble_eq_true rfl)) ?_
    rw [stS, if_pos hp]
    refine pw_iret dX5_sackOf_72 rfl ?_
    exact ⟨rfl, rfl, rfl, _, rfl, rfl, th_at, hZ.th⟩
  · exact absurd (Classical.not_not.mp zc31) (nI_m1 (by omega))
set_option maxHeartbeats 4000000 in
set_option maxRecDepth 100000 in
theorem M_sackOf_4 {l : Launch} (hlt : l.stackTraces = false) {im : TI} {rm : TP} {lm : TL} {Y : TI} {S : CS} {n : Nat} {T : Nat → CS} {sn : Option CS} {bl : Nat} {B : Nat → Int32} (hM : MM rm) (hZ : MZ Y S n T sn bl B im) (hW : CW S) {x : Int32} {m p : Nat} (hwh : whS S x = some (6 * m + p)) (hm : m < 5) (hp6 : p < 6) (hp : p < cnt S m) : Con l m_X5_sackOf 9 0 0 NN [pv (some 240), .int (x), .int (4)] im rm lm (QI (fun y im2 => y = nI p ∧ im2 240 8 = 0 ∧ MZ Y S n T sn bl B im2) rm lm) noX := by
  have hk0 := kdM
  have hks := kds
  obtain ⟨r0, r1, r3, r5, r6, r11⟩ := id hM
  have hR : MS im S im := ⟨hZ.1, fun _ _ => rfl⟩
  refine Con.ofN (k := 1) (L0 := [some (pv (some 240)), some (.int (x)), some (.int (4)), none]) hlt (by decide +kernel) rfl rfl (by rw [en1 pv_cat, en1 rfl, en1 rfl, en0]; exact Nat.le_of_ble_eq_true rfl) (by rw [en1 pv_cat, en1 rfl, en1 rfl, en0]; rfl) ?_
  refine t_aload0 dX5_sackOf_0 ?_
  refine t_iload2 dX5_sackOf_1 ?_
  refine pw_iconst (0) dX5_sackOf_2 (by decide) ?_
  refine pw_iconst (4) dX5_sackOf_3 (by decide) ?_
  refine g_callS3P (M_in (l := l) hlt) rfl mc_X5_in ml_X5_36 mi_X5_in in_X5 (okc_X5_in (by decide)) dX5_sackOf_4 (cat_le (Nat.le_of_ble_eq_true rfl)) ?_
  rw [bI_t (by decide)]
  refine pw_if_eq 14 dX5_sackOf_7 (by decide) (fun h => absurd h (by decide)) (fun _ => ?_)
  refine pw_iconst (0) dX5_sackOf_10 (by decide) ?_
  refine pw_goto 15 dX5_sackOf_11 (by decide) ?_
  refine g_callV1I (M_holdsT (l := l) hlt) rfl ft5 rfl mc_X5_holds ml_X5_98 mi_X5_holds ms_X5_holds in_X5 (okc_X5_holds (by decide)) dX5_sackOf_15 (by assumption) (cat_le (Nat.le_of_ble_eq_true rfl)) (fun zx15 zim15 zh15 => ?_)
  obtain ⟨rfl, rfl⟩ := zh15
  have hZ1 := hZ.th (x := 0)
  have hR : MS (ui im 240 8 0) S (ui im 240 8 0) := ⟨hZ1.1, fun _ _ => rfl⟩
  refine pw_if_ne 23 dX5_sackOf_18 (by decide) (fun _ => ?_) (fun h => absurd (by decide) h)
  refine t_aload0 dX5_sackOf_23 ?_
  refine t_iload1 dX5_sackOf_24 ?_
  refine g_callV1P (M_whereIs (l := l) hlt hM hR) rfl ft5 rfl mc_X5_whereIs ml_X5_121 mi_X5_whereIs ms_X5_whereIs in_X5 (okc_X5_whereIs (by decide)) dX5_sackOf_25 (by assumption) (cat_le (Nat.le_of_ble_eq_true rfl)) ?_
  rw [hwh, show oI (some (6 * m + p)) = nI (6 * m + p) from rfl]
  refine t_istore3 dX5_sackOf_28 (by decide) okp_i ?_
  refine t_iload3 dX5_sackOf_29 ?_
  refine pw_iconst (-1) dX5_sackOf_30 (by decide) ?_
  refine pw_icmp_ne 36 dX5_sackOf_31 (by decide) (fun zc31 => ?_) (fun zc31 => ?_)
  · refine t_iload2 dX5_sackOf_36 ?_
    refine pw_if_ne 47 dX5_sackOf_37 (by decide) (fun _ => ?_) (fun h => absurd (by decide) h)
    refine t_iload2 dX5_sackOf_47 ?_
    refine pw_iconst (4) dX5_sackOf_48 (by decide) ?_
    refine pw_icmp_ne 59 dX5_sackOf_49 (by decide) (fun h => absurd h (by decide)) (fun _ => ?_)
    refine t_iload3 dX5_sackOf_52 ?_
    refine pw_bipush (6) dX5_sackOf_53 (by decide) ?_
    refine pw_irem dX5_sackOf_55 (by decide) ?_
    rw [mrem (by omega), show (6 * m + p) % 6 = p by omega]
    refine pw_goto 72 dX5_sackOf_56 (by decide) ?_
    refine pw_iret dX5_sackOf_72 rfl ?_
    exact ⟨rfl, rfl, rfl, _, rfl, rfl, th_at, hZ.th⟩
  · exact absurd (Classical.not_not.mp zc31) (nI_m1 (by omega))
theorem M_sackOf {l : Launch} (hlt : l.stackTraces = false) {im : TI} {rm : TP} {lm : TL} {Y : TI} {S : CS} {n : Nat} {T : Nat → CS} {sn : Option CS} {bl : Nat} {B : Nat → Int32} (hM : MM rm) (hZ : MZ Y S n T sn bl B im) (hW : CW S) {x : Int32} {m p v : Nat} (hwh : whS S x = some (6 * m + p)) (hm : m < 5) (hp6 : p < 6) (hp : p < cnt S m) (hv : v ≤ 4) : Con l m_X5_sackOf 9 0 0 NN [pv (some 240), .int x, .int (nI v)] im rm lm (QI (fun y im2 => y = (if v = 0 then nI m else if v = 4 then nI p else S.2.2 m p v) ∧ im2 240 8 = 0 ∧ MZ Y S n T sn bl B im2) rm lm) noX := by
  rcases le_5.mp hv with rfl | rfl | rfl | rfl | rfl
  · exact M_sackOf_0 hlt hM hZ hW hwh hm hp6 hp
  · exact M_sackOf_1 hlt hM hZ hW hwh hm hp6 hp
  · exact M_sackOf_2 hlt hM hZ hW hwh hm hp6 hp
  · exact M_sackOf_3 hlt hM hZ hW hwh hm hp6 hp
  · exact M_sackOf_4 hlt hM hZ hW hwh hm hp6 hp
set_option maxHeartbeats 4000000 in
set_option maxRecDepth 100000 in
theorem M_sackOfN {l : Launch} (hlt : l.stackTraces = false) {im : TI} {rm : TP} {lm : TL} {Y : TI} {S : CS} {n : Nat} {T : Nat → CS} {sn : Option CS} {bl : Nat} {B : Nat → Int32} (hM : MM rm) (hZ : MZ Y S n T sn bl B im) {x a : Int32} (hwh : whS S x = none) (ha : (0 : Int32) ≤ a ∧ a ≤ 4) : Con l m_X5_sackOf 9 0 0 NN [pv (some 240), .int (x), .int (a)] im rm lm (QI (fun y im2 => y = -1 ∧ im2 240 8 = 0 ∧ MZ Y S n T sn bl B im2) rm lm) noX := by
  have hk0 := kdM
  have hks := kds
  obtain ⟨r0, r1, r3, r5, r6, r11⟩ := id hM
  have hR : MS im S im := ⟨hZ.1, fun _ _ => rfl⟩
  refine Con.ofN (k := 1) (L0 := [some (pv (some 240)), some (.int (x)), some (.int (a)), none]) hlt (by decide +kernel) rfl rfl (by rw [en1 pv_cat, en1 rfl, en1 rfl, en0]; exact Nat.le_of_ble_eq_true rfl) (by rw [en1 pv_cat, en1 rfl, en1 rfl, en0]; rfl) ?_
  refine t_aload0 dX5_sackOf_0 ?_
  refine t_iload2 dX5_sackOf_1 ?_
  refine pw_iconst (0) dX5_sackOf_2 (by decide) ?_
  refine pw_iconst (4) dX5_sackOf_3 (by decide) ?_
  refine g_callS3P (M_in (l := l) hlt) rfl mc_X5_in ml_X5_36 mi_X5_in in_X5 (okc_X5_in (by decide)) dX5_sackOf_4 (cat_le (Nat.le_of_ble_eq_true rfl)) ?_
  rw [bI_t ha]
  refine pw_if_eq 14 dX5_sackOf_7 (by decide) (fun h => absurd h (by decide)) (fun _ => ?_)
  refine pw_iconst (0) dX5_sackOf_10 (by decide) ?_
  refine pw_goto 15 dX5_sackOf_11 (by decide) ?_
  refine g_callV1I (M_holdsT (l := l) hlt) rfl ft5 rfl mc_X5_holds ml_X5_98 mi_X5_holds ms_X5_holds in_X5 (okc_X5_holds (by decide)) dX5_sackOf_15 (by assumption) (cat_le (Nat.le_of_ble_eq_true rfl)) (fun zx15 zim15 zh15 => ?_)
  obtain ⟨rfl, rfl⟩ := zh15
  have hZ1 := hZ.th (x := 0)
  have hR : MS (ui im 240 8 0) S (ui im 240 8 0) := ⟨hZ1.1, fun _ _ => rfl⟩
  refine pw_if_ne 23 dX5_sackOf_18 (by decide) (fun _ => ?_) (fun h => absurd (by decide) h)
  refine t_aload0 dX5_sackOf_23 ?_
  refine t_iload1 dX5_sackOf_24 ?_
  refine g_callV1P (M_whereIs (l := l) hlt hM hR) rfl ft5 rfl mc_X5_whereIs ml_X5_121 mi_X5_whereIs ms_X5_whereIs in_X5 (okc_X5_whereIs (by decide)) dX5_sackOf_25 (by assumption) (cat_le (Nat.le_of_ble_eq_true rfl)) ?_
  rw [hwh, show oI none = -1 from rfl]
  refine t_istore3 dX5_sackOf_28 (by decide) okp_i ?_
  refine t_iload3 dX5_sackOf_29 ?_
  refine pw_iconst (-1) dX5_sackOf_30 (by decide) ?_
  refine pw_icmp_ne 36 dX5_sackOf_31 (by decide) (fun h => absurd h (by decide)) (fun _ => ?_)
  refine pw_iconst (-1) dX5_sackOf_34 (by decide) ?_
  refine pw_iret dX5_sackOf_35 rfl ?_
  exact ⟨rfl, rfl, rfl, _, rfl, rfl, th_at, hZ.th⟩
set_option maxHeartbeats 4000000 in
set_option maxRecDepth 100000 in
theorem M_sackOfA {l : Launch} (hlt : l.stackTraces = false) {im : TI} {rm : TP} {lm : TL} {Y : TI} {S : CS} {n : Nat} {T : Nat → CS} {sn : Option CS} {bl : Nat} {B : Nat → Int32} (hM : MM rm) (hZ : MZ Y S n T sn bl B im) {x a : Int32} (ha : ¬ (0 ≤ a ∧ a ≤ 4)) : Con l m_X5_sackOf 9 0 0 NN [pv (some 240), .int (x), .int (a)] im rm lm (QI (fun x im2 => im2 240 8 = 1 ∧ MZ Y S n T sn bl B im2) rm lm) noX := by
  have hk0 := kdM
  have hks := kds
  obtain ⟨r0, r1, r3, r5, r6, r11⟩ := id hM
  have hR : MS im S im := ⟨hZ.1, fun _ _ => rfl⟩
  refine Con.ofN (k := 1) (L0 := [some (pv (some 240)), some (.int (x)), some (.int (a)), none]) hlt (by decide +kernel) rfl rfl (by rw [en1 pv_cat, en1 rfl, en1 rfl, en0]; exact Nat.le_of_ble_eq_true rfl) (by rw [en1 pv_cat, en1 rfl, en1 rfl, en0]; rfl) ?_
  refine t_aload0 dX5_sackOf_0 ?_
  refine t_iload2 dX5_sackOf_1 ?_
  refine pw_iconst (0) dX5_sackOf_2 (by decide) ?_
  refine pw_iconst (4) dX5_sackOf_3 (by decide) ?_
  refine g_callS3P (M_in (l := l) hlt) rfl mc_X5_in ml_X5_36 mi_X5_in in_X5 (okc_X5_in (by decide)) dX5_sackOf_4 (cat_le (Nat.le_of_ble_eq_true rfl)) ?_
  rw [bI_f ha]
  refine pw_if_eq 14 dX5_sackOf_7 (by decide) (fun _ => ?_) (fun h => absurd (by decide) h)
  refine pw_iconst (1) dX5_sackOf_14 (by decide) ?_
  refine g_callV1I (M_holds1 (l := l) hlt) rfl ft5 rfl mc_X5_holds ml_X5_98 mi_X5_holds ms_X5_holds in_X5 (okc_X5_holds (by decide)) dX5_sackOf_15 (by assumption) (cat_le (Nat.le_of_ble_eq_true rfl)) (fun zx15 zim15 zh15 => ?_)
  obtain ⟨rfl, rfl⟩ := zh15
  refine pw_if_ne 23 dX5_sackOf_18 (by decide) (fun h => absurd h (by decide)) (fun _ => ?_)
  refine pw_iconst (0) dX5_sackOf_21 (by decide) ?_
  refine pw_iret dX5_sackOf_22 rfl ?_
  exact ⟨rfl, rfl, rfl, _, rfl, th_at, hZ.th⟩
set_option maxHeartbeats 4000000 in
set_option maxRecDepth 100000 in
theorem M_whyNot {l : Launch} (hlt : l.stackTraces = false) {im : TI} {rm : TP} {lm : TL} {Y : TI} {S : CS} {n : Nat} {T : Nat → CS} {sn : Option CS} {bl : Nat} {B : Nat → Int32} (hM : MM rm) (hZ : MZ Y S n T sn bl B im) (hW : CW S) {x : Int32} {m : Nat} (hmo : maO x = some m) : Con l m_X5_whyNot 9 0 0 NN [pv (some 240), .int (x)] im rm lm (QI (fun y im2 => y = rsF S m ∧ im2 240 8 = 0 ∧ MZ Y S n T sn bl B im2) rm lm) noX := by
  have hk0 := kdM
  have hks := kds
  obtain ⟨r0, r1, r3, r5, r6, r11⟩ := id hM
  have hR : MS im S im := ⟨hZ.1, fun _ _ => rfl⟩
  refine Con.ofN (k := 0) (L0 := [some (pv (some 240)), some (.int (x))]) hlt (by decide +kernel) rfl rfl (by rw [en1 pv_cat, en1 rfl, en0]; exact Nat.le_of_ble_eq_true rfl) (by rw [en1 pv_cat, en1 rfl, en0]; rfl) ?_
  obtain ⟨hm, rfl⟩ := maO_some hmo
  refine t_aload0 dX5_whyNot_0 ?_
  refine t_iload1 dX5_whyNot_1 ?_
  refine g_callS1P (M_isMill (l := l) hlt) rfl mc_X5_isMill ml_X5_94 mi_X5_isMill in_X5 (okc_X5_isMill (by decide)) dX5_whyNot_2 (cat_le (Nat.le_of_ble_eq_true rfl)) ?_
  rw [bI_t (ma_in hmo)]
  refine pw_if_eq 12 dX5_whyNot_5 (by decide) (fun h => absurd h (by decide)) (fun _ => ?_)
  refine pw_iconst (0) dX5_whyNot_8 (by decide) ?_
  refine pw_goto 13 dX5_whyNot_9 (by decide) ?_
  refine g_callV1I (M_holdsT (l := l) hlt) rfl ft5 rfl mc_X5_holds ml_X5_98 mi_X5_holds ms_X5_holds in_X5 (okc_X5_holds (by decide)) dX5_whyNot_13 (by assumption) (cat_le (Nat.le_of_ble_eq_true rfl)) (fun zx13 zim13 zh13 => ?_)
  obtain ⟨rfl, rfl⟩ := zh13
  have hZ1 := hZ.th (x := 0)
  have hR : MS (ui im 240 8 0) S (ui im 240 8 0) := ⟨hZ1.1, fun _ _ => rfl⟩
  refine pw_if_eq 27 dX5_whyNot_16 (by decide) (fun h => absurd h (by decide)) (fun _ => ?_)
  refine t_aload0 dX5_whyNot_19 ?_
  refine t_iload1 dX5_whyNot_20 ?_
  refine g_callV1P (M_reason (l := l) hlt hM hR hW.2.1 hm) rfl ft5 rfl mc_X5_reason ml_X5_67 mi_X5_reason ms_X5_reason in_X5 (okc_X5_reason (by decide)) dX5_whyNot_21 (by assumption) (cat_le (Nat.le_of_ble_eq_true rfl)) ?_
  refine pw_goto 28 dX5_whyNot_24 (by decide) ?_
  refine pw_iret dX5_whyNot_28 rfl ?_
  exact ⟨rfl, rfl, rfl, _, rfl, rfl, th_at, hZ.th⟩
set_option maxHeartbeats 4000000 in
set_option maxRecDepth 100000 in
theorem M_whyNotI {l : Launch} (hlt : l.stackTraces = false) {im : TI} {rm : TP} {lm : TL} {Y : TI} {S : CS} {n : Nat} {T : Nat → CS} {sn : Option CS} {bl : Nat} {B : Nat → Int32} (hM : MM rm) (hZ : MZ Y S n T sn bl B im) {x : Int32} (hmo : maO x = none) : Con l m_X5_whyNot 9 0 0 NN [pv (some 240), .int (x)] im rm lm (QI (fun x im2 => im2 240 8 = 1 ∧ MZ Y S n T sn bl B im2) rm lm) noX := by
  have hk0 := kdM
  have hks := kds
  obtain ⟨r0, r1, r3, r5, r6, r11⟩ := id hM
  have hR : MS im S im := ⟨hZ.1, fun _ _ => rfl⟩
  refine Con.ofN (k := 0) (L0 := [some (pv (some 240)), some (.int (x))]) hlt (by decide +kernel) rfl rfl (by rw [en1 pv_cat, en1 rfl, en0]; exact Nat.le_of_ble_eq_true rfl) (by rw [en1 pv_cat, en1 rfl, en0]; rfl) ?_
  refine t_aload0 dX5_whyNot_0 ?_
  refine t_iload1 dX5_whyNot_1 ?_
  refine g_callS1P (M_isMill (l := l) hlt) rfl mc_X5_isMill ml_X5_94 mi_X5_isMill in_X5 (okc_X5_isMill (by decide)) dX5_whyNot_2 (cat_le (Nat.le_of_ble_eq_true rfl)) ?_
  rw [bI_f (ma_out hmo)]
  refine pw_if_eq 12 dX5_whyNot_5 (by decide) (fun _ => ?_) (fun h => absurd (by decide) h)
  refine pw_iconst (1) dX5_whyNot_12 (by decide) ?_
  refine g_callV1I (M_holds1 (l := l) hlt) rfl ft5 rfl mc_X5_holds ml_X5_98 mi_X5_holds ms_X5_holds in_X5 (okc_X5_holds (by decide)) dX5_whyNot_13 (by assumption) (cat_le (Nat.le_of_ble_eq_true rfl)) (fun zx13 zim13 zh13 => ?_)
  obtain ⟨rfl, rfl⟩ := zh13
  refine pw_if_eq 27 dX5_whyNot_16 (by decide) (fun _ => ?_) (fun h => absurd (by decide) h)
  refine pw_iconst (0) dX5_whyNot_27 (by decide) ?_
  refine pw_iret dX5_whyNot_28 rfl ?_
  exact ⟨rfl, rfl, rfl, _, rfl, th_at, hZ.th⟩
set_option maxHeartbeats 4000000 in
set_option maxRecDepth 100000 in
theorem M_tide {l : Launch} (hlt : l.stackTraces = false) {im : TI} {rm : TP} {lm : TL} {Y : TI} {S : CS} {n : Nat} {T : Nat → CS} {sn : Option CS} {bl : Nat} {B : Nat → Int32} (hM : MM rm) (hZ : MZ Y S n T sn bl B im) {x : Int32} (ha : 0 ≤ x) : Con l m_X5_tide 9 0 0 NN [pv (some 240), .int (x)] im rm lm (QI (fun y im2 => y = tdF S x ∧ im2 240 8 = 0 ∧ MZ Y S n T sn bl B im2) rm lm) noX := by
  have hk0 := kdM
  have hks := kds
  obtain ⟨r0, r1, r3, r5, r6, r11⟩ := id hM
  have hR : MS im S im := ⟨hZ.1, fun _ _ => rfl⟩
  refine Con.ofN (k := 0) (L0 := [some (pv (some 240)), some (.int (x))]) hlt (by decide +kernel) rfl rfl (by rw [en1 pv_cat, en1 rfl, en0]; exact Nat.le_of_ble_eq_true rfl) (by rw [en1 pv_cat, en1 rfl, en0]; rfl) ?_
  refine t_aload0 dX5_tide_0 ?_
  refine t_iload1 dX5_tide_1 ?_
  refine pw_if_ge 9 dX5_tide_2 (by decide) (fun zc2 => ?_) (fun zc2 => ?_)
  · refine pw_iconst (0) dX5_tide_9 (by decide) ?_
    refine g_callV1I (M_holdsT (l := l) hlt) rfl ft5 rfl mc_X5_holds ml_X5_98 mi_X5_holds ms_X5_holds in_X5 (okc_X5_holds (by decide)) dX5_tide_10 (by assumption) (cat_le (Nat.le_of_ble_eq_true rfl)) (fun zx10 zim10 zh10 => ?_)
    obtain ⟨rfl, rfl⟩ := zh10
    have hZ1 := hZ.th (x := 0)
    have hR : MS (ui im 240 8 0) S (ui im 240 8 0) := ⟨hZ1.1, fun _ _ => rfl⟩
    refine pw_if_eq 24 dX5_tide_13 (by decide) (fun h => absurd h (by decide)) (fun _ => ?_)
    refine t_aload0 dX5_tide_16 ?_
    refine t_iload1 dX5_tide_17 ?_
    refine g_callV1P (M_tideIn (l := l) hlt hM hR) rfl ft5 rfl mc_X5_tideIn ml_X5_60 mi_X5_tideIn ms_X5_tideIn in_X5 (okc_X5_tideIn (by decide)) dX5_tide_18 (by assumption) (cat_le (Nat.le_of_ble_eq_true rfl)) ?_
    refine pw_goto 25 dX5_tide_21 (by decide) ?_
    refine pw_iret dX5_tide_25 rfl ?_
    exact ⟨rfl, rfl, rfl, _, rfl, rfl, th_at, hZ.th⟩
  · exact absurd ha zc2
set_option maxHeartbeats 4000000 in
set_option maxRecDepth 100000 in
theorem M_tideA {l : Launch} (hlt : l.stackTraces = false) {im : TI} {rm : TP} {lm : TL} {Y : TI} {S : CS} {n : Nat} {T : Nat → CS} {sn : Option CS} {bl : Nat} {B : Nat → Int32} (hM : MM rm) (hZ : MZ Y S n T sn bl B im) {x : Int32} (ha : x < 0) : Con l m_X5_tide 9 0 0 NN [pv (some 240), .int (x)] im rm lm (QI (fun x im2 => im2 240 8 = 1 ∧ MZ Y S n T sn bl B im2) rm lm) noX := by
  have hk0 := kdM
  have hks := kds
  obtain ⟨r0, r1, r3, r5, r6, r11⟩ := id hM
  have hR : MS im S im := ⟨hZ.1, fun _ _ => rfl⟩
  refine Con.ofN (k := 0) (L0 := [some (pv (some 240)), some (.int (x))]) hlt (by decide +kernel) rfl rfl (by rw [en1 pv_cat, en1 rfl, en0]; exact Nat.le_of_ble_eq_true rfl) (by rw [en1 pv_cat, en1 rfl, en0]; rfl) ?_
  refine t_aload0 dX5_tide_0 ?_
  refine t_iload1 dX5_tide_1 ?_
  refine pw_if_ge 9 dX5_tide_2 (by decide) (fun zc2 => ?_) (fun zc2 => ?_)
  · exact absurd ha (Int32.not_lt.mpr zc2)
  · refine pw_iconst (1) dX5_tide_5 (by decide) ?_
    refine pw_goto 10 dX5_tide_6 (by decide) ?_
    refine g_callV1I (M_holds1 (l := l) hlt) rfl ft5 rfl mc_X5_holds ml_X5_98 mi_X5_holds ms_X5_holds in_X5 (okc_X5_holds (by decide)) dX5_tide_10 (by assumption) (cat_le (Nat.le_of_ble_eq_true rfl)) (fun zx10 zim10 zh10 => ?_)
    obtain ⟨rfl, rfl⟩ := zh10
    refine pw_if_eq 24 dX5_tide_13 (by decide) (fun _ => ?_) (fun h => absurd (by decide) h)
    refine pw_iconst (0) dX5_tide_24 (by decide) ?_
    refine pw_iret dX5_tide_25 rfl ?_
    exact ⟨rfl, rfl, rfl, _, rfl, th_at, hZ.th⟩
set_option maxHeartbeats 4000000 in
set_option maxRecDepth 100000 in
theorem M_count {l : Launch} (hlt : l.stackTraces = false) {im : TI} {rm : TP} {lm : TL} {Y : TI} {S : CS} {n : Nat} {T : Nat → CS} {sn : Option CS} {bl : Nat} {B : Nat → Int32} (hM : MM rm) (hZ : MZ Y S n T sn bl B im) {v : Nat} (hv : v ≤ 14) (ha : (0 : Int32) ≤ nI v ∧ nI v ≤ 14) : Con l m_X5_count 9 0 0 NN [pv (some 240), .int (nI v)] im rm lm (QI (fun y im2 => y = alS S n v ∧ im2 240 8 = 0 ∧ MZ Y S n T sn bl B im2) rm lm) noX := by
  have hk0 := kdM
  have hks := kds
  obtain ⟨r0, r1, r3, r5, r6, r11⟩ := id hM
  have hR : MS im S im := ⟨hZ.1, fun _ _ => rfl⟩
  refine Con.ofN (k := 0) (L0 := [some (pv (some 240)), some (.int (nI v))]) hlt (by decide +kernel) rfl rfl (by rw [en1 pv_cat, en1 rfl, en0]; exact Nat.le_of_ble_eq_true rfl) (by rw [en1 pv_cat, en1 rfl, en0]; rfl) ?_
  refine t_aload0 dX5_count_0 ?_
  refine t_iload1 dX5_count_1 ?_
  refine pw_iconst (0) dX5_count_2 (by decide) ?_
  refine pw_bipush (14) dX5_count_3 (by decide) ?_
  refine g_callS3P (M_in (l := l) hlt) rfl mc_X5_in ml_X5_36 mi_X5_in in_X5 (okc_X5_in (by decide)) dX5_count_5 (cat_le (Nat.le_of_ble_eq_true rfl)) ?_
  rw [bI_t ha]
  refine pw_if_eq 15 dX5_count_8 (by decide) (fun h => absurd h (by decide)) (fun _ => ?_)
  refine pw_iconst (0) dX5_count_11 (by decide) ?_
  refine pw_goto 16 dX5_count_12 (by decide) ?_
  refine g_callV1I (M_holdsT (l := l) hlt) rfl ft5 rfl mc_X5_holds ml_X5_98 mi_X5_holds ms_X5_holds in_X5 (okc_X5_holds (by decide)) dX5_count_16 (by assumption) (cat_le (Nat.le_of_ble_eq_true rfl)) (fun zx16 zim16 zh16 => ?_)
  obtain ⟨rfl, rfl⟩ := zh16
  have hZ1 := hZ.th (x := 0)
  have hR : MS (ui im 240 8 0) S (ui im 240 8 0) := ⟨hZ1.1, fun _ _ => rfl⟩
  refine pw_if_eq 30 dX5_count_19 (by decide) (fun h => absurd h (by decide)) (fun _ => ?_)
  refine t_aload0 dX5_count_22 ?_
  refine t_iload1 dX5_count_23 ?_
  refine g_callV1P (M_countTold (l := l) hlt hM hR hZ1.2.1.1 hv) rfl ft5 rfl mc_X5_countTold ml_X5_172 mi_X5_countTold ms_X5_countTold in_X5 (okc_X5_countTold (by decide)) dX5_count_24 (by assumption) (cat_le (Nat.le_of_ble_eq_true rfl)) ?_
  refine pw_goto 31 dX5_count_27 (by decide) ?_
  refine pw_iret dX5_count_31 rfl ?_
  exact ⟨rfl, rfl, rfl, _, rfl, rfl, th_at, hZ.th⟩
set_option maxHeartbeats 4000000 in
set_option maxRecDepth 100000 in
theorem M_countA {l : Launch} (hlt : l.stackTraces = false) {im : TI} {rm : TP} {lm : TL} {Y : TI} {S : CS} {n : Nat} {T : Nat → CS} {sn : Option CS} {bl : Nat} {B : Nat → Int32} (hM : MM rm) (hZ : MZ Y S n T sn bl B im) {x : Int32} (ha : ¬ (0 ≤ x ∧ x ≤ 14)) : Con l m_X5_count 9 0 0 NN [pv (some 240), .int (x)] im rm lm (QI (fun x im2 => im2 240 8 = 1 ∧ MZ Y S n T sn bl B im2) rm lm) noX := by
  have hk0 := kdM
  have hks := kds
  obtain ⟨r0, r1, r3, r5, r6, r11⟩ := id hM
  have hR : MS im S im := ⟨hZ.1, fun _ _ => rfl⟩
  refine Con.ofN (k := 0) (L0 := [some (pv (some 240)), some (.int (x))]) hlt (by decide +kernel) rfl rfl (by rw [en1 pv_cat, en1 rfl, en0]; exact Nat.le_of_ble_eq_true rfl) (by rw [en1 pv_cat, en1 rfl, en0]; rfl) ?_
  refine t_aload0 dX5_count_0 ?_
  refine t_iload1 dX5_count_1 ?_
  refine pw_iconst (0) dX5_count_2 (by decide) ?_
  refine pw_bipush (14) dX5_count_3 (by decide) ?_
  refine g_callS3P (M_in (l := l) hlt) rfl mc_X5_in ml_X5_36 mi_X5_in in_X5 (okc_X5_in (by decide)) dX5_count_5 (cat_le (Nat.le_of_ble_eq_true rfl)) ?_
  rw [bI_f ha]
  refine pw_if_eq 15 dX5_count_8 (by decide) (fun _ => ?_) (fun h => absurd (by decide) h)
  refine pw_iconst (1) dX5_count_15 (by decide) ?_
  refine g_callV1I (M_holds1 (l := l) hlt) rfl ft5 rfl mc_X5_holds ml_X5_98 mi_X5_holds ms_X5_holds in_X5 (okc_X5_holds (by decide)) dX5_count_16 (by assumption) (cat_le (Nat.le_of_ble_eq_true rfl)) (fun zx16 zim16 zh16 => ?_)
  obtain ⟨rfl, rfl⟩ := zh16
  refine pw_if_eq 30 dX5_count_19 (by decide) (fun _ => ?_) (fun h => absurd (by decide) h)
  refine pw_iconst (0) dX5_count_30 (by decide) ?_
  refine pw_iret dX5_count_31 rfl ?_
  exact ⟨rfl, rfl, rfl, _, rfl, th_at, hZ.th⟩
set_option maxHeartbeats 4000000 in
set_option maxRecDepth 100000 in
theorem M_next {l : Launch} (hlt : l.stackTraces = false) {im : TI} {rm : TP} {lm : TL} {Y : TI} {S : CS} {n : Nat} {T : Nat → CS} {sn : Option CS} {bl : Nat} {B : Nat → Int32} (hM : MM rm) (hZ : MZ Y S n T sn bl B im) (hW : CW S) {x : Int32} (ha : 0 ≤ x) : Con l m_X5_next 9 0 0 NN [pv (some 240), .int (x)] im rm lm (QI (fun y im2 => y = oI (rkM S x) ∧ im2 240 8 = 0 ∧ MZ Y S n T sn bl B im2) rm lm) noX := by
  have hk0 := kdM
  have hks := kds
  obtain ⟨r0, r1, r3, r5, r6, r11⟩ := id hM
  have hR : MS im S im := ⟨hZ.1, fun _ _ => rfl⟩
  refine Con.ofN (k := 0) (L0 := [some (pv (some 240)), some (.int (x))]) hlt (by decide +kernel) rfl rfl (by rw [en1 pv_cat, en1 rfl, en0]; exact Nat.le_of_ble_eq_true rfl) (by rw [en1 pv_cat, en1 rfl, en0]; rfl) ?_
  refine t_aload0 dX5_next_0 ?_
  refine t_iload1 dX5_next_1 ?_
  refine pw_if_ge 9 dX5_next_2 (by decide) (fun zc2 => ?_) (fun zc2 => ?_)
  · refine pw_iconst (0) dX5_next_9 (by decide) ?_
    refine g_callV1I (M_holdsT (l := l) hlt) rfl ft5 rfl mc_X5_holds ml_X5_98 mi_X5_holds ms_X5_holds in_X5 (okc_X5_holds (by decide)) dX5_next_10 (by assumption) (cat_le (Nat.le_of_ble_eq_true rfl)) (fun zx10 zim10 zh10 => ?_)
    obtain ⟨rfl, rfl⟩ := zh10
    have hZ1 := hZ.th (x := 0)
    have hR : MS (ui im 240 8 0) S (ui im 240 8 0) := ⟨hZ1.1, fun _ _ => rfl⟩
    refine pw_if_eq 24 dX5_next_13 (by decide) (fun h => absurd h (by decide)) (fun _ => ?_)
    refine t_aload0 dX5_next_16 ?_
    refine t_iload1 dX5_next_17 ?_
    refine g_callV1P (M_ranked (l := l) hlt hM hR hW.1 hW.2.1) rfl ft5 rfl mc_X5_ranked ml_X5_85 mi_X5_ranked ms_X5_ranked in_X5 (okc_X5_ranked (by decide)) dX5_next_18 (by assumption) (cat_le (Nat.le_of_ble_eq_true rfl)) ?_
    refine pw_goto 25 dX5_next_21 (by decide) ?_
    refine pw_iret dX5_next_25 rfl ?_
    exact ⟨rfl, rfl, rfl, _, rfl, rfl, th_at, hZ.th⟩
  · exact absurd ha zc2
set_option maxHeartbeats 4000000 in
set_option maxRecDepth 100000 in
theorem M_nextA {l : Launch} (hlt : l.stackTraces = false) {im : TI} {rm : TP} {lm : TL} {Y : TI} {S : CS} {n : Nat} {T : Nat → CS} {sn : Option CS} {bl : Nat} {B : Nat → Int32} (hM : MM rm) (hZ : MZ Y S n T sn bl B im) {x : Int32} (ha : x < 0) : Con l m_X5_next 9 0 0 NN [pv (some 240), .int (x)] im rm lm (QI (fun x im2 => im2 240 8 = 1 ∧ MZ Y S n T sn bl B im2) rm lm) noX := by
  have hk0 := kdM
  have hks := kds
  obtain ⟨r0, r1, r3, r5, r6, r11⟩ := id hM
  have hR : MS im S im := ⟨hZ.1, fun _ _ => rfl⟩
  refine Con.ofN (k := 0) (L0 := [some (pv (some 240)), some (.int (x))]) hlt (by decide +kernel) rfl rfl (by rw [en1 pv_cat, en1 rfl, en0]; exact Nat.le_of_ble_eq_true rfl) (by rw [en1 pv_cat, en1 rfl, en0]; rfl) ?_
  refine t_aload0 dX5_next_0 ?_
  refine t_iload1 dX5_next_1 ?_
  refine pw_if_ge 9 dX5_next_2 (by decide) (fun zc2 => ?_) (fun zc2 => ?_)
  · exact absurd ha (Int32.not_lt.mpr zc2)
  · refine pw_iconst (1) dX5_next_5 (by decide) ?_
    refine pw_goto 10 dX5_next_6 (by decide) ?_
    refine g_callV1I (M_holds1 (l := l) hlt) rfl ft5 rfl mc_X5_holds ml_X5_98 mi_X5_holds ms_X5_holds in_X5 (okc_X5_holds (by decide)) dX5_next_10 (by assumption) (cat_le (Nat.le_of_ble_eq_true rfl)) (fun zx10 zim10 zh10 => ?_)
    obtain ⟨rfl, rfl⟩ := zh10
    refine pw_if_eq 24 dX5_next_13 (by decide) (fun _ => ?_) (fun h => absurd (by decide) h)
    refine pw_iconst (0) dX5_next_24 (by decide) ?_
    refine pw_iret dX5_next_25 rfl ?_
    exact ⟨rfl, rfl, rfl, _, rfl, th_at, hZ.th⟩
set_option maxHeartbeats 4000000 in
set_option maxRecDepth 100000 in
theorem M_chosen {l : Launch} (hlt : l.stackTraces = false) {im : TI} {rm : TP} {lm : TL} {Y : TI} {S : CS} {n : Nat} {T : Nat → CS} {sn : Option CS} {bl : Nat} {B : Nat → Int32} (hM : MM rm) (hZ : MZ Y S n T sn bl B im) (hW : CW S) : Con l m_X5_chosen 9 0 0 NN [pv (some 240)] im rm lm (QI (fun y im2 => y = oI (rkM S 0) ∧ im2 240 8 = 0 ∧ MZ Y S n T sn bl B im2) rm lm) noX := by
  have hk0 := kdM
  have hks := kds
  obtain ⟨r0, r1, r3, r5, r6, r11⟩ := id hM
  have hR : MS im S im := ⟨hZ.1, fun _ _ => rfl⟩
  refine Con.ofN (k := 0) (L0 := [some (pv (some 240))]) hlt (by decide +kernel) rfl rfl (by rw [en1 pv_cat, en0]; exact Nat.le_of_ble_eq_true rfl) (by rw [en1 pv_cat, en0]; rfl) ?_
  refine t_aload0 dX5_chosen_0 ?_
  refine pw_iconst (0) dX5_chosen_1 (by decide) ?_
  refine g_puti ft5 fl_X5_32 (j := 8) (by decide) ⟨rfl, rfl⟩ dX5_chosen_2 (by assumption) ?_
  have hZ1 := hZ.th (x := 0)
  have hR : MS (ui im 240 8 0) S (ui im 240 8 0) := ⟨hZ1.1, fun _ _ => rfl⟩
  refine t_aload0 dX5_chosen_5 ?_
  refine pw_iconst (0) dX5_chosen_6 (by decide) ?_
  refine g_callV1P (M_ranked (l := l) hlt hM hR hW.1 hW.2.1) rfl ft5 rfl mc_X5_ranked ml_X5_85 mi_X5_ranked ms_X5_ranked in_X5 (okc_X5_ranked (by decide)) dX5_chosen_7 (by assumption) (cat_le (Nat.le_of_ble_eq_true rfl)) ?_
  refine pw_iret dX5_chosen_10 rfl ?_
  exact ⟨rfl, rfl, rfl, _, rfl, rfl, th_at, hZ.th⟩
set_option maxHeartbeats 4000000 in
set_option maxRecDepth 100000 in
theorem M_ifPassed0 {l : Launch} (hlt : l.stackTraces = false) {im : TI} {rm : TP} {lm : TL} {Y : TI} {S : CS} {n : Nat} {T : Nat → CS} {sn : Option CS} {bl : Nat} {B : Nat → Int32} (hM : MM rm) (hZ : MZ Y S n T sn bl B im) (hW : CW S) {N : Nat} (hN : N < 2 ^ 31) (ha : (1 : Int32) ≤ nI N ∧ nI N ≤ 48) : Con l m_X5_ifPassed 9 0 0 NN [pv (some 240), .int (nI N), .int (0)] im rm lm (QI (fun y im2 => y = (hsS N S).1 6 - S.1 6 ∧ im2 240 8 = 0 ∧ MZ Y S n T sn bl B im2) rm lm) noX := by
  have hk0 := kdM
  have hks := kds
  obtain ⟨r0, r1, r3, r5, r6, r11⟩ := id hM
  have hR : MS im S im := ⟨hZ.1, fun _ _ => rfl⟩
  refine Con.ofN (k := 0) (L0 := [some (pv (some 240)), some (.int (nI N)), some (.int (0))]) hlt (by decide +kernel) rfl rfl (by rw [en1 pv_cat, en1 rfl, en1 rfl, en0]; exact Nat.le_of_ble_eq_true rfl) (by rw [en1 pv_cat, en1 rfl, en1 rfl, en0]; rfl) ?_
  refine t_aload0 dX5_ifPassed_0 ?_
  refine t_iload1 dX5_ifPassed_1 ?_
  refine pw_iconst (1) dX5_ifPassed_2 (by decide) ?_
  refine pw_bipush (48) dX5_ifPassed_3 (by decide) ?_
  refine g_callS3P (M_in (l := l) hlt) rfl mc_X5_in ml_X5_36 mi_X5_in in_X5 (okc_X5_in (by decide)) dX5_ifPassed_5 (cat_le (Nat.le_of_ble_eq_true rfl)) ?_
  rw [bI_t ha]
  refine pw_if_eq 24 dX5_ifPassed_8 (by decide) (fun h => absurd h (by decide)) (fun _ => ?_)
  refine t_iload2 dX5_ifPassed_11 ?_
  refine pw_iconst (0) dX5_ifPassed_12 (by decide) ?_
  refine pw_iconst (3) dX5_ifPassed_13 (by decide) ?_
  refine g_callS3P (M_in (l := l) hlt) rfl mc_X5_in ml_X5_36 mi_X5_in in_X5 (okc_X5_in (by decide)) dX5_ifPassed_14 (cat_le (Nat.le_of_ble_eq_true rfl)) ?_
  rw [bI_t (by decide)]
  refine pw_if_eq 24 dX5_ifPassed_17 (by decide) (fun h => absurd h (by decide)) (fun _ => ?_)
  refine pw_iconst (0) dX5_ifPassed_20 (by decide) ?_
  refine pw_goto 25 dX5_ifPassed_21 (by decide) ?_
  refine g_callV1I (M_holdsT (l := l) hlt) rfl ft5 rfl mc_X5_holds ml_X5_98 mi_X5_holds ms_X5_holds in_X5 (okc_X5_holds (by decide)) dX5_ifPassed_25 (by assumption) (cat_le (Nat.le_of_ble_eq_true rfl)) (fun zx25 zim25 zh25 => ?_)
  obtain ⟨rfl, rfl⟩ := zh25
  have hZ1 := hZ.th (x := 0)
  have hR : MS (ui im 240 8 0) S (ui im 240 8 0) := ⟨hZ1.1, fun _ _ => rfl⟩
  refine pw_if_eq 40 dX5_ifPassed_28 (by decide) (fun h => absurd h (by decide)) (fun _ => ?_)
  refine t_aload0 dX5_ifPassed_31 ?_
  refine t_iload1 dX5_ifPassed_32 ?_
  refine t_iload2 dX5_ifPassed_33 ?_
  refine g_callV2I (M_would0 (l := l) hlt hM hZ1.1.mb hW hN) rfl ft5 rfl mc_X5_wouldBring ml_X5_175 mi_X5_wouldBring ms_X5_wouldBring in_X5 (okc_X5_wouldBring (by decide)) dX5_ifPassed_34 (by assumption) (cat_le (Nat.le_of_ble_eq_true rfl)) (fun zx34 zim34 zh34 => ?_)
  refine pw_goto 41 dX5_ifPassed_37 (by decide) ?_
  refine pw_iret dX5_ifPassed_41 rfl ?_
  exact ⟨rfl, rfl, rfl, _, rfl, zh34.1, (congrFun (zh34.2.2 240 (by decide) (by decide)) 8).trans th_at, hZ1.tri zh34.2⟩
set_option maxHeartbeats 4000000 in
set_option maxRecDepth 100000 in
theorem M_ifPassed1 {l : Launch} (hlt : l.stackTraces = false) {im : TI} {rm : TP} {lm : TL} {Y : TI} {S : CS} {n : Nat} {T : Nat → CS} {sn : Option CS} {bl : Nat} {B : Nat → Int32} (hM : MM rm) (hZ : MZ Y S n T sn bl B im) (hW : CW S) {N : Nat} (hN : N < 2 ^ 31) (ha : (1 : Int32) ≤ nI N ∧ nI N ≤ 48) : Con l m_X5_ifPassed 9 0 0 NN [pv (some 240), .int (nI N), .int (1)] im rm lm (QI (fun y im2 => y = (hsS N S).1 7 - S.1 7 ∧ im2 240 8 = 0 ∧ MZ Y S n T sn bl B im2) rm lm) noX := by
  have hk0 := kdM
  have hks := kds
  obtain ⟨r0, r1, r3, r5, r6, r11⟩ := id hM
  have hR : MS im S im := ⟨hZ.1, fun _ _ => rfl⟩
  refine Con.ofN (k := 0) (L0 := [some (pv (some 240)), some (.int (nI N)), some (.int (1))]) hlt (by decide +kernel) rfl rfl (by rw [en1 pv_cat, en1 rfl, en1 rfl, en0]; exact Nat.le_of_ble_eq_true rfl) (by rw [en1 pv_cat, en1 rfl, en1 rfl, en0]; rfl) ?_
  refine t_aload0 dX5_ifPassed_0 ?_
  refine t_iload1 dX5_ifPassed_1 ?_
  refine pw_iconst (1) dX5_ifPassed_2 (by decide) ?_
  refine pw_bipush (48) dX5_ifPassed_3 (by decide) ?_
  refine g_callS3P (M_in (l := l) hlt) rfl mc_X5_in ml_X5_36 mi_X5_in in_X5 (okc_X5_in (by decide)) dX5_ifPassed_5 (cat_le (Nat.le_of_ble_eq_true rfl)) ?_
  rw [bI_t ha]
  refine pw_if_eq 24 dX5_ifPassed_8 (by decide) (fun h => absurd h (by decide)) (fun _ => ?_)
  refine t_iload2 dX5_ifPassed_11 ?_
  refine pw_iconst (0) dX5_ifPassed_12 (by decide) ?_
  refine pw_iconst (3) dX5_ifPassed_13 (by decide) ?_
  refine g_callS3P (M_in (l := l) hlt) rfl mc_X5_in ml_X5_36 mi_X5_in in_X5 (okc_X5_in (by decide)) dX5_ifPassed_14 (cat_le (Nat.le_of_ble_eq_true rfl)) ?_
  rw [bI_t (by decide)]
  refine pw_if_eq 24 dX5_ifPassed_17 (by decide) (fun h => absurd h (by decide)) (fun _ => ?_)
  refine pw_iconst (0) dX5_ifPassed_20 (by decide) ?_
  refine pw_goto 25 dX5_ifPassed_21 (by decide) ?_
  refine g_callV1I (M_holdsT (l := l) hlt) rfl ft5 rfl mc_X5_holds ml_X5_98 mi_X5_holds ms_X5_holds in_X5 (okc_X5_holds (by decide)) dX5_ifPassed_25 (by assumption) (cat_le (Nat.le_of_ble_eq_true rfl)) (fun zx25 zim25 zh25 => ?_)
  obtain ⟨rfl, rfl⟩ := zh25
  have hZ1 := hZ.th (x := 0)
  have hR : MS (ui im 240 8 0) S (ui im 240 8 0) := ⟨hZ1.1, fun _ _ => rfl⟩
  refine pw_if_eq 40 dX5_ifPassed_28 (by decide) (fun h => absurd h (by decide)) (fun _ => ?_)
  refine t_aload0 dX5_ifPassed_31 ?_
  refine t_iload1 dX5_ifPassed_32 ?_
  refine t_iload2 dX5_ifPassed_33 ?_
  refine g_callV2I (M_would1 (l := l) hlt hM hZ1.1.mb hW hN) rfl ft5 rfl mc_X5_wouldBring ml_X5_175 mi_X5_wouldBring ms_X5_wouldBring in_X5 (okc_X5_wouldBring (by decide)) dX5_ifPassed_34 (by assumption) (cat_le (Nat.le_of_ble_eq_true rfl)) (fun zx34 zim34 zh34 => ?_)
  refine pw_goto 41 dX5_ifPassed_37 (by decide) ?_
  refine pw_iret dX5_ifPassed_41 rfl ?_
  exact ⟨rfl, rfl, rfl, _, rfl, zh34.1, (congrFun (zh34.2.2 240 (by decide) (by decide)) 8).trans th_at, hZ1.tri zh34.2⟩
set_option maxHeartbeats 4000000 in
set_option maxRecDepth 100000 in
theorem M_ifPassed2 {l : Launch} (hlt : l.stackTraces = false) {im : TI} {rm : TP} {lm : TL} {Y : TI} {S : CS} {n : Nat} {T : Nat → CS} {sn : Option CS} {bl : Nat} {B : Nat → Int32} (hM : MM rm) (hZ : MZ Y S n T sn bl B im) (hW : CW S) {N : Nat} (hN : N < 2 ^ 31) (ha : (1 : Int32) ≤ nI N ∧ nI N ≤ 48) : Con l m_X5_ifPassed 9 0 0 NN [pv (some 240), .int (nI N), .int (2)] im rm lm (QI (fun y im2 => y = (hsS N S).1 2 - S.1 2 ∧ im2 240 8 = 0 ∧ MZ Y S n T sn bl B im2) rm lm) noX := by
  have hk0 := kdM
  have hks := kds
  obtain ⟨r0, r1, r3, r5, r6, r11⟩ := id hM
  have hR : MS im S im := ⟨hZ.1, fun _ _ => rfl⟩
  refine Con.ofN (k := 0) (L0 := [some (pv (some 240)), some (.int (nI N)), some (.int (2))]) hlt (by decide +kernel) rfl rfl (by rw [en1 pv_cat, en1 rfl, en1 rfl, en0]; exact Nat.le_of_ble_eq_true rfl) (by rw [en1 pv_cat, en1 rfl, en1 rfl, en0]; rfl) ?_
  refine t_aload0 dX5_ifPassed_0 ?_
  refine t_iload1 dX5_ifPassed_1 ?_
  refine pw_iconst (1) dX5_ifPassed_2 (by decide) ?_
  refine pw_bipush (48) dX5_ifPassed_3 (by decide) ?_
  refine g_callS3P (M_in (l := l) hlt) rfl mc_X5_in ml_X5_36 mi_X5_in in_X5 (okc_X5_in (by decide)) dX5_ifPassed_5 (cat_le (Nat.le_of_ble_eq_true rfl)) ?_
  rw [bI_t ha]
  refine pw_if_eq 24 dX5_ifPassed_8 (by decide) (fun h => absurd h (by decide)) (fun _ => ?_)
  refine t_iload2 dX5_ifPassed_11 ?_
  refine pw_iconst (0) dX5_ifPassed_12 (by decide) ?_
  refine pw_iconst (3) dX5_ifPassed_13 (by decide) ?_
  refine g_callS3P (M_in (l := l) hlt) rfl mc_X5_in ml_X5_36 mi_X5_in in_X5 (okc_X5_in (by decide)) dX5_ifPassed_14 (cat_le (Nat.le_of_ble_eq_true rfl)) ?_
  rw [bI_t (by decide)]
  refine pw_if_eq 24 dX5_ifPassed_17 (by decide) (fun h => absurd h (by decide)) (fun _ => ?_)
  refine pw_iconst (0) dX5_ifPassed_20 (by decide) ?_
  refine pw_goto 25 dX5_ifPassed_21 (by decide) ?_
  refine g_callV1I (M_holdsT (l := l) hlt) rfl ft5 rfl mc_X5_holds ml_X5_98 mi_X5_holds ms_X5_holds in_X5 (okc_X5_holds (by decide)) dX5_ifPassed_25 (by assumption) (cat_le (Nat.le_of_ble_eq_true rfl)) (fun zx25 zim25 zh25 => ?_)
  obtain ⟨rfl, rfl⟩ := zh25
  have hZ1 := hZ.th (x := 0)
  have hR : MS (ui im 240 8 0) S (ui im 240 8 0) := ⟨hZ1.1, fun _ _ => rfl⟩
  refine pw_if_eq 40 dX5_ifPassed_28 (by decide) (fun h => absurd h (by decide)) (fun _ => ?_)
  refine t_aload0 dX5_ifPassed_31 ?_
  refine t_iload1 dX5_ifPassed_32 ?_
  refine t_iload2 dX5_ifPassed_33 ?_
  refine g_callV2I (M_would2 (l := l) hlt hM hZ1.1.mb hW hN) rfl ft5 rfl mc_X5_wouldBring ml_X5_175 mi_X5_wouldBring ms_X5_wouldBring in_X5 (okc_X5_wouldBring (by decide)) dX5_ifPassed_34 (by assumption) (cat_le (Nat.le_of_ble_eq_true rfl)) (fun zx34 zim34 zh34 => ?_)
  refine pw_goto 41 dX5_ifPassed_37 (by decide) ?_
  refine pw_iret dX5_ifPassed_41 rfl ?_
  exact ⟨rfl, rfl, rfl, _, rfl, zh34.1, (congrFun (zh34.2.2 240 (by decide) (by decide)) 8).trans th_at, hZ1.tri zh34.2⟩
set_option maxHeartbeats 4000000 in
set_option maxRecDepth 100000 in
theorem M_ifPassed3 {l : Launch} (hlt : l.stackTraces = false) {im : TI} {rm : TP} {lm : TL} {Y : TI} {S : CS} {n : Nat} {T : Nat → CS} {sn : Option CS} {bl : Nat} {B : Nat → Int32} (hM : MM rm) (hZ : MZ Y S n T sn bl B im) (hW : CW S) {N : Nat} (hN : N < 2 ^ 31) (ha : (1 : Int32) ≤ nI N ∧ nI N ≤ 48) : Con l m_X5_ifPassed 9 0 0 NN [pv (some 240), .int (nI N), .int (3)] im rm lm (QI (fun y im2 => y = (hsS N S).1 4 - S.1 4 ∧ im2 240 8 = 0 ∧ MZ Y S n T sn bl B im2) rm lm) noX := by
  have hk0 := kdM
  have hks := kds
  obtain ⟨r0, r1, r3, r5, r6, r11⟩ := id hM
  have hR : MS im S im := ⟨hZ.1, fun _ _ => rfl⟩
  refine Con.ofN (k := 0) (L0 := [some (pv (some 240)), some (.int (nI N)), some (.int (3))]) hlt (by decide +kernel) rfl rfl (by rw [en1 pv_cat, en1 rfl, en1 rfl, en0]; exact Nat.le_of_ble_eq_true rfl) (by rw [en1 pv_cat, en1 rfl, en1 rfl, en0]; rfl) ?_
  refine t_aload0 dX5_ifPassed_0 ?_
  refine t_iload1 dX5_ifPassed_1 ?_
  refine pw_iconst (1) dX5_ifPassed_2 (by decide) ?_
  refine pw_bipush (48) dX5_ifPassed_3 (by decide) ?_
  refine g_callS3P (M_in (l := l) hlt) rfl mc_X5_in ml_X5_36 mi_X5_in in_X5 (okc_X5_in (by decide)) dX5_ifPassed_5 (cat_le (Nat.le_of_ble_eq_true rfl)) ?_
  rw [bI_t ha]
  refine pw_if_eq 24 dX5_ifPassed_8 (by decide) (fun h => absurd h (by decide)) (fun _ => ?_)
  refine t_iload2 dX5_ifPassed_11 ?_
  refine pw_iconst (0) dX5_ifPassed_12 (by decide) ?_
  refine pw_iconst (3) dX5_ifPassed_13 (by decide) ?_
  refine g_callS3P (M_in (l := l) hlt) rfl mc_X5_in ml_X5_36 mi_X5_in in_X5 (okc_X5_in (by decide)) dX5_ifPassed_14 (cat_le (Nat.le_of_ble_eq_true rfl)) ?_
  rw [bI_t (by decide)]
  refine pw_if_eq 24 dX5_ifPassed_17 (by decide) (fun h => absurd h (by decide)) (fun _ => ?_)
  refine pw_iconst (0) dX5_ifPassed_20 (by decide) ?_
  refine pw_goto 25 dX5_ifPassed_21 (by decide) ?_
  refine g_callV1I (M_holdsT (l := l) hlt) rfl ft5 rfl mc_X5_holds ml_X5_98 mi_X5_holds ms_X5_holds in_X5 (okc_X5_holds (by decide)) dX5_ifPassed_25 (by assumption) (cat_le (Nat.le_of_ble_eq_true rfl)) (fun zx25 zim25 zh25 => ?_)
  obtain ⟨rfl, rfl⟩ := zh25
  have hZ1 := hZ.th (x := 0)
  have hR : MS (ui im 240 8 0) S (ui im 240 8 0) := ⟨hZ1.1, fun _ _ => rfl⟩
  refine pw_if_eq 40 dX5_ifPassed_28 (by decide) (fun h => absurd h (by decide)) (fun _ => ?_)
  refine t_aload0 dX5_ifPassed_31 ?_
  refine t_iload1 dX5_ifPassed_32 ?_
  refine t_iload2 dX5_ifPassed_33 ?_
  refine g_callV2I (M_would3 (l := l) hlt hM hZ1.1.mb hW hN) rfl ft5 rfl mc_X5_wouldBring ml_X5_175 mi_X5_wouldBring ms_X5_wouldBring in_X5 (okc_X5_wouldBring (by decide)) dX5_ifPassed_34 (by assumption) (cat_le (Nat.le_of_ble_eq_true rfl)) (fun zx34 zim34 zh34 => ?_)
  refine pw_goto 41 dX5_ifPassed_37 (by decide) ?_
  refine pw_iret dX5_ifPassed_41 rfl ?_
  exact ⟨rfl, rfl, rfl, _, rfl, zh34.1, (congrFun (zh34.2.2 240 (by decide) (by decide)) 8).trans th_at, hZ1.tri zh34.2⟩
set_option maxHeartbeats 4000000 in
set_option maxRecDepth 100000 in
theorem M_ifPassedA1 {l : Launch} (hlt : l.stackTraces = false) {im : TI} {rm : TP} {lm : TL} {Y : TI} {S : CS} {n : Nat} {T : Nat → CS} {sn : Option CS} {bl : Nat} {B : Nat → Int32} (hM : MM rm) (hZ : MZ Y S n T sn bl B im) {x a : Int32} (ha : ¬ (1 ≤ x ∧ x ≤ 48)) : Con l m_X5_ifPassed 9 0 0 NN [pv (some 240), .int (x), .int (a)] im rm lm (QI (fun x im2 => im2 240 8 = 1 ∧ MZ Y S n T sn bl B im2) rm lm) noX := by
  have hk0 := kdM
  have hks := kds
  obtain ⟨r0, r1, r3, r5, r6, r11⟩ := id hM
  have hR : MS im S im := ⟨hZ.1, fun _ _ => rfl⟩
  refine Con.ofN (k := 0) (L0 := [some (pv (some 240)), some (.int (x)), some (.int (a))]) hlt (by decide +kernel) rfl rfl (by rw [en1 pv_cat, en1 rfl, en1 rfl, en0]; exact Nat.le_of_ble_eq_true rfl) (by rw [en1 pv_cat, en1 rfl, en1 rfl, en0]; rfl) ?_
  refine t_aload0 dX5_ifPassed_0 ?_
  refine t_iload1 dX5_ifPassed_1 ?_
  refine pw_iconst (1) dX5_ifPassed_2 (by decide) ?_
  refine pw_bipush (48) dX5_ifPassed_3 (by decide) ?_
  refine g_callS3P (M_in (l := l) hlt) rfl mc_X5_in ml_X5_36 mi_X5_in in_X5 (okc_X5_in (by decide)) dX5_ifPassed_5 (cat_le (Nat.le_of_ble_eq_true rfl)) ?_
  rw [bI_f ha]
  refine pw_if_eq 24 dX5_ifPassed_8 (by decide) (fun _ => ?_) (fun h => absurd (by decide) h)
  refine pw_iconst (1) dX5_ifPassed_24 (by decide) ?_
  refine g_callV1I (M_holds1 (l := l) hlt) rfl ft5 rfl mc_X5_holds ml_X5_98 mi_X5_holds ms_X5_holds in_X5 (okc_X5_holds (by decide)) dX5_ifPassed_25 (by assumption) (cat_le (Nat.le_of_ble_eq_true rfl)) (fun zx25 zim25 zh25 => ?_)
  obtain ⟨rfl, rfl⟩ := zh25
  refine pw_if_eq 40 dX5_ifPassed_28 (by decide) (fun _ => ?_) (fun h => absurd (by decide) h)
  refine pw_iconst (0) dX5_ifPassed_40 (by decide) ?_
  refine pw_iret dX5_ifPassed_41 rfl ?_
  exact ⟨rfl, rfl, rfl, _, rfl, th_at, hZ.th⟩
set_option maxHeartbeats 4000000 in
set_option maxRecDepth 100000 in
theorem M_ifPassedA2 {l : Launch} (hlt : l.stackTraces = false) {im : TI} {rm : TP} {lm : TL} {Y : TI} {S : CS} {n : Nat} {T : Nat → CS} {sn : Option CS} {bl : Nat} {B : Nat → Int32} (hM : MM rm) (hZ : MZ Y S n T sn bl B im) {x a : Int32} (ha : (1 : Int32) ≤ x ∧ x ≤ 48) (hb : ¬ (0 ≤ a ∧ a ≤ 3)) : Con l m_X5_ifPassed 9 0 0 NN [pv (some 240), .int (x), .int (a)] im rm lm (QI (fun x im2 => im2 240 8 = 1 ∧ MZ Y S n T sn bl B im2) rm lm) noX := by
  have hk0 := kdM
  have hks := kds
  obtain ⟨r0, r1, r3, r5, r6, r11⟩ := id hM
  have hR : MS im S im := ⟨hZ.1, fun _ _ => rfl⟩
  refine Con.ofN (k := 0) (L0 := [some (pv (some 240)), some (.int (x)), some (.int (a))]) hlt (by decide +kernel) rfl rfl (by rw [en1 pv_cat, en1 rfl, en1 rfl, en0]; exact Nat.le_of_ble_eq_true rfl) (by rw [en1 pv_cat, en1 rfl, en1 rfl, en0]; rfl) ?_
  refine t_aload0 dX5_ifPassed_0 ?_
  refine t_iload1 dX5_ifPassed_1 ?_
  refine pw_iconst (1) dX5_ifPassed_2 (by decide) ?_
  refine pw_bipush (48) dX5_ifPassed_3 (by decide) ?_
  refine g_callS3P (M_in (l := l) hlt) rfl mc_X5_in ml_X5_36 mi_X5_in in_X5 (okc_X5_in (by decide)) dX5_ifPassed_5 (cat_le (Nat.le_of_ble_eq_true rfl)) ?_
  rw [bI_t ha]
  refine pw_if_eq 24 dX5_ifPassed_8 (by decide) (fun h => absurd h (by decide)) (fun _ => ?_)
  refine t_iload2 dX5_ifPassed_11 ?_
  refine pw_iconst (0) dX5_ifPassed_12 (by decide) ?_
  refine pw_iconst (3) dX5_ifPassed_13 (by decide) ?_
  refine g_callS3P (M_in (l := l) hlt) rfl mc_X5_in ml_X5_36 mi_X5_in in_X5 (okc_X5_in (by decide)) dX5_ifPassed_14 (cat_le (Nat.le_of_ble_eq_true rfl)) ?_
  rw [bI_f hb]
  refine pw_if_eq 24 dX5_ifPassed_17 (by decide) (fun _ => ?_) (fun h => absurd (by decide) h)
  refine pw_iconst (1) dX5_ifPassed_24 (by decide) ?_
  refine g_callV1I (M_holds1 (l := l) hlt) rfl ft5 rfl mc_X5_holds ml_X5_98 mi_X5_holds ms_X5_holds in_X5 (okc_X5_holds (by decide)) dX5_ifPassed_25 (by assumption) (cat_le (Nat.le_of_ble_eq_true rfl)) (fun zx25 zim25 zh25 => ?_)
  obtain ⟨rfl, rfl⟩ := zh25
  refine pw_if_eq 40 dX5_ifPassed_28 (by decide) (fun _ => ?_) (fun h => absurd (by decide) h)
  refine pw_iconst (0) dX5_ifPassed_40 (by decide) ?_
  refine pw_iret dX5_ifPassed_41 rfl ?_
  exact ⟨rfl, rfl, rfl, _, rfl, th_at, hZ.th⟩
set_option maxHeartbeats 4000000 in
set_option maxRecDepth 100000 in
theorem M_groundIn {l : Launch} (hlt : l.stackTraces = false) {im : TI} {rm : TP} {lm : TL} {Y : TI} {S : CS} {n : Nat} {T : Nat → CS} {sn : Option CS} {bl : Nat} {B : Nat → Int32} (hM : MM rm) (hZ : MZ Y S n T sn bl B im) (hW : CW S) {x : Int32} : Con l m_X5_groundIn 9 0 0 NN [pv (some 240), .int (x)] im rm lm (QI (fun y im2 => y = oI (gmS S x) ∧ im2 240 8 = 0 ∧ MZ Y S n T sn bl B im2) rm lm) noX := by
  have hk0 := kdM
  have hks := kds
  obtain ⟨r0, r1, r3, r5, r6, r11⟩ := id hM
  have hR : MS im S im := ⟨hZ.1, fun _ _ => rfl⟩
  refine Con.ofN (k := 0) (L0 := [some (pv (some 240)), some (.int (x))]) hlt (by decide +kernel) rfl rfl (by rw [en1 pv_cat, en1 rfl, en0]; exact Nat.le_of_ble_eq_true rfl) (by rw [en1 pv_cat, en1 rfl, en0]; rfl) ?_
  refine t_aload0 dX5_groundIn_0 ?_
  refine pw_iconst (0) dX5_groundIn_1 (by decide) ?_
  refine g_puti ft5 fl_X5_32 (j := 8) (by decide) ⟨rfl, rfl⟩ dX5_groundIn_2 (by assumption) ?_
  have hZ1 := hZ.th (x := 0)
  have hR : MS (ui im 240 8 0) S (ui im 240 8 0) := ⟨hZ1.1, fun _ _ => rfl⟩
  refine t_aload0 dX5_groundIn_5 ?_
  refine t_iload1 dX5_groundIn_6 ?_
  refine g_callV1I (M_ground (l := l) hlt hM hZ1.1.mb hW) rfl ft5 rfl mc_X5_groundBehind ml_X5_178 mi_X5_groundBehind ms_X5_groundBehind in_X5 (okc_X5_groundBehind (by decide)) dX5_groundIn_7 (by assumption) (cat_le (Nat.le_of_ble_eq_true rfl)) (fun zx7 zim7 zh7 => ?_)
  refine pw_iret dX5_groundIn_10 rfl ?_
  exact ⟨rfl, rfl, rfl, _, rfl, zh7.1, (congrFun (zh7.2.2 240 (by decide) (by decide)) 8).trans th_at, hZ1.tri zh7.2⟩
set_option maxHeartbeats 4000000 in
set_option maxRecDepth 100000 in
theorem M_bestStone {l : Launch} (hlt : l.stackTraces = false) {im : TI} {rm : TP} {lm : TL} {Y : TI} {S : CS} {n : Nat} {T : Nat → CS} {sn : Option CS} {bl : Nat} {B : Nat → Int32} (hM : MM rm) (hZ : MZ Y S n T sn bl B im) (hW : CW S) {x : Int32} {m : Nat} (hmo : maO x = some m) : Con l m_X5_bestStone 9 0 0 NN [pv (some 240), .int (x)] im rm lm (QI (fun y im2 => y = bmN S m 14 0 0 0 ∧ im2 240 8 = 0 ∧ MZ Y S n T sn bl B im2) rm lm) noX := by
  have hk0 := kdM
  have hks := kds
  obtain ⟨r0, r1, r3, r5, r6, r11⟩ := id hM
  have hR : MS im S im := ⟨hZ.1, fun _ _ => rfl⟩
  refine Con.ofN (k := 0) (L0 := [some (pv (some 240)), some (.int (x))]) hlt (by decide +kernel) rfl rfl (by rw [en1 pv_cat, en1 rfl, en0]; exact Nat.le_of_ble_eq_true rfl) (by rw [en1 pv_cat, en1 rfl, en0]; rfl) ?_
  obtain ⟨hm, rfl⟩ := maO_some hmo
  refine t_aload0 dX5_bestStone_0 ?_
  refine t_iload1 dX5_bestStone_1 ?_
  refine g_callS1P (M_isMill (l := l) hlt) rfl mc_X5_isMill ml_X5_94 mi_X5_isMill in_X5 (okc_X5_isMill (by decide)) dX5_bestStone_2 (cat_le (Nat.le_of_ble_eq_true rfl)) ?_
  rw [bI_t (ma_in hmo)]
  refine pw_if_eq 12 dX5_bestStone_5 (by decide) (fun h => absurd h (by decide)) (fun _ => ?_)
  refine pw_iconst (0) dX5_bestStone_8 (by decide) ?_
  refine pw_goto 13 dX5_bestStone_9 (by decide) ?_
  refine g_callV1I (M_holdsT (l := l) hlt) rfl ft5 rfl mc_X5_holds ml_X5_98 mi_X5_holds ms_X5_holds in_X5 (okc_X5_holds (by decide)) dX5_bestStone_13 (by assumption) (cat_le (Nat.le_of_ble_eq_true rfl)) (fun zx13 zim13 zh13 => ?_)
  obtain ⟨rfl, rfl⟩ := zh13
  have hZ1 := hZ.th (x := 0)
  have hR : MS (ui im 240 8 0) S (ui im 240 8 0) := ⟨hZ1.1, fun _ _ => rfl⟩
  refine pw_if_eq 27 dX5_bestStone_16 (by decide) (fun h => absurd h (by decide)) (fun _ => ?_)
  refine t_aload0 dX5_bestStone_19 ?_
  refine t_iload1 dX5_bestStone_20 ?_
  refine g_callV1I (M_best (l := l) hlt hM hZ1.1.mb hW (m := m) hm) rfl ft5 rfl mc_X5_bestFor ml_X5_185 mi_X5_bestFor ms_X5_bestFor in_X5 (okc_X5_bestFor (by decide)) dX5_bestStone_21 (by assumption) (cat_le (Nat.le_of_ble_eq_true rfl)) (fun zx21 zim21 zh21 => ?_)
  refine pw_goto 28 dX5_bestStone_24 (by decide) ?_
  refine pw_iret dX5_bestStone_28 rfl ?_
  exact ⟨rfl, rfl, rfl, _, rfl, zh21.1, (congrFun (zh21.2.2 240 (by decide) (by decide)) 8).trans th_at, hZ1.tri zh21.2⟩
set_option maxHeartbeats 4000000 in
set_option maxRecDepth 100000 in
theorem M_bestStoneI {l : Launch} (hlt : l.stackTraces = false) {im : TI} {rm : TP} {lm : TL} {Y : TI} {S : CS} {n : Nat} {T : Nat → CS} {sn : Option CS} {bl : Nat} {B : Nat → Int32} (hM : MM rm) (hZ : MZ Y S n T sn bl B im) {x : Int32} (hmo : maO x = none) : Con l m_X5_bestStone 9 0 0 NN [pv (some 240), .int (x)] im rm lm (QI (fun x im2 => im2 240 8 = 1 ∧ MZ Y S n T sn bl B im2) rm lm) noX := by
  have hk0 := kdM
  have hks := kds
  obtain ⟨r0, r1, r3, r5, r6, r11⟩ := id hM
  have hR : MS im S im := ⟨hZ.1, fun _ _ => rfl⟩
  refine Con.ofN (k := 0) (L0 := [some (pv (some 240)), some (.int (x))]) hlt (by decide +kernel) rfl rfl (by rw [en1 pv_cat, en1 rfl, en0]; exact Nat.le_of_ble_eq_true rfl) (by rw [en1 pv_cat, en1 rfl, en0]; rfl) ?_
  refine t_aload0 dX5_bestStone_0 ?_
  refine t_iload1 dX5_bestStone_1 ?_
  refine g_callS1P (M_isMill (l := l) hlt) rfl mc_X5_isMill ml_X5_94 mi_X5_isMill in_X5 (okc_X5_isMill (by decide)) dX5_bestStone_2 (cat_le (Nat.le_of_ble_eq_true rfl)) ?_
  rw [bI_f (ma_out hmo)]
  refine pw_if_eq 12 dX5_bestStone_5 (by decide) (fun _ => ?_) (fun h => absurd (by decide) h)
  refine pw_iconst (1) dX5_bestStone_12 (by decide) ?_
  refine g_callV1I (M_holds1 (l := l) hlt) rfl ft5 rfl mc_X5_holds ml_X5_98 mi_X5_holds ms_X5_holds in_X5 (okc_X5_holds (by decide)) dX5_bestStone_13 (by assumption) (cat_le (Nat.le_of_ble_eq_true rfl)) (fun zx13 zim13 zh13 => ?_)
  obtain ⟨rfl, rfl⟩ := zh13
  refine pw_if_eq 27 dX5_bestStone_16 (by decide) (fun _ => ?_) (fun h => absurd (by decide) h)
  refine pw_iconst (0) dX5_bestStone_27 (by decide) ?_
  refine pw_iret dX5_bestStone_28 rfl ?_
  exact ⟨rfl, rfl, rfl, _, rfl, th_at, hZ.th⟩

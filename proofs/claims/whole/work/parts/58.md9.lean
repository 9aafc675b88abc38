/-! TideMillsModel: its public methods that change it -/
theorem MZ.th {Y : TI} {S : CS} {n : Nat} {T : Nat → CS} {sn : Option CS} {bl : Nat} {B : Nat → Int32} {im : TI} {x : Int32} (h : MZ Y S n T sn bl B im) : MZ Y S n T sn bl B (ui im 240 8 x) :=
  h.keep (fun o ho => ui_ne (by omega)) fun j hj => by rw [ui_at, if_neg (by omega)]
theorem th_at {im : TI} {x : Int32} : (ui im 240 8 x) 240 8 = x := by rw [ui_at, if_pos rfl]
theorem ma_in {x : Int32} {m : Nat} (h : maO x = some m) : 0 ≤ x ∧ x ≤ 4 := by
  obtain ⟨h1, rfl⟩ := maO_some h
  exact ⟨nI_pos' (by omega), (nI_leI (b := 4) (by omega) (by decide)).mpr (by omega)⟩
theorem ma_out {x : Int32} (h : maO x = none) : ¬ (0 ≤ x ∧ x ≤ 4) := fun z => by
  obtain ⟨j, hj, rfl⟩ := nI_of (x := x) (Int32.not_lt.mpr z.1)
  have h4 := (nI_leI (b := 4) hj (by decide)).mp z.2
  exact maO_none h j (by omega) rfl
set_option maxHeartbeats 4000000 in
set_option maxRecDepth 100000 in
theorem M_holdsT {l : Launch} (hlt : l.stackTraces = false) {im : TI} {rm : TP} {lm : TL}  : Con l m_X5_holds 0 0 0 NN [pv (some 240), .int (0)] im rm lm (QI (fun x im2 => x = 1 ∧ im2 = ui im 240 8 0) rm lm) noX := by
  have hk0 := kdM
  refine Con.ofN (k := 0) (L0 := [some (pv (some 240)), some (.int (0))]) hlt (by decide +kernel) rfl rfl (by rw [en1 pv_cat, en1 rfl, en0]; exact Nat.le_of_ble_eq_true rfl) (by rw [en1 pv_cat, en1 rfl, en0]; rfl) ?_
  refine t_aload0 dX5_holds_0 ?_
  refine t_iload1 dX5_holds_1 ?_
  refine g_puti ft5 fl_X5_32 (j := 8) (by decide) ⟨rfl, rfl⟩ dX5_holds_2 (by assumption) ?_
  refine t_iload1 dX5_holds_5 ?_
  refine pw_if_ne 13 dX5_holds_6 (by decide) (fun h => absurd h (by decide)) (fun _ => ?_)
  refine pw_iconst (1) dX5_holds_9 (by decide) ?_
  refine pw_goto 14 dX5_holds_10 (by decide) ?_
  refine pw_zret dX5_holds_14 rfl ?_ ?_
  · first | rfl | exact bI_n
  · exact ⟨rfl, rfl, rfl, _, rfl, rfl, rfl⟩
set_option maxHeartbeats 4000000 in
set_option maxRecDepth 100000 in
theorem M_holds1 {l : Launch} (hlt : l.stackTraces = false) {im : TI} {rm : TP} {lm : TL}  : Con l m_X5_holds 0 0 0 NN [pv (some 240), .int (1)] im rm lm (QI (fun x im2 => x = 0 ∧ im2 = ui im 240 8 1) rm lm) noX := by
  have hk0 := kdM
  refine Con.ofN (k := 0) (L0 := [some (pv (some 240)), some (.int (1))]) hlt (by decide +kernel) rfl rfl (by rw [en1 pv_cat, en1 rfl, en0]; exact Nat.le_of_ble_eq_true rfl) (by rw [en1 pv_cat, en1 rfl, en0]; rfl) ?_
  refine t_aload0 dX5_holds_0 ?_
  refine t_iload1 dX5_holds_1 ?_
  refine g_puti ft5 fl_X5_32 (j := 8) (by decide) ⟨rfl, rfl⟩ dX5_holds_2 (by assumption) ?_
  refine t_iload1 dX5_holds_5 ?_
  refine pw_if_ne 13 dX5_holds_6 (by decide) (fun _ => ?_) (fun h => absurd (by decide) h)
  refine pw_iconst (0) dX5_holds_13 (by decide) ?_
  refine pw_zret dX5_holds_14 rfl ?_ ?_
  · first | rfl | exact bI_n
  · exact ⟨rfl, rfl, rfl, _, rfl, rfl, rfl⟩
set_option maxHeartbeats 4000000 in
set_option maxRecDepth 100000 in
theorem M_holds2 {l : Launch} (hlt : l.stackTraces = false) {im : TI} {rm : TP} {lm : TL}  : Con l m_X5_holds 0 0 0 NN [pv (some 240), .int (2)] im rm lm (QI (fun x im2 => x = 0 ∧ im2 = ui im 240 8 2) rm lm) noX := by
  have hk0 := kdM
  refine Con.ofN (k := 0) (L0 := [some (pv (some 240)), some (.int (2))]) hlt (by decide +kernel) rfl rfl (by rw [en1 pv_cat, en1 rfl, en0]; exact Nat.le_of_ble_eq_true rfl) (by rw [en1 pv_cat, en1 rfl, en0]; rfl) ?_
  refine t_aload0 dX5_holds_0 ?_
  refine t_iload1 dX5_holds_1 ?_
  refine g_puti ft5 fl_X5_32 (j := 8) (by decide) ⟨rfl, rfl⟩ dX5_holds_2 (by assumption) ?_
  refine t_iload1 dX5_holds_5 ?_
  refine pw_if_ne 13 dX5_holds_6 (by decide) (fun _ => ?_) (fun h => absurd (by decide) h)
  refine pw_iconst (0) dX5_holds_13 (by decide) ?_
  refine pw_zret dX5_holds_14 rfl ?_ ?_
  · first | rfl | exact bI_n
  · exact ⟨rfl, rfl, rfl, _, rfl, rfl, rfl⟩
set_option maxHeartbeats 4000000 in
set_option maxRecDepth 100000 in
theorem M_holds3 {l : Launch} (hlt : l.stackTraces = false) {im : TI} {rm : TP} {lm : TL}  : Con l m_X5_holds 0 0 0 NN [pv (some 240), .int (3)] im rm lm (QI (fun x im2 => x = 0 ∧ im2 = ui im 240 8 3) rm lm) noX := by
  have hk0 := kdM
  refine Con.ofN (k := 0) (L0 := [some (pv (some 240)), some (.int (3))]) hlt (by decide +kernel) rfl rfl (by rw [en1 pv_cat, en1 rfl, en0]; exact Nat.le_of_ble_eq_true rfl) (by rw [en1 pv_cat, en1 rfl, en0]; rfl) ?_
  refine t_aload0 dX5_holds_0 ?_
  refine t_iload1 dX5_holds_1 ?_
  refine g_puti ft5 fl_X5_32 (j := 8) (by decide) ⟨rfl, rfl⟩ dX5_holds_2 (by assumption) ?_
  refine t_iload1 dX5_holds_5 ?_
  refine pw_if_ne 13 dX5_holds_6 (by decide) (fun _ => ?_) (fun h => absurd (by decide) h)
  refine pw_iconst (0) dX5_holds_13 (by decide) ?_
  refine pw_zret dX5_holds_14 rfl ?_ ?_
  · first | rfl | exact bI_n
  · exact ⟨rfl, rfl, rfl, _, rfl, rfl, rfl⟩
set_option maxHeartbeats 4000000 in
set_option maxRecDepth 100000 in
theorem M_pond {l : Launch} (hlt : l.stackTraces = false) {im : TI} {rm : TP} {lm : TL} {Y : TI} {S : CS} {n : Nat} {T : Nat → CS} {sn : Option CS} {bl : Nat} {B : Nat → Int32} (hM : MM rm) (hZ : MZ Y S n T sn bl B im) {x a b : Int32} {m : Nat} (hmo : maO x = some m) (ha : (50 : Int32) ≤ a ∧ a ≤ 500) (hb : (0 : Int32) ≤ b ∧ b ≤ 60) (hw : S.2.1 m 1 ≤ a) : Con l m_X5_pond 9 0 0 NN [pv (some 240), .int (x), .int (a), .int (b)] im rm lm (QI (fun y im2 => y = S.2.1 m 0 ∧ im2 240 8 = 0 ∧ MZ Y (upF (upF S m 0 a) m 2 b) (shN n) (shT n T S) sn bl B im2) rm lm) noX := by
  have hk0 := kdM
  have hks := kds
  obtain ⟨r0, r1, r3, r5, r6, r11⟩ := id hM
  have hR : MS im S im := ⟨hZ.1, fun _ _ => rfl⟩
  refine Con.ofN (k := 2) (L0 := [some (pv (some 240)), some (.int (x)), some (.int (a)), some (.int (b)), none, none]) hlt (by decide +kernel) rfl rfl (by rw [en1 pv_cat, en1 rfl, en1 rfl, en1 rfl, en0]; exact Nat.le_of_ble_eq_true rfl) (by rw [en1 pv_cat, en1 rfl, en1 rfl, en1 rfl, en0]; rfl) ?_
  obtain ⟨hm, rfl⟩ := maO_some hmo
  refine t_iload2 dX5_pond_0 ?_
  refine pw_bipush (50) dX5_pond_1 (by decide) ?_
  refine pw_sipush (500) dX5_pond_3 (by decide) ?_
  refine g_callS3P (M_in (l := l) hlt) rfl mc_X5_in ml_X5_36 mi_X5_in in_X5 (okc_X5_in (by decide)) dX5_pond_6 (cat_le (Nat.le_of_ble_eq_true rfl)) ?_
  rw [bI_t ha]
  refine pw_if_eq 26 dX5_pond_9 (by decide) (fun h => absurd h (by decide)) (fun _ => ?_)
  refine t_iload3 dX5_pond_12 ?_
  refine pw_iconst (0) dX5_pond_13 (by decide) ?_
  refine pw_bipush (60) dX5_pond_14 (by decide) ?_
  refine g_callS3P (M_in (l := l) hlt) rfl mc_X5_in ml_X5_36 mi_X5_in in_X5 (okc_X5_in (by decide)) dX5_pond_16 (cat_le (Nat.le_of_ble_eq_true rfl)) ?_
  rw [bI_t hb]
  refine pw_if_eq 26 dX5_pond_19 (by decide) (fun h => absurd h (by decide)) (fun _ => ?_)
  refine pw_iconst (1) dX5_pond_22 (by decide) ?_
  refine pw_goto 27 dX5_pond_23 (by decide) ?_
  refine t_istore4 dX5_pond_27 (by decide) okp_i ?_
  refine t_aload0 dX5_pond_29 ?_
  refine t_iload1 dX5_pond_30 ?_
  refine g_callS1P (M_isMill (l := l) hlt) rfl mc_X5_isMill ml_X5_94 mi_X5_isMill in_X5 (okc_X5_isMill (by decide)) dX5_pond_31 (cat_le (Nat.le_of_ble_eq_true rfl)) ?_
  rw [bI_t (ma_in hmo)]
  refine pw_if_ne 41 dX5_pond_34 (by decide) (fun _ => ?_) (fun h => absurd (by decide) h)
  refine t_iload4 dX5_pond_41 ?_
  refine pw_if_ne 50 dX5_pond_43 (by decide) (fun _ => ?_) (fun h => absurd (by decide) h)
  refine t_aload0 dX5_pond_50 ?_
  refine t_iload1 dX5_pond_51 ?_
  refine pw_iconst (1) dX5_pond_52 (by decide) ?_
  refine g_callV2P (M_of (l := l) hlt hM hR (m := m) (w := 1) hm (by decide)) rfl ft5 rfl mc_X5_of ml_X5_47 mi_X5_of ms_X5_of in_X5 (okc_X5_of (by decide)) dX5_pond_53 (by assumption) (cat_le (Nat.le_of_ble_eq_true rfl)) ?_
  refine t_iload2 dX5_pond_56 ?_
  refine pw_icmp_le 64 dX5_pond_57 (by decide) (fun zc57 => ?_) (fun zc57 => ?_)
  · refine pw_iconst (0) dX5_pond_64 (by decide) ?_
    refine g_callV1I (M_holdsT (l := l) hlt) rfl ft5 rfl mc_X5_holds ml_X5_98 mi_X5_holds ms_X5_holds in_X5 (okc_X5_holds (by decide)) dX5_pond_65 (by assumption) (cat_le (Nat.le_of_ble_eq_true rfl)) (fun zx65 zim65 zh65 => ?_)
    obtain ⟨rfl, rfl⟩ := zh65
    have hZ1 := hZ.th (x := 0)
    have hR : MS (ui im 240 8 0) S (ui im 240 8 0) := ⟨hZ1.1, fun _ _ => rfl⟩
    refine pw_if_ne 73 dX5_pond_68 (by decide) (fun _ => ?_) (fun h => absurd (by decide) h)
    refine t_aload0 dX5_pond_73 ?_
    refine g_callV0V (M_save (l := l) hlt hM hZ1.1 hZ1.2.1) rfl ft5 rfl mc_X5_save ml_X5_101 mi_X5_save ms_X5_save in_X5 (okc_X5_save (by decide)) dX5_pond_74 (by assumption) (cat_le (Nat.le_of_ble_eq_true rfl)) (fun zim74 zh74 => ?_)
    have hZ2 := hZ1.saved zh74
    have hR : MS zim74 S zim74 := ⟨hZ2.1, fun _ _ => rfl⟩
    have hth : zim74 240 8 = 0 := (zh74.2.2 8 (by decide)).trans th_at
    refine t_aload0 dX5_pond_77 ?_
    refine t_iload1 dX5_pond_78 ?_
    refine pw_iconst (0) dX5_pond_79 (by decide) ?_
    refine g_callV2P (M_of (l := l) hlt hM hR (m := m) (w := 0) hm (by decide)) rfl ft5 rfl mc_X5_of ml_X5_47 mi_X5_of ms_X5_of in_X5 (okc_X5_of (by decide)) dX5_pond_80 (by assumption) (cat_le (Nat.le_of_ble_eq_true rfl)) ?_
    refine t_istore5 dX5_pond_83 (by decide) okp_i ?_
    refine t_aload0 dX5_pond_85 ?_
    refine t_iload1 dX5_pond_86 ?_
    refine pw_iconst (0) dX5_pond_87 (by decide) ?_
    refine t_iload2 dX5_pond_88 ?_
    refine g_callV3V (M_put (l := l) hlt hM hR (m := m) (w := 0) hm (by decide)) rfl ft5 rfl mc_X5_put ml_X5_28 mi_X5_put ms_X5_put in_X5 (okc_X5_put (by decide)) dX5_pond_89 (by assumption) (cat_le (Nat.le_of_ble_eq_true rfl)) (fun zim89 zh89 => ?_)
    have hR := zh89
    refine t_aload0 dX5_pond_92 ?_
    refine t_iload1 dX5_pond_93 ?_
    refine pw_iconst (2) dX5_pond_94 (by decide) ?_
    refine t_iload3 dX5_pond_95 ?_
    refine g_callV3V (M_put (l := l) hlt hM hR (m := m) (w := 2) hm (by decide)) rfl ft5 rfl mc_X5_put ml_X5_28 mi_X5_put ms_X5_put in_X5 (okc_X5_put (by decide)) dX5_pond_96 (by assumption) (cat_le (Nat.le_of_ble_eq_true rfl)) (fun zim96 zh96 => ?_)
    have hR := zh96
    refine t_iload5 dX5_pond_99 ?_
    refine pw_iret dX5_pond_101 rfl ?_
    exact ⟨rfl, rfl, rfl, _, rfl, rfl, (congrFun (hR.2 240 (by decide)) 8).trans hth, hZ2.step hR⟩
  · exact absurd hw zc57
set_option maxHeartbeats 4000000 in
set_option maxRecDepth 100000 in
theorem M_pondI {l : Launch} (hlt : l.stackTraces = false) {im : TI} {rm : TP} {lm : TL} {Y : TI} {S : CS} {n : Nat} {T : Nat → CS} {sn : Option CS} {bl : Nat} {B : Nat → Int32} (hM : MM rm) (hZ : MZ Y S n T sn bl B im) {x a b : Int32} (hmo : maO x = none) : Con l m_X5_pond 9 0 0 NN [pv (some 240), .int (x), .int (a), .int (b)] im rm lm (QI (fun x im2 => im2 240 8 = 1 ∧ MZ Y S n T sn bl B im2) rm lm) noX := by
  have hk0 := kdM
  have hks := kds
  obtain ⟨r0, r1, r3, r5, r6, r11⟩ := id hM
  have hR : MS im S im := ⟨hZ.1, fun _ _ => rfl⟩
  refine Con.ofN (k := 2) (L0 := [some (pv (some 240)), some (.int (x)), some (.int (a)), some (.int (b)), none, none]) hlt (by decide +kernel) rfl rfl (by rw [en1 pv_cat, en1 rfl, en1 rfl, en1 rfl, en0]; exact Nat.le_of_ble_eq_true rfl) (by rw [en1 pv_cat, en1 rfl, en1 rfl, en1 rfl, en0]; rfl) ?_
  refine t_iload2 dX5_pond_0 ?_
  refine pw_bipush (50) dX5_pond_1 (by decide) ?_
  refine pw_sipush (500) dX5_pond_3 (by decide) ?_
  refine g_callS3P (M_in (l := l) hlt) rfl mc_X5_in ml_X5_36 mi_X5_in in_X5 (okc_X5_in (by decide)) dX5_pond_6 (cat_le (Nat.le_of_ble_eq_true rfl)) ?_
  refine pw_if_eq 26 dX5_pond_9 (by decide) (fun zc9 => ?_) (fun zc9 => ?_)
  · refine pw_iconst (0) dX5_pond_26 (by decide) ?_
    refine t_istore4 dX5_pond_27 (by decide) okp_i ?_
    refine t_aload0 dX5_pond_29 ?_
    refine t_iload1 dX5_pond_30 ?_
    refine g_callS1P (M_isMill (l := l) hlt) rfl mc_X5_isMill ml_X5_94 mi_X5_isMill in_X5 (okc_X5_isMill (by decide)) dX5_pond_31 (cat_le (Nat.le_of_ble_eq_true rfl)) ?_
    rw [bI_f (ma_out hmo)]
    refine pw_if_ne 41 dX5_pond_34 (by decide) (fun h => absurd h (by decide)) (fun _ => ?_)
    refine pw_iconst (1) dX5_pond_37 (by decide) ?_
    refine pw_goto 65 dX5_pond_38 (by decide) ?_
    refine g_callV1I (M_holds1 (l := l) hlt) rfl ft5 rfl mc_X5_holds ml_X5_98 mi_X5_holds ms_X5_holds in_X5 (okc_X5_holds (by decide)) dX5_pond_65 (by assumption) (cat_le (Nat.le_of_ble_eq_true rfl)) (fun zx65 zim65 zh65 => ?_)
    obtain ⟨rfl, rfl⟩ := zh65
    refine pw_if_ne 73 dX5_pond_68 (by decide) (fun h => absurd h (by decide)) (fun _ => ?_)
    refine pw_iconst (0) dX5_pond_71 (by decide) ?_
    refine pw_iret dX5_pond_72 rfl ?_
    exact ⟨rfl, rfl, rfl, _, rfl, th_at, hZ.th⟩
  · refine t_iload3 dX5_pond_12 ?_
    refine pw_iconst (0) dX5_pond_13 (by decide) ?_
    refine pw_bipush (60) dX5_pond_14 (by decide) ?_
    refine g_callS3P (M_in (l := l) hlt) rfl mc_X5_in ml_X5_36 mi_X5_in in_X5 (okc_X5_in (by decide)) dX5_pond_16 (cat_le (Nat.le_of_ble_eq_true rfl)) ?_
    refine pw_if_eq 26 dX5_pond_19 (by decide) (fun zc19 => ?_) (fun zc19 => ?_)
    · refine pw_iconst (0) dX5_pond_26 (by decide) ?_
      refine t_istore4 dX5_pond_27 (by decide) okp_i ?_
      refine t_aload0 dX5_pond_29 ?_
      refine t_iload1 dX5_pond_30 ?_
      refine g_callS1P (M_isMill (l := l) hlt) rfl mc_X5_isMill ml_X5_94 mi_X5_isMill in_X5 (okc_X5_isMill (by decide)) dX5_pond_31 (cat_le (Nat.le_of_ble_eq_true rfl)) ?_
      rw [bI_f (ma_out hmo)]
      refine pw_if_ne 41 dX5_pond_34 (by decide) (fun h => absurd h (by decide)) (fun _ => ?_)
      refine pw_iconst (1) dX5_pond_37 (by decide) ?_
      refine pw_goto 65 dX5_pond_38 (by decide) ?_
      refine g_callV1I (M_holds1 (l := l) hlt) rfl ft5 rfl mc_X5_holds ml_X5_98 mi_X5_holds ms_X5_holds in_X5 (okc_X5_holds (by decide)) dX5_pond_65 (by assumption) (cat_le (Nat.le_of_ble_eq_true rfl)) (fun zx65 zim65 zh65 => ?_)
      obtain ⟨rfl, rfl⟩ := zh65
      refine pw_if_ne 73 dX5_pond_68 (by decide) (fun h => absurd h (by decide)) (fun _ => ?_)
      refine pw_iconst (0) dX5_pond_71 (by decide) ?_
      refine pw_iret dX5_pond_72 rfl ?_
      exact ⟨rfl, rfl, rfl, _, rfl, th_at, hZ.th⟩
    · refine pw_iconst (1) dX5_pond_22 (by decide) ?_
      refine pw_goto 27 dX5_pond_23 (by decide) ?_
      refine t_istore4 dX5_pond_27 (by decide) okp_i ?_
      refine t_aload0 dX5_pond_29 ?_
      refine t_iload1 dX5_pond_30 ?_
      refine g_callS1P (M_isMill (l := l) hlt) rfl mc_X5_isMill ml_X5_94 mi_X5_isMill in_X5 (okc_X5_isMill (by decide)) dX5_pond_31 (cat_le (Nat.le_of_ble_eq_true rfl)) ?_
      rw [bI_f (ma_out hmo)]
      refine pw_if_ne 41 dX5_pond_34 (by decide) (fun h => absurd h (by decide)) (fun _ => ?_)
      refine pw_iconst (1) dX5_pond_37 (by decide) ?_
      refine pw_goto 65 dX5_pond_38 (by decide) ?_
      refine g_callV1I (M_holds1 (l := l) hlt) rfl ft5 rfl mc_X5_holds ml_X5_98 mi_X5_holds ms_X5_holds in_X5 (okc_X5_holds (by decide)) dX5_pond_65 (by assumption) (cat_le (Nat.le_of_ble_eq_true rfl)) (fun zx65 zim65 zh65 => ?_)
      obtain ⟨rfl, rfl⟩ := zh65
      refine pw_if_ne 73 dX5_pond_68 (by decide) (fun h => absurd h (by decide)) (fun _ => ?_)
      refine pw_iconst (0) dX5_pond_71 (by decide) ?_
      refine pw_iret dX5_pond_72 rfl ?_
      exact ⟨rfl, rfl, rfl, _, rfl, th_at, hZ.th⟩
set_option maxHeartbeats 4000000 in
set_option maxRecDepth 100000 in
theorem M_pondA1 {l : Launch} (hlt : l.stackTraces = false) {im : TI} {rm : TP} {lm : TL} {Y : TI} {S : CS} {n : Nat} {T : Nat → CS} {sn : Option CS} {bl : Nat} {B : Nat → Int32} (hM : MM rm) (hZ : MZ Y S n T sn bl B im) {x a b : Int32} {m : Nat} (hmo : maO x = some m) (ha : ¬ ((50 : Int32) ≤ a ∧ a ≤ 500)) : Con l m_X5_pond 9 0 0 NN [pv (some 240), .int (x), .int (a), .int (b)] im rm lm (QI (fun x im2 => im2 240 8 = 2 ∧ MZ Y S n T sn bl B im2) rm lm) noX := by
  have hk0 := kdM
  have hks := kds
  obtain ⟨r0, r1, r3, r5, r6, r11⟩ := id hM
  have hR : MS im S im := ⟨hZ.1, fun _ _ => rfl⟩
  refine Con.ofN (k := 2) (L0 := [some (pv (some 240)), some (.int (x)), some (.int (a)), some (.int (b)), none, none]) hlt (by decide +kernel) rfl rfl (by rw [en1 pv_cat, en1 rfl, en1 rfl, en1 rfl, en0]; exact Nat.le_of_ble_eq_true rfl) (by rw [en1 pv_cat, en1 rfl, en1 rfl, en1 rfl, en0]; rfl) ?_
  refine t_iload2 dX5_pond_0 ?_
  refine pw_bipush (50) dX5_pond_1 (by decide) ?_
  refine pw_sipush (500) dX5_pond_3 (by decide) ?_
  refine g_callS3P (M_in (l := l) hlt) rfl mc_X5_in ml_X5_36 mi_X5_in in_X5 (okc_X5_in (by decide)) dX5_pond_6 (cat_le (Nat.le_of_ble_eq_true rfl)) ?_
  rw [bI_f ha]
  refine pw_if_eq 26 dX5_pond_9 (by decide) (fun _ => ?_) (fun h => absurd (by decide) h)
  refine pw_iconst (0) dX5_pond_26 (by decide) ?_
  refine t_istore4 dX5_pond_27 (by decide) okp_i ?_
  refine t_aload0 dX5_pond_29 ?_
  refine t_iload1 dX5_pond_30 ?_
  refine g_callS1P (M_isMill (l := l) hlt) rfl mc_X5_isMill ml_X5_94 mi_X5_isMill in_X5 (okc_X5_isMill (by decide)) dX5_pond_31 (cat_le (Nat.le_of_ble_eq_true rfl)) ?_
  rw [bI_t (ma_in hmo)]
  refine pw_if_ne 41 dX5_pond_34 (by decide) (fun _ => ?_) (fun h => absurd (by decide) h)
  refine t_iload4 dX5_pond_41 ?_
  refine pw_if_ne 50 dX5_pond_43 (by decide) (fun h => absurd h (by decide)) (fun _ => ?_)
  refine pw_iconst (2) dX5_pond_46 (by decide) ?_
  refine pw_goto 65 dX5_pond_47 (by decide) ?_
  refine g_callV1I (M_holds2 (l := l) hlt) rfl ft5 rfl mc_X5_holds ml_X5_98 mi_X5_holds ms_X5_holds in_X5 (okc_X5_holds (by decide)) dX5_pond_65 (by assumption) (cat_le (Nat.le_of_ble_eq_true rfl)) (fun zx65 zim65 zh65 => ?_)
  obtain ⟨rfl, rfl⟩ := zh65
  refine pw_if_ne 73 dX5_pond_68 (by decide) (fun h => absurd h (by decide)) (fun _ => ?_)
  refine pw_iconst (0) dX5_pond_71 (by decide) ?_
  refine pw_iret dX5_pond_72 rfl ?_
  exact ⟨rfl, rfl, rfl, _, rfl, th_at, hZ.th⟩
set_option maxHeartbeats 4000000 in
set_option maxRecDepth 100000 in
theorem M_pondA2 {l : Launch} (hlt : l.stackTraces = false) {im : TI} {rm : TP} {lm : TL} {Y : TI} {S : CS} {n : Nat} {T : Nat → CS} {sn : Option CS} {bl : Nat} {B : Nat → Int32} (hM : MM rm) (hZ : MZ Y S n T sn bl B im) {x a b : Int32} {m : Nat} (hmo : maO x = some m) (ha : (50 : Int32) ≤ a ∧ a ≤ 500) (hb : ¬ ((0 : Int32) ≤ b ∧ b ≤ 60)) : Con l m_X5_pond 9 0 0 NN [pv (some 240), .int (x), .int (a), .int (b)] im rm lm (QI (fun x im2 => im2 240 8 = 2 ∧ MZ Y S n T sn bl B im2) rm lm) noX := by
  have hk0 := kdM
  have hks := kds
  obtain ⟨r0, r1, r3, r5, r6, r11⟩ := id hM
  have hR : MS im S im := ⟨hZ.1, fun _ _ => rfl⟩
  refine Con.ofN (k := 2) (L0 := [some (pv (some 240)), some (.int (x)), some (.int (a)), some (.int (b)), none, none]) hlt (by decide +kernel) rfl rfl (by rw [en1 pv_cat, en1 rfl, en1 rfl, en1 rfl, en0]; exact Nat.le_of_ble_eq_true rfl) (by rw [en1 pv_cat, en1 rfl, en1 rfl, en1 rfl, en0]; rfl) ?_
  refine t_iload2 dX5_pond_0 ?_
  refine pw_bipush (50) dX5_pond_1 (by decide) ?_
  refine pw_sipush (500) dX5_pond_3 (by decide) ?_
  refine g_callS3P (M_in (l := l) hlt) rfl mc_X5_in ml_X5_36 mi_X5_in in_X5 (okc_X5_in (by decide)) dX5_pond_6 (cat_le (Nat.le_of_ble_eq_true rfl)) ?_
  rw [bI_t ha]
  refine pw_if_eq 26 dX5_pond_9 (by decide) (fun h => absurd h (by decide)) (fun _ => ?_)
  refine t_iload3 dX5_pond_12 ?_
  refine pw_iconst (0) dX5_pond_13 (by decide) ?_
  refine pw_bipush (60) dX5_pond_14 (by decide) ?_
  refine g_callS3P (M_in (l := l) hlt) rfl mc_X5_in ml_X5_36 mi_X5_in in_X5 (okc_X5_in (by decide)) dX5_pond_16 (cat_le (Nat.le_of_ble_eq_true rfl)) ?_
  rw [bI_f hb]
  refine pw_if_eq 26 dX5_pond_19 (by decide) (fun _ => ?_) (fun h => absurd (by decide) h)
  refine pw_iconst (0) dX5_pond_26 (by decide) ?_
  refine t_istore4 dX5_pond_27 (by decide) okp_i ?_
  refine t_aload0 dX5_pond_29 ?_
  refine t_iload1 dX5_pond_30 ?_
  refine g_callS1P (M_isMill (l := l) hlt) rfl mc_X5_isMill ml_X5_94 mi_X5_isMill in_X5 (okc_X5_isMill (by decide)) dX5_pond_31 (cat_le (Nat.le_of_ble_eq_true rfl)) ?_
  rw [bI_t (ma_in hmo)]
  refine pw_if_ne 41 dX5_pond_34 (by decide) (fun _ => ?_) (fun h => absurd (by decide) h)
  refine t_iload4 dX5_pond_41 ?_
  refine pw_if_ne 50 dX5_pond_43 (by decide) (fun h => absurd h (by decide)) (fun _ => ?_)
  refine pw_iconst (2) dX5_pond_46 (by decide) ?_
  refine pw_goto 65 dX5_pond_47 (by decide) ?_
  refine g_callV1I (M_holds2 (l := l) hlt) rfl ft5 rfl mc_X5_holds ml_X5_98 mi_X5_holds ms_X5_holds in_X5 (okc_X5_holds (by decide)) dX5_pond_65 (by assumption) (cat_le (Nat.le_of_ble_eq_true rfl)) (fun zx65 zim65 zh65 => ?_)
  obtain ⟨rfl, rfl⟩ := zh65
  refine pw_if_ne 73 dX5_pond_68 (by decide) (fun h => absurd h (by decide)) (fun _ => ?_)
  refine pw_iconst (0) dX5_pond_71 (by decide) ?_
  refine pw_iret dX5_pond_72 rfl ?_
  exact ⟨rfl, rfl, rfl, _, rfl, th_at, hZ.th⟩
set_option maxHeartbeats 4000000 in
set_option maxRecDepth 100000 in
theorem M_pondS {l : Launch} (hlt : l.stackTraces = false) {im : TI} {rm : TP} {lm : TL} {Y : TI} {S : CS} {n : Nat} {T : Nat → CS} {sn : Option CS} {bl : Nat} {B : Nat → Int32} (hM : MM rm) (hZ : MZ Y S n T sn bl B im) {x a b : Int32} {m : Nat} (hmo : maO x = some m) (ha : (50 : Int32) ≤ a ∧ a ≤ 500) (hb : (0 : Int32) ≤ b ∧ b ≤ 60) (hw : ¬ S.2.1 m 1 ≤ a) : Con l m_X5_pond 9 0 0 NN [pv (some 240), .int (x), .int (a), .int (b)] im rm lm (QI (fun x im2 => im2 240 8 = 3 ∧ MZ Y S n T sn bl B im2) rm lm) noX := by
  have hk0 := kdM
  have hks := kds
  obtain ⟨r0, r1, r3, r5, r6, r11⟩ := id hM
  have hR : MS im S im := ⟨hZ.1, fun _ _ => rfl⟩
  refine Con.ofN (k := 2) (L0 := [some (pv (some 240)), some (.int (x)), some (.int (a)), some (.int (b)), none, none]) hlt (by decide +kernel) rfl rfl (by rw [en1 pv_cat, en1 rfl, en1 rfl, en1 rfl, en0]; exact Nat.le_of_ble_eq_true rfl) (by rw [en1 pv_cat, en1 rfl, en1 rfl, en1 rfl, en0]; rfl) ?_
  obtain ⟨hm, rfl⟩ := maO_some hmo
  refine t_iload2 dX5_pond_0 ?_
  refine pw_bipush (50) dX5_pond_1 (by decide) ?_
  refine pw_sipush (500) dX5_pond_3 (by decide) ?_
  refine g_callS3P (M_in (l := l) hlt) rfl mc_X5_in ml_X5_36 mi_X5_in in_X5 (okc_X5_in (by decide)) dX5_pond_6 (cat_le (Nat.le_of_ble_eq_true rfl)) ?_
  rw [bI_t ha]
  refine pw_if_eq 26 dX5_pond_9 (by decide) (fun h => absurd h (by decide)) (fun _ => ?_)
  refine t_iload3 dX5_pond_12 ?_
  refine pw_iconst (0) dX5_pond_13 (by decide) ?_
  refine pw_bipush (60) dX5_pond_14 (by decide) ?_
  refine g_callS3P (M_in (l := l) hlt) rfl mc_X5_in ml_X5_36 mi_X5_in in_X5 (okc_X5_in (by decide)) dX5_pond_16 (cat_le (Nat.le_of_ble_eq_true rfl)) ?_
  rw [bI_t hb]
  refine pw_if_eq 26 dX5_pond_19 (by decide) (fun h => absurd h (by decide)) (fun _ => ?_)
  refine pw_iconst (1) dX5_pond_22 (by decide) ?_
  refine pw_goto 27 dX5_pond_23 (by decide) ?_
  refine t_istore4 dX5_pond_27 (by decide) okp_i ?_
  refine t_aload0 dX5_pond_29 ?_
  refine t_iload1 dX5_pond_30 ?_
  refine g_callS1P (M_isMill (l := l) hlt) rfl mc_X5_isMill ml_X5_94 mi_X5_isMill in_X5 (okc_X5_isMill (by decide)) dX5_pond_31 (cat_le (Nat.le_of_ble_eq_true rfl)) ?_
  rw [bI_t (ma_in hmo)]
  refine pw_if_ne 41 dX5_pond_34 (by decide) (fun _ => ?_) (fun h => absurd (by decide) h)
  refine t_iload4 dX5_pond_41 ?_
  refine pw_if_ne 50 dX5_pond_43 (by decide) (fun _ => ?_) (fun h => absurd (by decide) h)
  refine t_aload0 dX5_pond_50 ?_
  refine t_iload1 dX5_pond_51 ?_
  refine pw_iconst (1) dX5_pond_52 (by decide) ?_
  refine g_callV2P (M_of (l := l) hlt hM hR (m := m) (w := 1) hm (by decide)) rfl ft5 rfl mc_X5_of ml_X5_47 mi_X5_of ms_X5_of in_X5 (okc_X5_of (by decide)) dX5_pond_53 (by assumption) (cat_le (Nat.le_of_ble_eq_true rfl)) ?_
  refine t_iload2 dX5_pond_56 ?_
  refine pw_icmp_le 64 dX5_pond_57 (by decide) (fun zc57 => ?_) (fun zc57 => ?_)
  · exact absurd zc57 hw
  · refine pw_iconst (3) dX5_pond_60 (by decide) ?_
    refine pw_goto 65 dX5_pond_61 (by decide) ?_
    refine g_callV1I (M_holds3 (l := l) hlt) rfl ft5 rfl mc_X5_holds ml_X5_98 mi_X5_holds ms_X5_holds in_X5 (okc_X5_holds (by decide)) dX5_pond_65 (by assumption) (cat_le (Nat.le_of_ble_eq_true rfl)) (fun zx65 zim65 zh65 => ?_)
    obtain ⟨rfl, rfl⟩ := zh65
    refine pw_if_ne 73 dX5_pond_68 (by decide) (fun h => absurd h (by decide)) (fun _ => ?_)
    refine pw_iconst (0) dX5_pond_71 (by decide) ?_
    refine pw_iret dX5_pond_72 rfl ?_
    exact ⟨rfl, rfl, rfl, _, rfl, th_at, hZ.th⟩
set_option maxHeartbeats 4000000 in
set_option maxRecDepth 100000 in
theorem M_gate {l : Launch} (hlt : l.stackTraces = false) {im : TI} {rm : TP} {lm : TL} {Y : TI} {S : CS} {n : Nat} {T : Nat → CS} {sn : Option CS} {bl : Nat} {B : Nat → Int32} (hM : MM rm) (hZ : MZ Y S n T sn bl B im) {x a b : Int32} {m : Nat} (hmo : maO x = some m) (ha : (0 : Int32) ≤ a ∧ a ≤ 11) (hb : a ≤ b ∧ b ≤ 11) : Con l m_X5_gate 9 0 0 NN [pv (some 240), .int (x), .int (a), .int (b)] im rm lm (QI (fun y im2 => y = S.2.1 m 4 - S.2.1 m 3 + 1 ∧ im2 240 8 = 0 ∧ MZ Y (upF (upF S m 3 a) m 4 b) (shN n) (shT n T S) sn bl B im2) rm lm) noX := by
  have hk0 := kdM
  have hks := kds
  obtain ⟨r0, r1, r3, r5, r6, r11⟩ := id hM
  have hR : MS im S im := ⟨hZ.1, fun _ _ => rfl⟩
  refine Con.ofN (k := 1) (L0 := [some (pv (some 240)), some (.int (x)), some (.int (a)), some (.int (b)), none]) hlt (by decide +kernel) rfl rfl (by rw [en1 pv_cat, en1 rfl, en1 rfl, en1 rfl, en0]; exact Nat.le_of_ble_eq_true rfl) (by rw [en1 pv_cat, en1 rfl, en1 rfl, en1 rfl, en0]; rfl) ?_
  obtain ⟨hm, rfl⟩ := maO_some hmo
  refine t_aload0 dX5_gate_0 ?_
  refine t_iload1 dX5_gate_1 ?_
  refine g_callS1P (M_isMill (l := l) hlt) rfl mc_X5_isMill ml_X5_94 mi_X5_isMill in_X5 (okc_X5_isMill (by decide)) dX5_gate_2 (cat_le (Nat.le_of_ble_eq_true rfl)) ?_
  rw [bI_t (ma_in hmo)]
  refine pw_if_ne 12 dX5_gate_5 (by decide) (fun _ => ?_) (fun h => absurd (by decide) h)
  refine t_iload2 dX5_gate_12 ?_
  refine pw_iconst (0) dX5_gate_13 (by decide) ?_
  refine pw_bipush (11) dX5_gate_14 (by decide) ?_
  refine g_callS3P (M_in (l := l) hlt) rfl mc_X5_in ml_X5_36 mi_X5_in in_X5 (okc_X5_in (by decide)) dX5_gate_16 (cat_le (Nat.le_of_ble_eq_true rfl)) ?_
  rw [bI_t ha]
  refine pw_if_eq 32 dX5_gate_19 (by decide) (fun h => absurd h (by decide)) (fun _ => ?_)
  refine t_iload3 dX5_gate_22 ?_
  refine t_iload2 dX5_gate_23 ?_
  refine pw_bipush (11) dX5_gate_24 (by decide) ?_
  refine g_callS3P (M_in (l := l) hlt) rfl mc_X5_in ml_X5_36 mi_X5_in in_X5 (okc_X5_in (by decide)) dX5_gate_26 (cat_le (Nat.le_of_ble_eq_true rfl)) ?_
  rw [bI_t hb]
  refine pw_if_ne 36 dX5_gate_29 (by decide) (fun _ => ?_) (fun h => absurd (by decide) h)
  refine pw_iconst (0) dX5_gate_36 (by decide) ?_
  refine g_callV1I (M_holdsT (l := l) hlt) rfl ft5 rfl mc_X5_holds ml_X5_98 mi_X5_holds ms_X5_holds in_X5 (okc_X5_holds (by decide)) dX5_gate_37 (by assumption) (cat_le (Nat.le_of_ble_eq_true rfl)) (fun zx37 zim37 zh37 => ?_)
  obtain ⟨rfl, rfl⟩ := zh37
  have hZ1 := hZ.th (x := 0)
  have hR : MS (ui im 240 8 0) S (ui im 240 8 0) := ⟨hZ1.1, fun _ _ => rfl⟩
  refine pw_if_ne 45 dX5_gate_40 (by decide) (fun _ => ?_) (fun h => absurd (by decide) h)
  refine t_aload0 dX5_gate_45 ?_
  refine g_callV0V (M_save (l := l) hlt hM hZ1.1 hZ1.2.1) rfl ft5 rfl mc_X5_save ml_X5_101 mi_X5_save ms_X5_save in_X5 (okc_X5_save (by decide)) dX5_gate_46 (by assumption) (cat_le (Nat.le_of_ble_eq_true rfl)) (fun zim46 zh46 => ?_)
  have hZ2 := hZ1.saved zh46
  have hR : MS zim46 S zim46 := ⟨hZ2.1, fun _ _ => rfl⟩
  have hth : zim46 240 8 = 0 := (zh46.2.2 8 (by decide)).trans th_at
  refine t_aload0 dX5_gate_49 ?_
  refine t_iload1 dX5_gate_50 ?_
  refine pw_iconst (4) dX5_gate_51 (by decide) ?_
  refine g_callV2P (M_of (l := l) hlt hM hR (m := m) (w := 4) hm (by decide)) rfl ft5 rfl mc_X5_of ml_X5_47 mi_X5_of ms_X5_of in_X5 (okc_X5_of (by decide)) dX5_gate_52 (by assumption) (cat_le (Nat.le_of_ble_eq_true rfl)) ?_
  refine t_aload0 dX5_gate_55 ?_
  refine t_iload1 dX5_gate_56 ?_
  refine pw_iconst (3) dX5_gate_57 (by decide) ?_
  refine g_callV2P (M_of (l := l) hlt hM hR (m := m) (w := 3) hm (by decide)) rfl ft5 rfl mc_X5_of ml_X5_47 mi_X5_of ms_X5_of in_X5 (okc_X5_of (by decide)) dX5_gate_58 (by assumption) (cat_le (Nat.le_of_ble_eq_true rfl)) ?_
  refine pw_isub dX5_gate_61 ?_
  refine pw_iconst (1) dX5_gate_62 (by decide) ?_
  refine pw_iadd dX5_gate_63 ?_
  refine t_istore4 dX5_gate_64 (by decide) okp_i ?_
  refine t_aload0 dX5_gate_66 ?_
  refine t_iload1 dX5_gate_67 ?_
  refine pw_iconst (3) dX5_gate_68 (by decide) ?_
  refine t_iload2 dX5_gate_69 ?_
  refine g_callV3V (M_put (l := l) hlt hM hR (m := m) (w := 3) hm (by decide)) rfl ft5 rfl mc_X5_put ml_X5_28 mi_X5_put ms_X5_put in_X5 (okc_X5_put (by decide)) dX5_gate_70 (by assumption) (cat_le (Nat.le_of_ble_eq_true rfl)) (fun zim70 zh70 => ?_)
  have hR := zh70
  refine t_aload0 dX5_gate_73 ?_
  refine t_iload1 dX5_gate_74 ?_
  refine pw_iconst (4) dX5_gate_75 (by decide) ?_
  refine t_iload3 dX5_gate_76 ?_
  refine g_callV3V (M_put (l := l) hlt hM hR (m := m) (w := 4) hm (by decide)) rfl ft5 rfl mc_X5_put ml_X5_28 mi_X5_put ms_X5_put in_X5 (okc_X5_put (by decide)) dX5_gate_77 (by assumption) (cat_le (Nat.le_of_ble_eq_true rfl)) (fun zim77 zh77 => ?_)
  have hR := zh77
  refine t_iload4 dX5_gate_80 ?_
  refine pw_iret dX5_gate_82 rfl ?_
  exact ⟨rfl, rfl, rfl, _, rfl, rfl, (congrFun (hR.2 240 (by decide)) 8).trans hth, hZ2.step hR⟩
set_option maxHeartbeats 4000000 in
set_option maxRecDepth 100000 in
theorem M_gateI {l : Launch} (hlt : l.stackTraces = false) {im : TI} {rm : TP} {lm : TL} {Y : TI} {S : CS} {n : Nat} {T : Nat → CS} {sn : Option CS} {bl : Nat} {B : Nat → Int32} (hM : MM rm) (hZ : MZ Y S n T sn bl B im) {x a b : Int32} (hmo : maO x = none) : Con l m_X5_gate 9 0 0 NN [pv (some 240), .int (x), .int (a), .int (b)] im rm lm (QI (fun x im2 => im2 240 8 = 1 ∧ MZ Y S n T sn bl B im2) rm lm) noX := by
  have hk0 := kdM
  have hks := kds
  obtain ⟨r0, r1, r3, r5, r6, r11⟩ := id hM
  have hR : MS im S im := ⟨hZ.1, fun _ _ => rfl⟩
  refine Con.ofN (k := 1) (L0 := [some (pv (some 240)), some (.int (x)), some (.int (a)), some (.int (b)), none]) hlt (by decide +kernel) rfl rfl (by rw [en1 pv_cat, en1 rfl, en1 rfl, en1 rfl, en0]; exact Nat.le_of_ble_eq_true rfl) (by rw [en1 pv_cat, en1 rfl, en1 rfl, en1 rfl, en0]; rfl) ?_
  refine t_aload0 dX5_gate_0 ?_
  refine t_iload1 dX5_gate_1 ?_
  refine g_callS1P (M_isMill (l := l) hlt) rfl mc_X5_isMill ml_X5_94 mi_X5_isMill in_X5 (okc_X5_isMill (by decide)) dX5_gate_2 (cat_le (Nat.le_of_ble_eq_true rfl)) ?_
  rw [bI_f (ma_out hmo)]
  refine pw_if_ne 12 dX5_gate_5 (by decide) (fun h => absurd h (by decide)) (fun _ => ?_)
  refine pw_iconst (1) dX5_gate_8 (by decide) ?_
  refine pw_goto 37 dX5_gate_9 (by decide) ?_
  refine g_callV1I (M_holds1 (l := l) hlt) rfl ft5 rfl mc_X5_holds ml_X5_98 mi_X5_holds ms_X5_holds in_X5 (okc_X5_holds (by decide)) dX5_gate_37 (by assumption) (cat_le (Nat.le_of_ble_eq_true rfl)) (fun zx37 zim37 zh37 => ?_)
  obtain ⟨rfl, rfl⟩ := zh37
  refine pw_if_ne 45 dX5_gate_40 (by decide) (fun h => absurd h (by decide)) (fun _ => ?_)
  refine pw_iconst (0) dX5_gate_43 (by decide) ?_
  refine pw_iret dX5_gate_44 rfl ?_
  exact ⟨rfl, rfl, rfl, _, rfl, th_at, hZ.th⟩
set_option maxHeartbeats 4000000 in
set_option maxRecDepth 100000 in
theorem M_gateA1 {l : Launch} (hlt : l.stackTraces = false) {im : TI} {rm : TP} {lm : TL} {Y : TI} {S : CS} {n : Nat} {T : Nat → CS} {sn : Option CS} {bl : Nat} {B : Nat → Int32} (hM : MM rm) (hZ : MZ Y S n T sn bl B im) {x a b : Int32} {m : Nat} (hmo : maO x = some m) (ha : ¬ ((0 : Int32) ≤ a ∧ a ≤ 11)) : Con l m_X5_gate 9 0 0 NN [pv (some 240), .int (x), .int (a), .int (b)] im rm lm (QI (fun x im2 => im2 240 8 = 2 ∧ MZ Y S n T sn bl B im2) rm lm) noX := by
  have hk0 := kdM
  have hks := kds
  obtain ⟨r0, r1, r3, r5, r6, r11⟩ := id hM
  have hR : MS im S im := ⟨hZ.1, fun _ _ => rfl⟩
  refine Con.ofN (k := 1) (L0 := [some (pv (some 240)), some (.int (x)), some (.int (a)), some (.int (b)), none]) hlt (by decide +kernel) rfl rfl (by rw [en1 pv_cat, en1 rfl, en1 rfl, en1 rfl, en0]; exact Nat.le_of_ble_eq_true rfl) (by rw [en1 pv_cat, en1 rfl, en1 rfl, en1 rfl, en0]; rfl) ?_
  refine t_aload0 dX5_gate_0 ?_
  refine t_iload1 dX5_gate_1 ?_
  refine g_callS1P (M_isMill (l := l) hlt) rfl mc_X5_isMill ml_X5_94 mi_X5_isMill in_X5 (okc_X5_isMill (by decide)) dX5_gate_2 (cat_le (Nat.le_of_ble_eq_true rfl)) ?_
  rw [bI_t (ma_in hmo)]
  refine pw_if_ne 12 dX5_gate_5 (by decide) (fun _ => ?_) (fun h => absurd (by decide) h)
  refine t_iload2 dX5_gate_12 ?_
  refine pw_iconst (0) dX5_gate_13 (by decide) ?_
  refine pw_bipush (11) dX5_gate_14 (by decide) ?_
  refine g_callS3P (M_in (l := l) hlt) rfl mc_X5_in ml_X5_36 mi_X5_in in_X5 (okc_X5_in (by decide)) dX5_gate_16 (cat_le (Nat.le_of_ble_eq_true rfl)) ?_
  rw [bI_f ha]
  refine pw_if_eq 32 dX5_gate_19 (by decide) (fun _ => ?_) (fun h => absurd (by decide) h)
  refine pw_iconst (2) dX5_gate_32 (by decide) ?_
  refine pw_goto 37 dX5_gate_33 (by decide) ?_
  refine g_callV1I (M_holds2 (l := l) hlt) rfl ft5 rfl mc_X5_holds ml_X5_98 mi_X5_holds ms_X5_holds in_X5 (okc_X5_holds (by decide)) dX5_gate_37 (by assumption) (cat_le (Nat.le_of_ble_eq_true rfl)) (fun zx37 zim37 zh37 => ?_)
  obtain ⟨rfl, rfl⟩ := zh37
  refine pw_if_ne 45 dX5_gate_40 (by decide) (fun h => absurd h (by decide)) (fun _ => ?_)
  refine pw_iconst (0) dX5_gate_43 (by decide) ?_
  refine pw_iret dX5_gate_44 rfl ?_
  exact ⟨rfl, rfl, rfl, _, rfl, th_at, hZ.th⟩
set_option maxHeartbeats 4000000 in
set_option maxRecDepth 100000 in
theorem M_gateA2 {l : Launch} (hlt : l.stackTraces = false) {im : TI} {rm : TP} {lm : TL} {Y : TI} {S : CS} {n : Nat} {T : Nat → CS} {sn : Option CS} {bl : Nat} {B : Nat → Int32} (hM : MM rm) (hZ : MZ Y S n T sn bl B im) {x a b : Int32} {m : Nat} (hmo : maO x = some m) (ha : (0 : Int32) ≤ a ∧ a ≤ 11) (hb : ¬ (a ≤ b ∧ b ≤ 11)) : Con l m_X5_gate 9 0 0 NN [pv (some 240), .int (x), .int (a), .int (b)] im rm lm (QI (fun x im2 => im2 240 8 = 2 ∧ MZ Y S n T sn bl B im2) rm lm) noX := by
  have hk0 := kdM
  have hks := kds
  obtain ⟨r0, r1, r3, r5, r6, r11⟩ := id hM
  have hR : MS im S im := ⟨hZ.1, fun _ _ => rfl⟩
  refine Con.ofN (k := 1) (L0 := [some (pv (some 240)), some (.int (x)), some (.int (a)), some (.int (b)), none]) hlt (by decide +kernel) rfl rfl (by rw [en1 pv_cat, en1 rfl, en1 rfl, en1 rfl, en0]; exact Nat.le_of_ble_eq_true rfl) (by rw [en1 pv_cat, en1 rfl, en1 rfl, en1 rfl, en0]; rfl) ?_
  refine t_aload0 dX5_gate_0 ?_
  refine t_iload1 dX5_gate_1 ?_
  refine g_callS1P (M_isMill (l := l) hlt) rfl mc_X5_isMill ml_X5_94 mi_X5_isMill in_X5 (okc_X5_isMill (by decide)) dX5_gate_2 (cat_le (Nat.le_of_ble_eq_true rfl)) ?_
  rw [bI_t (ma_in hmo)]
  refine pw_if_ne 12 dX5_gate_5 (by decide) (fun _ => ?_) (fun h => absurd (by decide) h)
  refine t_iload2 dX5_gate_12 ?_
  refine pw_iconst (0) dX5_gate_13 (by decide) ?_
  refine pw_bipush (11) dX5_gate_14 (by decide) ?_
  refine g_callS3P (M_in (l := l) hlt) rfl mc_X5_in ml_X5_36 mi_X5_in in_X5 (okc_X5_in (by decide)) dX5_gate_16 (cat_le (Nat.le_of_ble_eq_true rfl)) ?_
  rw [bI_t ha]
  refine pw_if_eq 32 dX5_gate_19 (by decide) (fun h => absurd h (by decide)) (fun _ => ?_)
  refine t_iload3 dX5_gate_22 ?_
  refine t_iload2 dX5_gate_23 ?_
  refine pw_bipush (11) dX5_gate_24 (by decide) ?_
  refine g_callS3P (M_in (l := l) hlt) rfl mc_X5_in ml_X5_36 mi_X5_in in_X5 (okc_X5_in (by decide)) dX5_gate_26 (cat_le (Nat.le_of_ble_eq_true rfl)) ?_
  rw [bI_f hb]
  refine pw_if_ne 36 dX5_gate_29 (by decide) (fun h => absurd h (by decide)) (fun _ => ?_)
  refine pw_iconst (2) dX5_gate_32 (by decide) ?_
  refine pw_goto 37 dX5_gate_33 (by decide) ?_
  refine g_callV1I (M_holds2 (l := l) hlt) rfl ft5 rfl mc_X5_holds ml_X5_98 mi_X5_holds ms_X5_holds in_X5 (okc_X5_holds (by decide)) dX5_gate_37 (by assumption) (cat_le (Nat.le_of_ble_eq_true rfl)) (fun zx37 zim37 zh37 => ?_)
  obtain ⟨rfl, rfl⟩ := zh37
  refine pw_if_ne 45 dX5_gate_40 (by decide) (fun h => absurd h (by decide)) (fun _ => ?_)
  refine pw_iconst (0) dX5_gate_43 (by decide) ?_
  refine pw_iret dX5_gate_44 rfl ?_
  exact ⟨rfl, rfl, rfl, _, rfl, th_at, hZ.th⟩
theorem b8 {b : Int32} (h : 8 ≤ b) : 0 < b := by
  rw [Int32.le_iff_toInt_le, show (8 : Int32).toInt = 8 by decide] at h
  rw [Int32.lt_iff_toInt_lt, show (0 : Int32).toInt = 0 by decide]
  omega
theorem tof_g {S : CS} {m : Nat} {a b : Int32} (h : 0 < b) : 100 * a / b = tof ((upF (upF S m 5 a) m 6 b).2.1 m) 100 := by
  have e6 : (upF (upF S m 5 a) m 6 b).2.1 m 6 = b := if_pos ⟨rfl, rfl⟩
  have e5 : (upF (upF S m 5 a) m 6 b).2.1 m 5 = a := (if_neg (fun z => absurd z.2 (by decide))).trans (if_pos ⟨rfl, rfl⟩)
  unfold tof
  rw [e6, e5, if_pos h]
set_option maxHeartbeats 4000000 in
set_option maxRecDepth 100000 in
theorem M_gear {l : Launch} (hlt : l.stackTraces = false) {im : TI} {rm : TP} {lm : TL} {Y : TI} {S : CS} {n : Nat} {T : Nat → CS} {sn : Option CS} {bl : Nat} {B : Nat → Int32} (hM : MM rm) (hZ : MZ Y S n T sn bl B im) {x a b : Int32} {m : Nat} (hmo : maO x = some m) (ha : 8 ≤ a ∧ a ≤ 60) (hb : 8 ≤ b ∧ b ≤ 60) : Con l m_X5_gear 9 0 0 NN [pv (some 240), .int (x), .int (a), .int (b)] im rm lm (QI (fun y im2 => y = tof ((upF (upF S m 5 a) m 6 b).2.1 m) 100 ∧ im2 240 8 = 0 ∧ MZ Y (upF (upF S m 5 a) m 6 b) (shN n) (shT n T S) sn bl B im2) rm lm) noX := by
  have hk0 := kdM
  have hks := kds
  obtain ⟨r0, r1, r3, r5, r6, r11⟩ := id hM
  have hR : MS im S im := ⟨hZ.1, fun _ _ => rfl⟩
  refine Con.ofN (k := 0) (L0 := [some (pv (some 240)), some (.int (x)), some (.int (a)), some (.int (b))]) hlt (by decide +kernel) rfl rfl (by rw [en1 pv_cat, en1 rfl, en1 rfl, en1 rfl, en0]; exact Nat.le_of_ble_eq_true rfl) (by rw [en1 pv_cat, en1 rfl, en1 rfl, en1 rfl, en0]; rfl) ?_
  obtain ⟨hm, rfl⟩ := maO_some hmo
  refine t_aload0 dX5_gear_0 ?_
  refine t_iload1 dX5_gear_1 ?_
  refine g_callS1P (M_isMill (l := l) hlt) rfl mc_X5_isMill ml_X5_94 mi_X5_isMill in_X5 (okc_X5_isMill (by decide)) dX5_gear_2 (cat_le (Nat.le_of_ble_eq_true rfl)) ?_
  rw [bI_t (ma_in hmo)]
  refine pw_if_ne 12 dX5_gear_5 (by decide) (fun _ => ?_) (fun h => absurd (by decide) h)
  refine t_iload2 dX5_gear_12 ?_
  refine pw_bipush (8) dX5_gear_13 (by decide) ?_
  refine pw_bipush (60) dX5_gear_15 (by decide) ?_
  refine g_callS3P (M_in (l := l) hlt) rfl mc_X5_in ml_X5_36 mi_X5_in in_X5 (okc_X5_in (by decide)) dX5_gear_17 (cat_le (Nat.le_of_ble_eq_true rfl)) ?_
  rw [bI_t ha]
  refine pw_if_eq 34 dX5_gear_20 (by decide) (fun h => absurd h (by decide)) (fun _ => ?_)
  refine t_iload3 dX5_gear_23 ?_
  refine pw_bipush (8) dX5_gear_24 (by decide) ?_
  refine pw_bipush (60) dX5_gear_26 (by decide) ?_
  refine g_callS3P (M_in (l := l) hlt) rfl mc_X5_in ml_X5_36 mi_X5_in in_X5 (okc_X5_in (by decide)) dX5_gear_28 (cat_le (Nat.le_of_ble_eq_true rfl)) ?_
  rw [bI_t hb]
  refine pw_if_ne 38 dX5_gear_31 (by decide) (fun _ => ?_) (fun h => absurd (by decide) h)
  refine pw_iconst (0) dX5_gear_38 (by decide) ?_
  refine g_callV1I (M_holdsT (l := l) hlt) rfl ft5 rfl mc_X5_holds ml_X5_98 mi_X5_holds ms_X5_holds in_X5 (okc_X5_holds (by decide)) dX5_gear_39 (by assumption) (cat_le (Nat.le_of_ble_eq_true rfl)) (fun zx39 zim39 zh39 => ?_)
  obtain ⟨rfl, rfl⟩ := zh39
  have hZ1 := hZ.th (x := 0)
  have hR : MS (ui im 240 8 0) S (ui im 240 8 0) := ⟨hZ1.1, fun _ _ => rfl⟩
  refine pw_if_ne 47 dX5_gear_42 (by decide) (fun _ => ?_) (fun h => absurd (by decide) h)
  refine t_aload0 dX5_gear_47 ?_
  refine g_callV0V (M_save (l := l) hlt hM hZ1.1 hZ1.2.1) rfl ft5 rfl mc_X5_save ml_X5_101 mi_X5_save ms_X5_save in_X5 (okc_X5_save (by decide)) dX5_gear_48 (by assumption) (cat_le (Nat.le_of_ble_eq_true rfl)) (fun zim48 zh48 => ?_)
  have hZ2 := hZ1.saved zh48
  have hR : MS zim48 S zim48 := ⟨hZ2.1, fun _ _ => rfl⟩
  have hth : zim48 240 8 = 0 := (zh48.2.2 8 (by decide)).trans th_at
  refine t_aload0 dX5_gear_51 ?_
  refine t_iload1 dX5_gear_52 ?_
  refine t_iload2 dX5_gear_53 ?_
  refine t_iload3 dX5_gear_54 ?_
  refine g_callV3I (M_gears (l := l) hlt hM hR (m := m) hm (fun z => by have := b8 hb.1; rw [z] at this; exact absurd this (by decide))) rfl ft5 rfl mc_X5_gears ml_X5_104 mi_X5_gears ms_X5_gears in_X5 (okc_X5_gears (by decide)) dX5_gear_55 (by assumption) (cat_le (Nat.le_of_ble_eq_true rfl)) (fun zx55 zim55 zh55 => ?_)
  obtain ⟨zx, hR⟩ := zh55
  refine pw_iret dX5_gear_58 rfl ?_
  exact ⟨rfl, rfl, rfl, _, rfl, zx.trans (tof_g (b8 hb.1)), (congrFun (hR.2 240 (by decide)) 8).trans hth, hZ2.step hR⟩
set_option maxHeartbeats 4000000 in
set_option maxRecDepth 100000 in
theorem M_gearI {l : Launch} (hlt : l.stackTraces = false) {im : TI} {rm : TP} {lm : TL} {Y : TI} {S : CS} {n : Nat} {T : Nat → CS} {sn : Option CS} {bl : Nat} {B : Nat → Int32} (hM : MM rm) (hZ : MZ Y S n T sn bl B im) {x a b : Int32} (hmo : maO x = none) : Con l m_X5_gear 9 0 0 NN [pv (some 240), .int (x), .int (a), .int (b)] im rm lm (QI (fun x im2 => im2 240 8 = 1 ∧ MZ Y S n T sn bl B im2) rm lm) noX := by
  have hk0 := kdM
  have hks := kds
  obtain ⟨r0, r1, r3, r5, r6, r11⟩ := id hM
  have hR : MS im S im := ⟨hZ.1, fun _ _ => rfl⟩
  refine Con.ofN (k := 0) (L0 := [some (pv (some 240)), some (.int (x)), some (.int (a)), some (.int (b))]) hlt (by decide +kernel) rfl rfl (by rw [en1 pv_cat, en1 rfl, en1 rfl, en1 rfl, en0]; exact Nat.le_of_ble_eq_true rfl) (by rw [en1 pv_cat, en1 rfl, en1 rfl, en1 rfl, en0]; rfl) ?_
  refine t_aload0 dX5_gear_0 ?_
  refine t_iload1 dX5_gear_1 ?_
  refine g_callS1P (M_isMill (l := l) hlt) rfl mc_X5_isMill ml_X5_94 mi_X5_isMill in_X5 (okc_X5_isMill (by decide)) dX5_gear_2 (cat_le (Nat.le_of_ble_eq_true rfl)) ?_
  rw [bI_f (ma_out hmo)]
  refine pw_if_ne 12 dX5_gear_5 (by decide) (fun h => absurd h (by decide)) (fun _ => ?_)
  refine pw_iconst (1) dX5_gear_8 (by decide) ?_
  refine pw_goto 39 dX5_gear_9 (by decide) ?_
  refine g_callV1I (M_holds1 (l := l) hlt) rfl ft5 rfl mc_X5_holds ml_X5_98 mi_X5_holds ms_X5_holds in_X5 (okc_X5_holds (by decide)) dX5_gear_39 (by assumption) (cat_le (Nat.le_of_ble_eq_true rfl)) (fun zx39 zim39 zh39 => ?_)
  obtain ⟨rfl, rfl⟩ := zh39
  refine pw_if_ne 47 dX5_gear_42 (by decide) (fun h => absurd h (by decide)) (fun _ => ?_)
  refine pw_iconst (0) dX5_gear_45 (by decide) ?_
  refine pw_iret dX5_gear_46 rfl ?_
  exact ⟨rfl, rfl, rfl, _, rfl, th_at, hZ.th⟩
set_option maxHeartbeats 4000000 in
set_option maxRecDepth 100000 in
theorem M_gearA1 {l : Launch} (hlt : l.stackTraces = false) {im : TI} {rm : TP} {lm : TL} {Y : TI} {S : CS} {n : Nat} {T : Nat → CS} {sn : Option CS} {bl : Nat} {B : Nat → Int32} (hM : MM rm) (hZ : MZ Y S n T sn bl B im) {x a b : Int32} {m : Nat} (hmo : maO x = some m) (ha : ¬ (8 ≤ a ∧ a ≤ 60)) : Con l m_X5_gear 9 0 0 NN [pv (some 240), .int (x), .int (a), .int (b)] im rm lm (QI (fun x im2 => im2 240 8 = 2 ∧ MZ Y S n T sn bl B im2) rm lm) noX := by
  have hk0 := kdM
  have hks := kds
  obtain ⟨r0, r1, r3, r5, r6, r11⟩ := id hM
  have hR : MS im S im := ⟨hZ.1, fun _ _ => rfl⟩
  refine Con.ofN (k := 0) (L0 := [some (pv (some 240)), some (.int (x)), some (.int (a)), some (.int (b))]) hlt (by decide +kernel) rfl rfl (by rw [en1 pv_cat, en1 rfl, en1 rfl, en1 rfl, en0]; exact Nat.le_of_ble_eq_true rfl) (by rw [en1 pv_cat, en1 rfl, en1 rfl, en1 rfl, en0]; rfl) ?_
  refine t_aload0 dX5_gear_0 ?_
  refine t_iload1 dX5_gear_1 ?_
  refine g_callS1P (M_isMill (l := l) hlt) rfl mc_X5_isMill ml_X5_94 mi_X5_isMill in_X5 (okc_X5_isMill (by decide)) dX5_gear_2 (cat_le (Nat.le_of_ble_eq_true rfl)) ?_
  rw [bI_t (ma_in hmo)]
  refine pw_if_ne 12 dX5_gear_5 (by decide) (fun _ => ?_) (fun h => absurd (by decide) h)
  refine t_iload2 dX5_gear_12 ?_
  refine pw_bipush (8) dX5_gear_13 (by decide) ?_
  refine pw_bipush (60) dX5_gear_15 (by decide) ?_
  refine g_callS3P (M_in (l := l) hlt) rfl mc_X5_in ml_X5_36 mi_X5_in in_X5 (okc_X5_in (by decide)) dX5_gear_17 (cat_le (Nat.le_of_ble_eq_true rfl)) ?_
  rw [bI_f ha]
  refine pw_if_eq 34 dX5_gear_20 (by decide) (fun _ => ?_) (fun h => absurd (by decide) h)
  refine pw_iconst (2) dX5_gear_34 (by decide) ?_
  refine pw_goto 39 dX5_gear_35 (by decide) ?_
  refine g_callV1I (M_holds2 (l := l) hlt) rfl ft5 rfl mc_X5_holds ml_X5_98 mi_X5_holds ms_X5_holds in_X5 (okc_X5_holds (by decide)) dX5_gear_39 (by assumption) (cat_le (Nat.le_of_ble_eq_true rfl)) (fun zx39 zim39 zh39 => ?_)
  obtain ⟨rfl, rfl⟩ := zh39
  refine pw_if_ne 47 dX5_gear_42 (by decide) (fun h => absurd h (by decide)) (fun _ => ?_)
  refine pw_iconst (0) dX5_gear_45 (by decide) ?_
  refine pw_iret dX5_gear_46 rfl ?_
  exact ⟨rfl, rfl, rfl, _, rfl, th_at, hZ.th⟩
set_option maxHeartbeats 4000000 in
set_option maxRecDepth 100000 in
theorem M_gearA2 {l : Launch} (hlt : l.stackTraces = false) {im : TI} {rm : TP} {lm : TL} {Y : TI} {S : CS} {n : Nat} {T : Nat → CS} {sn : Option CS} {bl : Nat} {B : Nat → Int32} (hM : MM rm) (hZ : MZ Y S n T sn bl B im) {x a b : Int32} {m : Nat} (hmo : maO x = some m) (ha : 8 ≤ a ∧ a ≤ 60) (hb : ¬ (8 ≤ b ∧ b ≤ 60)) : Con l m_X5_gear 9 0 0 NN [pv (some 240), .int (x), .int (a), .int (b)] im rm lm (QI (fun x im2 => im2 240 8 = 2 ∧ MZ Y S n T sn bl B im2) rm lm) noX := by
  have hk0 := kdM
  have hks := kds
  obtain ⟨r0, r1, r3, r5, r6, r11⟩ := id hM
  have hR : MS im S im := ⟨hZ.1, fun _ _ => rfl⟩
  refine Con.ofN (k := 0) (L0 := [some (pv (some 240)), some (.int (x)), some (.int (a)), some (.int (b))]) hlt (by decide +kernel) rfl rfl (by rw [en1 pv_cat, en1 rfl, en1 rfl, en1 rfl, en0]; exact Nat.le_of_ble_eq_true rfl) (by rw [en1 pv_cat, en1 rfl, en1 rfl, en1 rfl, en0]; rfl) ?_
  refine t_aload0 dX5_gear_0 ?_
  refine t_iload1 dX5_gear_1 ?_
  refine g_callS1P (M_isMill (l := l) hlt) rfl mc_X5_isMill ml_X5_94 mi_X5_isMill in_X5 (okc_X5_isMill (by decide)) dX5_gear_2 (cat_le (Nat.le_of_ble_eq_true rfl)) ?_
  rw [bI_t (ma_in hmo)]
  refine pw_if_ne 12 dX5_gear_5 (by decide) (fun _ => ?_) (fun h => absurd (by decide) h)
  refine t_iload2 dX5_gear_12 ?_
  refine pw_bipush (8) dX5_gear_13 (by decide) ?_
  refine pw_bipush (60) dX5_gear_15 (by decide) ?_
  refine g_callS3P (M_in (l := l) hlt) rfl mc_X5_in ml_X5_36 mi_X5_in in_X5 (okc_X5_in (by decide)) dX5_gear_17 (cat_le (Nat.le_of_ble_eq_true rfl)) ?_
  rw [bI_t ha]
  refine pw_if_eq 34 dX5_gear_20 (by decide) (fun h => absurd h (by decide)) (fun _ => ?_)
  refine t_iload3 dX5_gear_23 ?_
  refine pw_bipush (8) dX5_gear_24 (by decide) ?_
  refine pw_bipush (60) dX5_gear_26 (by decide) ?_
  refine g_callS3P (M_in (l := l) hlt) rfl mc_X5_in ml_X5_36 mi_X5_in in_X5 (okc_X5_in (by decide)) dX5_gear_28 (cat_le (Nat.le_of_ble_eq_true rfl)) ?_
  rw [bI_f hb]
  refine pw_if_ne 38 dX5_gear_31 (by decide) (fun h => absurd h (by decide)) (fun _ => ?_)
  refine pw_iconst (2) dX5_gear_34 (by decide) ?_
  refine pw_goto 39 dX5_gear_35 (by decide) ?_
  refine g_callV1I (M_holds2 (l := l) hlt) rfl ft5 rfl mc_X5_holds ml_X5_98 mi_X5_holds ms_X5_holds in_X5 (okc_X5_holds (by decide)) dX5_gear_39 (by assumption) (cat_le (Nat.le_of_ble_eq_true rfl)) (fun zx39 zim39 zh39 => ?_)
  obtain ⟨rfl, rfl⟩ := zh39
  refine pw_if_ne 47 dX5_gear_42 (by decide) (fun h => absurd h (by decide)) (fun _ => ?_)
  refine pw_iconst (0) dX5_gear_45 (by decide) ?_
  refine pw_iret dX5_gear_46 rfl ?_
  exact ⟨rfl, rfl, rfl, _, rfl, th_at, hZ.th⟩
set_option maxHeartbeats 4000000 in
set_option maxRecDepth 100000 in
theorem M_set0 {l : Launch} (hlt : l.stackTraces = false) {im : TI} {rm : TP} {lm : TL} {Y : TI} {S : CS} {n : Nat} {T : Nat → CS} {sn : Option CS} {bl : Nat} {B : Nat → Int32} (hM : MM rm) (hZ : MZ Y S n T sn bl B im) {a : Int32} (ha : (1 : Int32) ≤ a ∧ a ≤ 15) : Con l m_X5_set 9 0 0 NN [pv (some 240), .int (0), .int (a)] im rm lm (QI (fun y im2 => y = S.1 9 ∧ im2 240 8 = 0 ∧ MZ Y (upG S 9 a) (shN n) (shT n T S) sn bl B im2) rm lm) noX := by
  have hk0 := kdM
  have hks := kds
  obtain ⟨r0, r1, r3, r5, r6, r11⟩ := id hM
  have hR : MS im S im := ⟨hZ.1, fun _ _ => rfl⟩
  refine Con.ofN (k := 2) (L0 := [some (pv (some 240)), some (.int (0)), some (.int (a)), none, none]) hlt (by decide +kernel) rfl rfl (by rw [en1 pv_cat, en1 rfl, en1 rfl, en0]; exact Nat.le_of_ble_eq_true rfl) (by rw [en1 pv_cat, en1 rfl, en1 rfl, en0]; rfl) ?_
  refine t_iload1 dX5_set_0 ?_
  refine pw_if_ne 14 dX5_set_1 (by decide) (fun h => absurd h (by decide)) (fun _ => ?_)
  refine t_iload2 dX5_set_4 ?_
  refine pw_iconst (1) dX5_set_5 (by decide) ?_
  refine pw_bipush (15) dX5_set_6 (by decide) ?_
  refine g_callS3P (M_in (l := l) hlt) rfl mc_X5_in ml_X5_36 mi_X5_in in_X5 (okc_X5_in (by decide)) dX5_set_8 (cat_le (Nat.le_of_ble_eq_true rfl)) ?_
  rw [bI_t ha]
  refine pw_goto 36 dX5_set_11 (by decide) ?_
  refine t_istore3 dX5_set_36 (by decide) okp_i ?_
  refine t_aload0 dX5_set_37 ?_
  refine t_iload1 dX5_set_38 ?_
  refine pw_iconst (0) dX5_set_39 (by decide) ?_
  refine pw_iconst (2) dX5_set_40 (by decide) ?_
  refine g_callS3P (M_in (l := l) hlt) rfl mc_X5_in ml_X5_36 mi_X5_in in_X5 (okc_X5_in (by decide)) dX5_set_41 (cat_le (Nat.le_of_ble_eq_true rfl)) ?_
  rw [bI_t (by decide)]
  refine pw_if_ne 51 dX5_set_44 (by decide) (fun _ => ?_) (fun h => absurd (by decide) h)
  refine t_iload3 dX5_set_51 ?_
  refine pw_if_ne 59 dX5_set_52 (by decide) (fun _ => ?_) (fun h => absurd (by decide) h)
  refine pw_iconst (0) dX5_set_59 (by decide) ?_
  refine g_callV1I (M_holdsT (l := l) hlt) rfl ft5 rfl mc_X5_holds ml_X5_98 mi_X5_holds ms_X5_holds in_X5 (okc_X5_holds (by decide)) dX5_set_60 (by assumption) (cat_le (Nat.le_of_ble_eq_true rfl)) (fun zx60 zim60 zh60 => ?_)
  obtain ⟨rfl, rfl⟩ := zh60
  have hZ1 := hZ.th (x := 0)
  have hR : MS (ui im 240 8 0) S (ui im 240 8 0) := ⟨hZ1.1, fun _ _ => rfl⟩
  refine pw_if_ne 68 dX5_set_63 (by decide) (fun _ => ?_) (fun h => absurd (by decide) h)
  refine t_aload0 dX5_set_68 ?_
  refine g_callV0V (M_save (l := l) hlt hM hZ1.1 hZ1.2.1) rfl ft5 rfl mc_X5_save ml_X5_101 mi_X5_save ms_X5_save in_X5 (okc_X5_save (by decide)) dX5_set_69 (by assumption) (cat_le (Nat.le_of_ble_eq_true rfl)) (fun zim69 zh69 => ?_)
  have hZ2 := hZ1.saved zh69
  have hR : MS zim69 S zim69 := ⟨hZ2.1, fun _ _ => rfl⟩
  have hth : zim69 240 8 = 0 := (zh69.2.2 8 (by decide)).trans th_at
  refine t_aload0 dX5_set_72 ?_
  refine g_getr ft5 fl_X5_7 (j := 0) (by decide) dX5_set_73 (by assumption) (by assumption) ?_
  refine pw_bipush (9) dX5_set_76 (by decide) ?_
  refine t_iload1 dX5_set_78 ?_
  refine pw_iadd dX5_set_79 ?_
  refine m_ldG (j := 9) dX5_set_80 hR (by decide) (by decide) ?_
  refine t_istore4 dX5_set_81 (by decide) okp_i ?_
  refine t_aload0 dX5_set_83 ?_
  refine g_getr ft5 fl_X5_7 (j := 0) (by decide) dX5_set_84 (by assumption) (by assumption) ?_
  refine pw_bipush (9) dX5_set_87 (by decide) ?_
  refine t_iload1 dX5_set_89 ?_
  refine pw_iadd dX5_set_90 ?_
  refine t_iload2 dX5_set_91 ?_
  refine m_stG (j := 9) dX5_set_92 hR (by decide) (by decide) (fun zi92 hR => ?_)
  refine t_iload4 dX5_set_93 ?_
  refine pw_iret dX5_set_95 rfl ?_
  exact ⟨rfl, rfl, rfl, _, rfl, rfl, (congrFun (hR.2 240 (by decide)) 8).trans hth, hZ2.step hR⟩
set_option maxHeartbeats 4000000 in
set_option maxRecDepth 100000 in
theorem M_set0A {l : Launch} (hlt : l.stackTraces = false) {im : TI} {rm : TP} {lm : TL} {Y : TI} {S : CS} {n : Nat} {T : Nat → CS} {sn : Option CS} {bl : Nat} {B : Nat → Int32} (hM : MM rm) (hZ : MZ Y S n T sn bl B im) {a : Int32} (ha : ¬ ((1 : Int32) ≤ a ∧ a ≤ 15)) : Con l m_X5_set 9 0 0 NN [pv (some 240), .int (0), .int (a)] im rm lm (QI (fun x im2 => im2 240 8 = 2 ∧ MZ Y S n T sn bl B im2) rm lm) noX := by
  have hk0 := kdM
  have hks := kds
  obtain ⟨r0, r1, r3, r5, r6, r11⟩ := id hM
  have hR : MS im S im := ⟨hZ.1, fun _ _ => rfl⟩
  refine Con.ofN (k := 2) (L0 := [some (pv (some 240)), some (.int (0)), some (.int (a)), none, none]) hlt (by decide +kernel) rfl rfl (by rw [en1 pv_cat, en1 rfl, en1 rfl, en0]; exact Nat.le_of_ble_eq_true rfl) (by rw [en1 pv_cat, en1 rfl, en1 rfl, en0]; rfl) ?_
  refine t_iload1 dX5_set_0 ?_
  refine pw_if_ne 14 dX5_set_1 (by decide) (fun h => absurd h (by decide)) (fun _ => ?_)
  refine t_iload2 dX5_set_4 ?_
  refine pw_iconst (1) dX5_set_5 (by decide) ?_
  refine pw_bipush (15) dX5_set_6 (by decide) ?_
  refine g_callS3P (M_in (l := l) hlt) rfl mc_X5_in ml_X5_36 mi_X5_in in_X5 (okc_X5_in (by decide)) dX5_set_8 (cat_le (Nat.le_of_ble_eq_true rfl)) ?_
  rw [bI_f ha]
  refine pw_goto 36 dX5_set_11 (by decide) ?_
  refine t_istore3 dX5_set_36 (by decide) okp_i ?_
  refine t_aload0 dX5_set_37 ?_
  refine t_iload1 dX5_set_38 ?_
  refine pw_iconst (0) dX5_set_39 (by decide) ?_
  refine pw_iconst (2) dX5_set_40 (by decide) ?_
  refine g_callS3P (M_in (l := l) hlt) rfl mc_X5_in ml_X5_36 mi_X5_in in_X5 (okc_X5_in (by decide)) dX5_set_41 (cat_le (Nat.le_of_ble_eq_true rfl)) ?_
  rw [bI_t (by decide)]
  refine pw_if_ne 51 dX5_set_44 (by decide) (fun _ => ?_) (fun h => absurd (by decide) h)
  refine t_iload3 dX5_set_51 ?_
  refine pw_if_ne 59 dX5_set_52 (by decide) (fun h => absurd h (by decide)) (fun _ => ?_)
  refine pw_iconst (2) dX5_set_55 (by decide) ?_
  refine pw_goto 60 dX5_set_56 (by decide) ?_
  refine g_callV1I (M_holds2 (l := l) hlt) rfl ft5 rfl mc_X5_holds ml_X5_98 mi_X5_holds ms_X5_holds in_X5 (okc_X5_holds (by decide)) dX5_set_60 (by assumption) (cat_le (Nat.le_of_ble_eq_true rfl)) (fun zx60 zim60 zh60 => ?_)
  obtain ⟨rfl, rfl⟩ := zh60
  refine pw_if_ne 68 dX5_set_63 (by decide) (fun h => absurd h (by decide)) (fun _ => ?_)
  refine pw_iconst (0) dX5_set_66 (by decide) ?_
  refine pw_iret dX5_set_67 rfl ?_
  exact ⟨rfl, rfl, rfl, _, rfl, th_at, hZ.th⟩
set_option maxHeartbeats 4000000 in
set_option maxRecDepth 100000 in
theorem M_set1 {l : Launch} (hlt : l.stackTraces = false) {im : TI} {rm : TP} {lm : TL} {Y : TI} {S : CS} {n : Nat} {T : Nat → CS} {sn : Option CS} {bl : Nat} {B : Nat → Int32} (hM : MM rm) (hZ : MZ Y S n T sn bl B im) {a : Int32} (ha : (0 : Int32) ≤ a ∧ a ≤ 100) : Con l m_X5_set 9 0 0 NN [pv (some 240), .int (1), .int (a)] im rm lm (QI (fun y im2 => y = S.1 10 ∧ im2 240 8 = 0 ∧ MZ Y (upG S 10 a) (shN n) (shT n T S) sn bl B im2) rm lm) noX := by
  have hk0 := kdM
  have hks := kds
  obtain ⟨r0, r1, r3, r5, r6, r11⟩ := id hM
  have hR : MS im S im := ⟨hZ.1, fun _ _ => rfl⟩
  refine Con.ofN (k := 2) (L0 := [some (pv (some 240)), some (.int (1)), some (.int (a)), none, none]) hlt (by decide +kernel) rfl rfl (by rw [en1 pv_cat, en1 rfl, en1 rfl, en0]; exact Nat.le_of_ble_eq_true rfl) (by rw [en1 pv_cat, en1 rfl, en1 rfl, en0]; rfl) ?_
  refine t_iload1 dX5_set_0 ?_
  refine pw_if_ne 14 dX5_set_1 (by decide) (fun _ => ?_) (fun h => absurd (by decide) h)
  refine t_iload1 dX5_set_14 ?_
  refine pw_iconst (1) dX5_set_15 (by decide) ?_
  refine pw_icmp_ne 29 dX5_set_16 (by decide) (fun h => absurd h (by decide)) (fun _ => ?_)
  refine t_iload2 dX5_set_19 ?_
  refine pw_iconst (0) dX5_set_20 (by decide) ?_
  refine pw_bipush (100) dX5_set_21 (by decide) ?_
  refine g_callS3P (M_in (l := l) hlt) rfl mc_X5_in ml_X5_36 mi_X5_in in_X5 (okc_X5_in (by decide)) dX5_set_23 (cat_le (Nat.le_of_ble_eq_true rfl)) ?_
  rw [bI_t ha]
  refine pw_goto 36 dX5_set_26 (by decide) ?_
  refine t_istore3 dX5_set_36 (by decide) okp_i ?_
  refine t_aload0 dX5_set_37 ?_
  refine t_iload1 dX5_set_38 ?_
  refine pw_iconst (0) dX5_set_39 (by decide) ?_
  refine pw_iconst (2) dX5_set_40 (by decide) ?_
  refine g_callS3P (M_in (l := l) hlt) rfl mc_X5_in ml_X5_36 mi_X5_in in_X5 (okc_X5_in (by decide)) dX5_set_41 (cat_le (Nat.le_of_ble_eq_true rfl)) ?_
  rw [bI_t (by decide)]
  refine pw_if_ne 51 dX5_set_44 (by decide) (fun _ => ?_) (fun h => absurd (by decide) h)
  refine t_iload3 dX5_set_51 ?_
  refine pw_if_ne 59 dX5_set_52 (by decide) (fun _ => ?_) (fun h => absurd (by decide) h)
  refine pw_iconst (0) dX5_set_59 (by decide) ?_
  refine g_callV1I (M_holdsT (l := l) hlt) rfl ft5 rfl mc_X5_holds ml_X5_98 mi_X5_holds ms_X5_holds in_X5 (okc_X5_holds (by decide)) dX5_set_60 (by assumption) (cat_le (Nat.le_of_ble_eq_true rfl)) (fun zx60 zim60 zh60 => ?_)
  obtain ⟨rfl, rfl⟩ := zh60
  have hZ1 := hZ.th (x := 0)
  have hR : MS (ui im 240 8 0) S (ui im 240 8 0) := ⟨hZ1.1, fun _ _ => rfl⟩
  refine pw_if_ne 68 dX5_set_63 (by decide) (fun _ => ?_) (fun h => absurd (by decide) h)
  refine t_aload0 dX5_set_68 ?_
  refine g_callV0V (M_save (l := l) hlt hM hZ1.1 hZ1.2.1) rfl ft5 rfl mc_X5_save ml_X5_101 mi_X5_save ms_X5_save in_X5 (okc_X5_save (by decide)) dX5_set_69 (by assumption) (cat_le (Nat.le_of_ble_eq_true rfl)) (fun zim69 zh69 => ?_)
  have hZ2 := hZ1.saved zh69
  have hR : MS zim69 S zim69 := ⟨hZ2.1, fun _ _ => rfl⟩
  have hth : zim69 240 8 = 0 := (zh69.2.2 8 (by decide)).trans th_at
  refine t_aload0 dX5_set_72 ?_
  refine g_getr ft5 fl_X5_7 (j := 0) (by decide) dX5_set_73 (by assumption) (by assumption) ?_
  refine pw_bipush (9) dX5_set_76 (by decide) ?_
  refine t_iload1 dX5_set_78 ?_
  refine pw_iadd dX5_set_79 ?_
  refine m_ldG (j := 10) dX5_set_80 hR (by decide) (by decide) ?_
  refine t_istore4 dX5_set_81 (by decide) okp_i ?_
  refine t_aload0 dX5_set_83 ?_
  refine g_getr ft5 fl_X5_7 (j := 0) (by decide) dX5_set_84 (by assumption) (by assumption) ?_
  refine pw_bipush (9) dX5_set_87 (by decide) ?_
  refine t_iload1 dX5_set_89 ?_
  refine pw_iadd dX5_set_90 ?_
  refine t_iload2 dX5_set_91 ?_
  refine m_stG (j := 10) dX5_set_92 hR (by decide) (by decide) (fun zi92 hR => ?_)
  refine t_iload4 dX5_set_93 ?_
  refine pw_iret dX5_set_95 rfl ?_
  exact ⟨rfl, rfl, rfl, _, rfl, rfl, (congrFun (hR.2 240 (by decide)) 8).trans hth, hZ2.step hR⟩
set_option maxHeartbeats 4000000 in
set_option maxRecDepth 100000 in
theorem M_set1A {l : Launch} (hlt : l.stackTraces = false) {im : TI} {rm : TP} {lm : TL} {Y : TI} {S : CS} {n : Nat} {T : Nat → CS} {sn : Option CS} {bl : Nat} {B : Nat → Int32} (hM : MM rm) (hZ : MZ Y S n T sn bl B im) {a : Int32} (ha : ¬ ((0 : Int32) ≤ a ∧ a ≤ 100)) : Con l m_X5_set 9 0 0 NN [pv (some 240), .int (1), .int (a)] im rm lm (QI (fun x im2 => im2 240 8 = 2 ∧ MZ Y S n T sn bl B im2) rm lm) noX := by
  have hk0 := kdM
  have hks := kds
  obtain ⟨r0, r1, r3, r5, r6, r11⟩ := id hM
  have hR : MS im S im := ⟨hZ.1, fun _ _ => rfl⟩
  refine Con.ofN (k := 2) (L0 := [some (pv (some 240)), some (.int (1)), some (.int (a)), none, none]) hlt (by decide +kernel) rfl rfl (by rw [en1 pv_cat, en1 rfl, en1 rfl, en0]; exact Nat.le_of_ble_eq_true rfl) (by rw [en1 pv_cat, en1 rfl, en1 rfl, en0]; rfl) ?_
  refine t_iload1 dX5_set_0 ?_
  refine pw_if_ne 14 dX5_set_1 (by decide) (fun _ => ?_) (fun h => absurd (by decide) h)
  refine t_iload1 dX5_set_14 ?_
  refine pw_iconst (1) dX5_set_15 (by decide) ?_
  refine pw_icmp_ne 29 dX5_set_16 (by decide) (fun h => absurd h (by decide)) (fun _ => ?_)
  refine t_iload2 dX5_set_19 ?_
  refine pw_iconst (0) dX5_set_20 (by decide) ?_
  refine pw_bipush (100) dX5_set_21 (by decide) ?_
  refine g_callS3P (M_in (l := l) hlt) rfl mc_X5_in ml_X5_36 mi_X5_in in_X5 (okc_X5_in (by decide)) dX5_set_23 (cat_le (Nat.le_of_ble_eq_true rfl)) ?_
  rw [bI_f ha]
  refine pw_goto 36 dX5_set_26 (by decide) ?_
  refine t_istore3 dX5_set_36 (by decide) okp_i ?_
  refine t_aload0 dX5_set_37 ?_
  refine t_iload1 dX5_set_38 ?_
  refine pw_iconst (0) dX5_set_39 (by decide) ?_
  refine pw_iconst (2) dX5_set_40 (by decide) ?_
  refine g_callS3P (M_in (l := l) hlt) rfl mc_X5_in ml_X5_36 mi_X5_in in_X5 (okc_X5_in (by decide)) dX5_set_41 (cat_le (Nat.le_of_ble_eq_true rfl)) ?_
  rw [bI_t (by decide)]
  refine pw_if_ne 51 dX5_set_44 (by decide) (fun _ => ?_) (fun h => absurd (by decide) h)
  refine t_iload3 dX5_set_51 ?_
  refine pw_if_ne 59 dX5_set_52 (by decide) (fun h => absurd h (by decide)) (fun _ => ?_)
  refine pw_iconst (2) dX5_set_55 (by decide) ?_
  refine pw_goto 60 dX5_set_56 (by decide) ?_
  refine g_callV1I (M_holds2 (l := l) hlt) rfl ft5 rfl mc_X5_holds ml_X5_98 mi_X5_holds ms_X5_holds in_X5 (okc_X5_holds (by decide)) dX5_set_60 (by assumption) (cat_le (Nat.le_of_ble_eq_true rfl)) (fun zx60 zim60 zh60 => ?_)
  obtain ⟨rfl, rfl⟩ := zh60
  refine pw_if_ne 68 dX5_set_63 (by decide) (fun h => absurd h (by decide)) (fun _ => ?_)
  refine pw_iconst (0) dX5_set_66 (by decide) ?_
  refine pw_iret dX5_set_67 rfl ?_
  exact ⟨rfl, rfl, rfl, _, rfl, th_at, hZ.th⟩
set_option maxHeartbeats 4000000 in
set_option maxRecDepth 100000 in
theorem M_set2 {l : Launch} (hlt : l.stackTraces = false) {im : TI} {rm : TP} {lm : TL} {Y : TI} {S : CS} {n : Nat} {T : Nat → CS} {sn : Option CS} {bl : Nat} {B : Nat → Int32} (hM : MM rm) (hZ : MZ Y S n T sn bl B im) {a : Int32} (ha : (5 : Int32) ≤ a ∧ a ≤ 100) : Con l m_X5_set 9 0 0 NN [pv (some 240), .int (2), .int (a)] im rm lm (QI (fun y im2 => y = S.1 11 ∧ im2 240 8 = 0 ∧ MZ Y (upG S 11 a) (shN n) (shT n T S) sn bl B im2) rm lm) noX := by
  have hk0 := kdM
  have hks := kds
  obtain ⟨r0, r1, r3, r5, r6, r11⟩ := id hM
  have hR : MS im S im := ⟨hZ.1, fun _ _ => rfl⟩
  refine Con.ofN (k := 2) (L0 := [some (pv (some 240)), some (.int (2)), some (.int (a)), none, none]) hlt (by decide +kernel) rfl rfl (by rw [en1 pv_cat, en1 rfl, en1 rfl, en0]; exact Nat.le_of_ble_eq_true rfl) (by rw [en1 pv_cat, en1 rfl, en1 rfl, en0]; rfl) ?_
  refine t_iload1 dX5_set_0 ?_
  refine pw_if_ne 14 dX5_set_1 (by decide) (fun _ => ?_) (fun h => absurd (by decide) h)
  refine t_iload1 dX5_set_14 ?_
  refine pw_iconst (1) dX5_set_15 (by decide) ?_
  refine pw_icmp_ne 29 dX5_set_16 (by decide) (fun _ => ?_) (fun h => absurd (by decide) h)
  refine t_iload2 dX5_set_29 ?_
  refine pw_iconst (5) dX5_set_30 (by decide) ?_
  refine pw_bipush (100) dX5_set_31 (by decide) ?_
  refine g_callS3P (M_in (l := l) hlt) rfl mc_X5_in ml_X5_36 mi_X5_in in_X5 (okc_X5_in (by decide)) dX5_set_33 (cat_le (Nat.le_of_ble_eq_true rfl)) ?_
  rw [bI_t ha]
  refine t_istore3 dX5_set_36 (by decide) okp_i ?_
  refine t_aload0 dX5_set_37 ?_
  refine t_iload1 dX5_set_38 ?_
  refine pw_iconst (0) dX5_set_39 (by decide) ?_
  refine pw_iconst (2) dX5_set_40 (by decide) ?_
  refine g_callS3P (M_in (l := l) hlt) rfl mc_X5_in ml_X5_36 mi_X5_in in_X5 (okc_X5_in (by decide)) dX5_set_41 (cat_le (Nat.le_of_ble_eq_true rfl)) ?_
  rw [bI_t (by decide)]
  refine pw_if_ne 51 dX5_set_44 (by decide) (fun _ => ?_) (fun h => absurd (by decide) h)
  refine t_iload3 dX5_set_51 ?_
  refine pw_if_ne 59 dX5_set_52 (by decide) (fun _ => ?_) (fun h => absurd (by decide) h)
  refine pw_iconst (0) dX5_set_59 (by decide) ?_
  refine g_callV1I (M_holdsT (l := l) hlt) rfl ft5 rfl mc_X5_holds ml_X5_98 mi_X5_holds ms_X5_holds in_X5 (okc_X5_holds (by decide)) dX5_set_60 (by assumption) (cat_le (Nat.le_of_ble_eq_true rfl)) (fun zx60 zim60 zh60 => ?_)
  obtain ⟨rfl, rfl⟩ := zh60
  have hZ1 := hZ.th (x := 0)
  have hR : MS (ui im 240 8 0) S (ui im 240 8 0) := ⟨hZ1.1, fun _ _ => rfl⟩
  refine pw_if_ne 68 dX5_set_63 (by decide) (fun _ => ?_) (fun h => absurd (by decide) h)
  refine t_aload0 dX5_set_68 ?_
  refine g_callV0V (M_save (l := l) hlt hM hZ1.1 hZ1.2.1) rfl ft5 rfl mc_X5_save ml_X5_101 mi_X5_save ms_X5_save in_X5 (okc_X5_save (by decide)) dX5_set_69 (by assumption) (cat_le (Nat.le_of_ble_eq_true rfl)) (fun zim69 zh69 => ?_)
  have hZ2 := hZ1.saved zh69
  have hR : MS zim69 S zim69 := ⟨hZ2.1, fun _ _ => rfl⟩
  have hth : zim69 240 8 = 0 := (zh69.2.2 8 (by decide)).trans th_at
  refine t_aload0 dX5_set_72 ?_
  refine g_getr ft5 fl_X5_7 (j := 0) (by decide) dX5_set_73 (by assumption) (by assumption) ?_
  refine pw_bipush (9) dX5_set_76 (by decide) ?_
  refine t_iload1 dX5_set_78 ?_
  refine pw_iadd dX5_set_79 ?_
  refine m_ldG (j := 11) dX5_set_80 hR (by decide) (by decide) ?_
  refine t_istore4 dX5_set_81 (by decide) okp_i ?_
  refine t_aload0 dX5_set_83 ?_
  refine g_getr ft5 fl_X5_7 (j := 0) (by decide) dX5_set_84 (by assumption) (by assumption) ?_
  refine pw_bipush (9) dX5_set_87 (by decide) ?_
  refine t_iload1 dX5_set_89 ?_
  refine pw_iadd dX5_set_90 ?_
  refine t_iload2 dX5_set_91 ?_
  refine m_stG (j := 11) dX5_set_92 hR (by decide) (by decide) (fun zi92 hR => ?_)
  refine t_iload4 dX5_set_93 ?_
  refine pw_iret dX5_set_95 rfl ?_
  exact ⟨rfl, rfl, rfl, _, rfl, rfl, (congrFun (hR.2 240 (by decide)) 8).trans hth, hZ2.step hR⟩
set_option maxHeartbeats 4000000 in
set_option maxRecDepth 100000 in
theorem M_set2A {l : Launch} (hlt : l.stackTraces = false) {im : TI} {rm : TP} {lm : TL} {Y : TI} {S : CS} {n : Nat} {T : Nat → CS} {sn : Option CS} {bl : Nat} {B : Nat → Int32} (hM : MM rm) (hZ : MZ Y S n T sn bl B im) {a : Int32} (ha : ¬ ((5 : Int32) ≤ a ∧ a ≤ 100)) : Con l m_X5_set 9 0 0 NN [pv (some 240), .int (2), .int (a)] im rm lm (QI (fun x im2 => im2 240 8 = 2 ∧ MZ Y S n T sn bl B im2) rm lm) noX := by
  have hk0 := kdM
  have hks := kds
  obtain ⟨r0, r1, r3, r5, r6, r11⟩ := id hM
  have hR : MS im S im := ⟨hZ.1, fun _ _ => rfl⟩
  refine Con.ofN (k := 2) (L0 := [some (pv (some 240)), some (.int (2)), some (.int (a)), none, none]) hlt (by decide +kernel) rfl rfl (by rw [en1 pv_cat, en1 rfl, en1 rfl, en0]; exact Nat.le_of_ble_eq_true rfl) (by rw [en1 pv_cat, en1 rfl, en1 rfl, en0]; rfl) ?_
  refine t_iload1 dX5_set_0 ?_
  refine pw_if_ne 14 dX5_set_1 (by decide) (fun _ => ?_) (fun h => absurd (by decide) h)
  refine t_iload1 dX5_set_14 ?_
  refine pw_iconst (1) dX5_set_15 (by decide) ?_
  refine pw_icmp_ne 29 dX5_set_16 (by decide) (fun _ => ?_) (fun h => absurd (by decide) h)
  refine t_iload2 dX5_set_29 ?_
  refine pw_iconst (5) dX5_set_30 (by decide) ?_
  refine pw_bipush (100) dX5_set_31 (by decide) ?_
  refine g_callS3P (M_in (l := l) hlt) rfl mc_X5_in ml_X5_36 mi_X5_in in_X5 (okc_X5_in (by decide)) dX5_set_33 (cat_le (Nat.le_of_ble_eq_true rfl)) ?_
  rw [bI_f ha]
  refine t_istore3 dX5_set_36 (by decide) okp_i ?_
  refine t_aload0 dX5_set_37 ?_
  refine t_iload1 dX5_set_38 ?_
  refine pw_iconst (0) dX5_set_39 (by decide) ?_
  refine pw_iconst (2) dX5_set_40 (by decide) ?_
  refine g_callS3P (M_in (l := l) hlt) rfl mc_X5_in ml_X5_36 mi_X5_in in_X5 (okc_X5_in (by decide)) dX5_set_41 (cat_le (Nat.le_of_ble_eq_true rfl)) ?_
  rw [bI_t (by decide)]
  refine pw_if_ne 51 dX5_set_44 (by decide) (fun _ => ?_) (fun h => absurd (by decide) h)
  refine t_iload3 dX5_set_51 ?_
  refine pw_if_ne 59 dX5_set_52 (by decide) (fun h => absurd h (by decide)) (fun _ => ?_)
  refine pw_iconst (2) dX5_set_55 (by decide) ?_
  refine pw_goto 60 dX5_set_56 (by decide) ?_
  refine g_callV1I (M_holds2 (l := l) hlt) rfl ft5 rfl mc_X5_holds ml_X5_98 mi_X5_holds ms_X5_holds in_X5 (okc_X5_holds (by decide)) dX5_set_60 (by assumption) (cat_le (Nat.le_of_ble_eq_true rfl)) (fun zx60 zim60 zh60 => ?_)
  obtain ⟨rfl, rfl⟩ := zh60
  refine pw_if_ne 68 dX5_set_63 (by decide) (fun h => absurd h (by decide)) (fun _ => ?_)
  refine pw_iconst (0) dX5_set_66 (by decide) ?_
  refine pw_iret dX5_set_67 rfl ?_
  exact ⟨rfl, rfl, rfl, _, rfl, th_at, hZ.th⟩
set_option maxHeartbeats 4000000 in
set_option maxRecDepth 100000 in
theorem M_setI {l : Launch} (hlt : l.stackTraces = false) {im : TI} {rm : TP} {lm : TL} {Y : TI} {S : CS} {n : Nat} {T : Nat → CS} {sn : Option CS} {bl : Nat} {B : Nat → Int32} (hM : MM rm) (hZ : MZ Y S n T sn bl B im) {x a : Int32} (hx : ¬ (0 ≤ x ∧ x ≤ 2)) : Con l m_X5_set 9 0 0 NN [pv (some 240), .int (x), .int (a)] im rm lm (QI (fun x im2 => im2 240 8 = 1 ∧ MZ Y S n T sn bl B im2) rm lm) noX := by
  have hk0 := kdM
  have hks := kds
  obtain ⟨r0, r1, r3, r5, r6, r11⟩ := id hM
  have hR : MS im S im := ⟨hZ.1, fun _ _ => rfl⟩
  refine Con.ofN (k := 2) (L0 := [some (pv (some 240)), some (.int (x)), some (.int (a)), none, none]) hlt (by decide +kernel) rfl rfl (by rw [en1 pv_cat, en1 rfl, en1 rfl, en0]; exact Nat.le_of_ble_eq_true rfl) (by rw [en1 pv_cat, en1 rfl, en1 rfl, en0]; rfl) ?_
  refine t_iload1 dX5_set_0 ?_
  refine pw_if_ne 14 dX5_set_1 (by decide) (fun zc1 => ?_) (fun zc1 => ?_)
  · refine t_iload1 dX5_set_14 ?_
    refine pw_iconst (1) dX5_set_15 (by decide) ?_
    refine pw_icmp_ne 29 dX5_set_16 (by decide) (fun zc16 => ?_) (fun zc16 => ?_)
    · refine t_iload2 dX5_set_29 ?_
      refine pw_iconst (5) dX5_set_30 (by decide) ?_
      refine pw_bipush (100) dX5_set_31 (by decide) ?_
      refine g_callS3P (M_in (l := l) hlt) rfl mc_X5_in ml_X5_36 mi_X5_in in_X5 (okc_X5_in (by decide)) dX5_set_33 (cat_le (Nat.le_of_ble_eq_true rfl)) ?_
      refine t_istore3 dX5_set_36 (by decide) okp_i ?_
      refine t_aload0 dX5_set_37 ?_
      refine t_iload1 dX5_set_38 ?_
      refine pw_iconst (0) dX5_set_39 (by decide) ?_
      refine pw_iconst (2) dX5_set_40 (by decide) ?_
      refine g_callS3P (M_in (l := l) hlt) rfl mc_X5_in ml_X5_36 mi_X5_in in_X5 (okc_X5_in (by decide)) dX5_set_41 (cat_le (Nat.le_of_ble_eq_true rfl)) ?_
      rw [bI_f hx]
      refine pw_if_ne 51 dX5_set_44 (by decide) (fun h => absurd h (by decide)) (fun _ => ?_)
      refine pw_iconst (1) dX5_set_47 (by decide) ?_
      refine pw_goto 60 dX5_set_48 (by decide) ?_
      refine g_callV1I (M_holds1 (l := l) hlt) rfl ft5 rfl mc_X5_holds ml_X5_98 mi_X5_holds ms_X5_holds in_X5 (okc_X5_holds (by decide)) dX5_set_60 (by assumption) (cat_le (Nat.le_of_ble_eq_true rfl)) (fun zx60 zim60 zh60 => ?_)
      obtain ⟨rfl, rfl⟩ := zh60
      refine pw_if_ne 68 dX5_set_63 (by decide) (fun h => absurd h (by decide)) (fun _ => ?_)
      refine pw_iconst (0) dX5_set_66 (by decide) ?_
      refine pw_iret dX5_set_67 rfl ?_
      exact ⟨rfl, rfl, rfl, _, rfl, th_at, hZ.th⟩
    · refine t_iload2 dX5_set_19 ?_
      refine pw_iconst (0) dX5_set_20 (by decide) ?_
      refine pw_bipush (100) dX5_set_21 (by decide) ?_
      refine g_callS3P (M_in (l := l) hlt) rfl mc_X5_in ml_X5_36 mi_X5_in in_X5 (okc_X5_in (by decide)) dX5_set_23 (cat_le (Nat.le_of_ble_eq_true rfl)) ?_
      refine pw_goto 36 dX5_set_26 (by decide) ?_
      refine t_istore3 dX5_set_36 (by decide) okp_i ?_
      refine t_aload0 dX5_set_37 ?_
      refine t_iload1 dX5_set_38 ?_
      refine pw_iconst (0) dX5_set_39 (by decide) ?_
      refine pw_iconst (2) dX5_set_40 (by decide) ?_
      refine g_callS3P (M_in (l := l) hlt) rfl mc_X5_in ml_X5_36 mi_X5_in in_X5 (okc_X5_in (by decide)) dX5_set_41 (cat_le (Nat.le_of_ble_eq_true rfl)) ?_
      rw [bI_f hx]
      refine pw_if_ne 51 dX5_set_44 (by decide) (fun h => absurd h (by decide)) (fun _ => ?_)
      refine pw_iconst (1) dX5_set_47 (by decide) ?_
      refine pw_goto 60 dX5_set_48 (by decide) ?_
      refine g_callV1I (M_holds1 (l := l) hlt) rfl ft5 rfl mc_X5_holds ml_X5_98 mi_X5_holds ms_X5_holds in_X5 (okc_X5_holds (by decide)) dX5_set_60 (by assumption) (cat_le (Nat.le_of_ble_eq_true rfl)) (fun zx60 zim60 zh60 => ?_)
      obtain ⟨rfl, rfl⟩ := zh60
      refine pw_if_ne 68 dX5_set_63 (by decide) (fun h => absurd h (by decide)) (fun _ => ?_)
      refine pw_iconst (0) dX5_set_66 (by decide) ?_
      refine pw_iret dX5_set_67 rfl ?_
      exact ⟨rfl, rfl, rfl, _, rfl, th_at, hZ.th⟩
  · refine t_iload2 dX5_set_4 ?_
    refine pw_iconst (1) dX5_set_5 (by decide) ?_
    refine pw_bipush (15) dX5_set_6 (by decide) ?_
    refine g_callS3P (M_in (l := l) hlt) rfl mc_X5_in ml_X5_36 mi_X5_in in_X5 (okc_X5_in (by decide)) dX5_set_8 (cat_le (Nat.le_of_ble_eq_true rfl)) ?_
    refine pw_goto 36 dX5_set_11 (by decide) ?_
    refine t_istore3 dX5_set_36 (by decide) okp_i ?_
    refine t_aload0 dX5_set_37 ?_
    refine t_iload1 dX5_set_38 ?_
    refine pw_iconst (0) dX5_set_39 (by decide) ?_
    refine pw_iconst (2) dX5_set_40 (by decide) ?_
    refine g_callS3P (M_in (l := l) hlt) rfl mc_X5_in ml_X5_36 mi_X5_in in_X5 (okc_X5_in (by decide)) dX5_set_41 (cat_le (Nat.le_of_ble_eq_true rfl)) ?_
    rw [bI_f hx]
    refine pw_if_ne 51 dX5_set_44 (by decide) (fun h => absurd h (by decide)) (fun _ => ?_)
    refine pw_iconst (1) dX5_set_47 (by decide) ?_
    refine pw_goto 60 dX5_set_48 (by decide) ?_
    refine g_callV1I (M_holds1 (l := l) hlt) rfl ft5 rfl mc_X5_holds ml_X5_98 mi_X5_holds ms_X5_holds in_X5 (okc_X5_holds (by decide)) dX5_set_60 (by assumption) (cat_le (Nat.le_of_ble_eq_true rfl)) (fun zx60 zim60 zh60 => ?_)
    obtain ⟨rfl, rfl⟩ := zh60
    refine pw_if_ne 68 dX5_set_63 (by decide) (fun h => absurd h (by decide)) (fun _ => ?_)
    refine pw_iconst (0) dX5_set_66 (by decide) ?_
    refine pw_iret dX5_set_67 rfl ?_
    exact ⟨rfl, rfl, rfl, _, rfl, th_at, hZ.th⟩
set_option maxHeartbeats 4000000 in
set_option maxRecDepth 100000 in
theorem M_pass {l : Launch} (hlt : l.stackTraces = false) {im : TI} {rm : TP} {lm : TL} {Y : TI} {S : CS} {n : Nat} {T : Nat → CS} {sn : Option CS} {bl : Nat} {B : Nat → Int32} (hM : MM rm) (hZ : MZ Y S n T sn bl B im) (hW : CW S) {N : Nat} (hN : N < 2 ^ 31) (ha : (1 : Int32) ≤ nI N ∧ nI N ≤ 48) : Con l m_X5_pass 9 0 0 NN [pv (some 240), .int (nI N)] im rm lm (QI (fun y im2 => y = (hsS N S).1 6 - S.1 6 ∧ im2 240 8 = 0 ∧ MZ Y (hsS N S) (shN n) (shT n T S) sn bl B im2) rm lm) noX := by
  have hk0 := kdM
  have hks := kds
  obtain ⟨r0, r1, r3, r5, r6, r11⟩ := id hM
  have hR : MS im S im := ⟨hZ.1, fun _ _ => rfl⟩
  refine Con.ofN (k := 0) (L0 := [some (pv (some 240)), some (.int (nI N))]) hlt (by decide +kernel) rfl rfl (by rw [en1 pv_cat, en1 rfl, en0]; exact Nat.le_of_ble_eq_true rfl) (by rw [en1 pv_cat, en1 rfl, en0]; rfl) ?_
  refine t_aload0 dX5_pass_0 ?_
  refine t_iload1 dX5_pass_1 ?_
  refine pw_iconst (1) dX5_pass_2 (by decide) ?_
  refine pw_bipush (48) dX5_pass_3 (by decide) ?_
  refine g_callS3P (M_in (l := l) hlt) rfl mc_X5_in ml_X5_36 mi_X5_in in_X5 (okc_X5_in (by decide)) dX5_pass_5 (cat_le (Nat.le_of_ble_eq_true rfl)) ?_
  rw [bI_t ha]
  refine pw_if_eq 15 dX5_pass_8 (by decide) (fun h => absurd h (by decide)) (fun _ => ?_)
  refine pw_iconst (0) dX5_pass_11 (by decide) ?_
  refine pw_goto 16 dX5_pass_12 (by decide) ?_
  refine g_callV1I (M_holdsT (l := l) hlt) rfl ft5 rfl mc_X5_holds ml_X5_98 mi_X5_holds ms_X5_holds in_X5 (okc_X5_holds (by decide)) dX5_pass_16 (by assumption) (cat_le (Nat.le_of_ble_eq_true rfl)) (fun zx16 zim16 zh16 => ?_)
  obtain ⟨rfl, rfl⟩ := zh16
  have hZ1 := hZ.th (x := 0)
  have hR : MS (ui im 240 8 0) S (ui im 240 8 0) := ⟨hZ1.1, fun _ _ => rfl⟩
  refine pw_if_ne 24 dX5_pass_19 (by decide) (fun _ => ?_) (fun h => absurd (by decide) h)
  refine t_aload0 dX5_pass_24 ?_
  refine g_callV0V (M_save (l := l) hlt hM hZ1.1 hZ1.2.1) rfl ft5 rfl mc_X5_save ml_X5_101 mi_X5_save ms_X5_save in_X5 (okc_X5_save (by decide)) dX5_pass_25 (by assumption) (cat_le (Nat.le_of_ble_eq_true rfl)) (fun zim25 zh25 => ?_)
  have hZ2 := hZ1.saved zh25
  have hR : MS zim25 S zim25 := ⟨hZ2.1, fun _ _ => rfl⟩
  have hth : zim25 240 8 = 0 := (zh25.2.2 8 (by decide)).trans th_at
  refine t_aload0 dX5_pass_28 ?_
  refine t_iload1 dX5_pass_29 ?_
  refine g_callV1I (M_hours (l := l) hlt hM hR hW hN) rfl ft5 rfl mc_X5_hours ml_X5_108 mi_X5_hours ms_X5_hours in_X5 (okc_X5_hours (by decide)) dX5_pass_30 (by assumption) (cat_le (Nat.le_of_ble_eq_true rfl)) (fun zx30 zim30 zh30 => ?_)
  obtain ⟨zx, hR⟩ := zh30
  refine pw_iret dX5_pass_33 rfl ?_
  exact ⟨rfl, rfl, rfl, _, rfl, zx, (congrFun (hR.2 240 (by decide)) 8).trans hth, hZ2.step hR⟩
set_option maxHeartbeats 4000000 in
set_option maxRecDepth 100000 in
theorem M_passA {l : Launch} (hlt : l.stackTraces = false) {im : TI} {rm : TP} {lm : TL} {Y : TI} {S : CS} {n : Nat} {T : Nat → CS} {sn : Option CS} {bl : Nat} {B : Nat → Int32} (hM : MM rm) (hZ : MZ Y S n T sn bl B im) {x : Int32} (ha : ¬ (1 ≤ x ∧ x ≤ 48)) : Con l m_X5_pass 9 0 0 NN [pv (some 240), .int (x)] im rm lm (QI (fun x im2 => im2 240 8 = 1 ∧ MZ Y S n T sn bl B im2) rm lm) noX := by
  have hk0 := kdM
  have hks := kds
  obtain ⟨r0, r1, r3, r5, r6, r11⟩ := id hM
  have hR : MS im S im := ⟨hZ.1, fun _ _ => rfl⟩
  refine Con.ofN (k := 0) (L0 := [some (pv (some 240)), some (.int (x))]) hlt (by decide +kernel) rfl rfl (by rw [en1 pv_cat, en1 rfl, en0]; exact Nat.le_of_ble_eq_true rfl) (by rw [en1 pv_cat, en1 rfl, en0]; rfl) ?_
  refine t_aload0 dX5_pass_0 ?_
  refine t_iload1 dX5_pass_1 ?_
  refine pw_iconst (1) dX5_pass_2 (by decide) ?_
  refine pw_bipush (48) dX5_pass_3 (by decide) ?_
  refine g_callS3P (M_in (l := l) hlt) rfl mc_X5_in ml_X5_36 mi_X5_in in_X5 (okc_X5_in (by decide)) dX5_pass_5 (cat_le (Nat.le_of_ble_eq_true rfl)) ?_
  rw [bI_f ha]
  refine pw_if_eq 15 dX5_pass_8 (by decide) (fun _ => ?_) (fun h => absurd (by decide) h)
  refine pw_iconst (1) dX5_pass_15 (by decide) ?_
  refine g_callV1I (M_holds1 (l := l) hlt) rfl ft5 rfl mc_X5_holds ml_X5_98 mi_X5_holds ms_X5_holds in_X5 (okc_X5_holds (by decide)) dX5_pass_16 (by assumption) (cat_le (Nat.le_of_ble_eq_true rfl)) (fun zx16 zim16 zh16 => ?_)
  obtain ⟨rfl, rfl⟩ := zh16
  refine pw_if_ne 24 dX5_pass_19 (by decide) (fun h => absurd h (by decide)) (fun _ => ?_)
  refine pw_iconst (0) dX5_pass_22 (by decide) ?_
  refine pw_iret dX5_pass_23 rfl ?_
  exact ⟨rfl, rfl, rfl, _, rfl, th_at, hZ.th⟩
theorem hr_lt {S : CS} {m : Nat} (hI : CI S) (hm : m < 5) (h : hrP S m) : cnt S m < 6 := by
  have h1 := h.1
  rw [(hI.c hm).2] at h1
  exact (nI_ltI (b := 6) (by have := (hI.c hm).1; omega) (by decide)).mp h1
set_option maxHeartbeats 4000000 in
set_option maxRecDepth 100000 in
theorem M_sack {l : Launch} (hlt : l.stackTraces = false) {im : TI} {rm : TP} {lm : TL} {Y : TI} {S : CS} {n : Nat} {T : Nat → CS} {sn : Option CS} {bl : Nat} {B : Nat → Int32} (hM : MM rm) (hZ : MZ Y S n T sn bl B im) {x a b : Int32} {m : Nat} (hmo : maO x = some m) (ha : (1 : Int32) ≤ a ∧ a ≤ 999) (hb : (1 : Int32) ≤ b ∧ b ≤ 9999) (hI : CI S) (hw : hrP S m) (hk : bkN S m b (S.1 5) (cnt S m) = plS S m (S.1 5) b) : Con l m_X5_sack 9 0 0 NN [pv (some 240), .int (x), .int (a), .int (b)] im rm lm (QI (fun y im2 => y = S.1 5 ∧ im2 240 8 = 0 ∧ MZ Y (brS S m a b) (shN n) (shT n T S) sn bl B im2) rm lm) noX := by
  have hk0 := kdM
  have hks := kds
  obtain ⟨r0, r1, r3, r5, r6, r11⟩ := id hM
  have hR : MS im S im := ⟨hZ.1, fun _ _ => rfl⟩
  refine Con.ofN (k := 1) (L0 := [some (pv (some 240)), some (.int (x)), some (.int (a)), some (.int (b)), none]) hlt (by decide +kernel) rfl rfl (by rw [en1 pv_cat, en1 rfl, en1 rfl, en1 rfl, en0]; exact Nat.le_of_ble_eq_true rfl) (by rw [en1 pv_cat, en1 rfl, en1 rfl, en1 rfl, en0]; rfl) ?_
  obtain ⟨hm, rfl⟩ := maO_some hmo
  refine t_iload2 dX5_sack_0 ?_
  refine pw_iconst (1) dX5_sack_1 (by decide) ?_
  refine pw_sipush (999) dX5_sack_2 (by decide) ?_
  refine g_callS3P (M_in (l := l) hlt) rfl mc_X5_in ml_X5_36 mi_X5_in in_X5 (okc_X5_in (by decide)) dX5_sack_5 (cat_le (Nat.le_of_ble_eq_true rfl)) ?_
  rw [bI_t ha]
  refine pw_if_eq 26 dX5_sack_8 (by decide) (fun h => absurd h (by decide)) (fun _ => ?_)
  refine t_iload3 dX5_sack_11 ?_
  refine pw_iconst (1) dX5_sack_12 (by decide) ?_
  refine pw_sipush (9999) dX5_sack_13 (by decide) ?_
  refine g_callS3P (M_in (l := l) hlt) rfl mc_X5_in ml_X5_36 mi_X5_in in_X5 (okc_X5_in (by decide)) dX5_sack_16 (cat_le (Nat.le_of_ble_eq_true rfl)) ?_
  rw [bI_t hb]
  refine pw_if_eq 26 dX5_sack_19 (by decide) (fun h => absurd h (by decide)) (fun _ => ?_)
  refine pw_iconst (1) dX5_sack_22 (by decide) ?_
  refine pw_goto 27 dX5_sack_23 (by decide) ?_
  refine t_istore4 dX5_sack_27 (by decide) okp_i ?_
  refine t_aload0 dX5_sack_29 ?_
  refine t_iload1 dX5_sack_30 ?_
  refine g_callS1P (M_isMill (l := l) hlt) rfl mc_X5_isMill ml_X5_94 mi_X5_isMill in_X5 (okc_X5_isMill (by decide)) dX5_sack_31 (cat_le (Nat.le_of_ble_eq_true rfl)) ?_
  rw [bI_t (ma_in hmo)]
  refine pw_if_ne 41 dX5_sack_34 (by decide) (fun _ => ?_) (fun h => absurd (by decide) h)
  refine t_iload4 dX5_sack_41 ?_
  refine pw_if_ne 50 dX5_sack_43 (by decide) (fun _ => ?_) (fun h => absurd (by decide) h)
  refine t_aload0 dX5_sack_50 ?_
  refine t_iload1 dX5_sack_51 ?_
  refine g_callV1P (M_hasRoom (l := l) hlt hM hR (m := m) hm) rfl ft5 rfl mc_X5_hasRoom ml_X5_115 mi_X5_hasRoom ms_X5_hasRoom in_X5 (okc_X5_hasRoom (by decide)) dX5_sack_52 (by assumption) (cat_le (Nat.le_of_ble_eq_true rfl)) ?_
  rw [bI_t hw]
  refine pw_if_eq 62 dX5_sack_55 (by decide) (fun h => absurd h (by decide)) (fun _ => ?_)
  refine pw_iconst (0) dX5_sack_58 (by decide) ?_
  refine pw_goto 63 dX5_sack_59 (by decide) ?_
  refine g_callV1I (M_holdsT (l := l) hlt) rfl ft5 rfl mc_X5_holds ml_X5_98 mi_X5_holds ms_X5_holds in_X5 (okc_X5_holds (by decide)) dX5_sack_63 (by assumption) (cat_le (Nat.le_of_ble_eq_true rfl)) (fun zx63 zim63 zh63 => ?_)
  obtain ⟨rfl, rfl⟩ := zh63
  have hZ1 := hZ.th (x := 0)
  have hR : MS (ui im 240 8 0) S (ui im 240 8 0) := ⟨hZ1.1, fun _ _ => rfl⟩
  refine pw_if_ne 71 dX5_sack_66 (by decide) (fun _ => ?_) (fun h => absurd (by decide) h)
  refine t_aload0 dX5_sack_71 ?_
  refine g_callV0V (M_save (l := l) hlt hM hZ1.1 hZ1.2.1) rfl ft5 rfl mc_X5_save ml_X5_101 mi_X5_save ms_X5_save in_X5 (okc_X5_save (by decide)) dX5_sack_72 (by assumption) (cat_le (Nat.le_of_ble_eq_true rfl)) (fun zim72 zh72 => ?_)
  have hZ2 := hZ1.saved zh72
  have hR : MS zim72 S zim72 := ⟨hZ2.1, fun _ _ => rfl⟩
  have hth : zim72 240 8 = 0 := (zh72.2.2 8 (by decide)).trans th_at
  refine t_aload0 dX5_sack_75 ?_
  refine t_iload1 dX5_sack_76 ?_
  refine t_iload2 dX5_sack_77 ?_
  refine t_iload3 dX5_sack_78 ?_
  refine g_callV3I (M_come (l := l) hlt hM hR hI (m := m) hm (hr_lt hI hm hw) hk) rfl ft5 rfl mc_X5_come ml_X5_118 mi_X5_come ms_X5_come in_X5 (okc_X5_come (by decide)) dX5_sack_79 (by assumption) (cat_le (Nat.le_of_ble_eq_true rfl)) (fun zx79 zim79 zh79 => ?_)
  obtain ⟨zx, hR⟩ := zh79
  refine pw_iret dX5_sack_82 rfl ?_
  exact ⟨rfl, rfl, rfl, _, rfl, zx, (congrFun (hR.2 240 (by decide)) 8).trans hth, hZ2.step hR⟩
set_option maxHeartbeats 4000000 in
set_option maxRecDepth 100000 in
theorem M_sackI {l : Launch} (hlt : l.stackTraces = false) {im : TI} {rm : TP} {lm : TL} {Y : TI} {S : CS} {n : Nat} {T : Nat → CS} {sn : Option CS} {bl : Nat} {B : Nat → Int32} (hM : MM rm) (hZ : MZ Y S n T sn bl B im) {x a b : Int32} (hmo : maO x = none) : Con l m_X5_sack 9 0 0 NN [pv (some 240), .int (x), .int (a), .int (b)] im rm lm (QI (fun x im2 => im2 240 8 = 1 ∧ MZ Y S n T sn bl B im2) rm lm) noX := by
  have hk0 := kdM
  have hks := kds
  obtain ⟨r0, r1, r3, r5, r6, r11⟩ := id hM
  have hR : MS im S im := ⟨hZ.1, fun _ _ => rfl⟩
  refine Con.ofN (k := 1) (L0 := [some (pv (some 240)), some (.int (x)), some (.int (a)), some (.int (b)), none]) hlt (by decide +kernel) rfl rfl (by rw [en1 pv_cat, en1 rfl, en1 rfl, en1 rfl, en0]; exact Nat.le_of_ble_eq_true rfl) (by rw [en1 pv_cat, en1 rfl, en1 rfl, en1 rfl, en0]; rfl) ?_
  refine t_iload2 dX5_sack_0 ?_
  refine pw_iconst (1) dX5_sack_1 (by decide) ?_
  refine pw_sipush (999) dX5_sack_2 (by decide) ?_
  refine g_callS3P (M_in (l := l) hlt) rfl mc_X5_in ml_X5_36 mi_X5_in in_X5 (okc_X5_in (by decide)) dX5_sack_5 (cat_le (Nat.le_of_ble_eq_true rfl)) ?_
  refine pw_if_eq 26 dX5_sack_8 (by decide) (fun zc8 => ?_) (fun zc8 => ?_)
  · refine pw_iconst (0) dX5_sack_26 (by decide) ?_
    refine t_istore4 dX5_sack_27 (by decide) okp_i ?_
    refine t_aload0 dX5_sack_29 ?_
    refine t_iload1 dX5_sack_30 ?_
    refine g_callS1P (M_isMill (l := l) hlt) rfl mc_X5_isMill ml_X5_94 mi_X5_isMill in_X5 (okc_X5_isMill (by decide)) dX5_sack_31 (cat_le (Nat.le_of_ble_eq_true rfl)) ?_
    rw [bI_f (ma_out hmo)]
    refine pw_if_ne 41 dX5_sack_34 (by decide) (fun h => absurd h (by decide)) (fun _ => ?_)
    refine pw_iconst (1) dX5_sack_37 (by decide) ?_
    refine pw_goto 63 dX5_sack_38 (by decide) ?_
    refine g_callV1I (M_holds1 (l := l) hlt) rfl ft5 rfl mc_X5_holds ml_X5_98 mi_X5_holds ms_X5_holds in_X5 (okc_X5_holds (by decide)) dX5_sack_63 (by assumption) (cat_le (Nat.le_of_ble_eq_true rfl)) (fun zx63 zim63 zh63 => ?_)
    obtain ⟨rfl, rfl⟩ := zh63
    refine pw_if_ne 71 dX5_sack_66 (by decide) (fun h => absurd h (by decide)) (fun _ => ?_)
    refine pw_iconst (0) dX5_sack_69 (by decide) ?_
    refine pw_iret dX5_sack_70 rfl ?_
    exact ⟨rfl, rfl, rfl, _, rfl, th_at, hZ.th⟩
  · refine t_iload3 dX5_sack_11 ?_
    refine pw_iconst (1) dX5_sack_12 (by decide) ?_
    refine pw_sipush (9999) dX5_sack_13 (by decide) ?_
    refine g_callS3P (M_in (l := l) hlt) rfl mc_X5_in ml_X5_36 mi_X5_in in_X5 (okc_X5_in (by decide)) dX5_sack_16 (cat_le (Nat.le_of_ble_eq_true rfl)) ?_
    refine pw_if_eq 26 dX5_sack_19 (by decide) (fun zc19 => ?_) (fun zc19 => ?_)
    · refine pw_iconst (0) dX5_sack_26 (by decide) ?_
      refine t_istore4 dX5_sack_27 (by decide) okp_i ?_
      refine t_aload0 dX5_sack_29 ?_
      refine t_iload1 dX5_sack_30 ?_
      refine g_callS1P (M_isMill (l := l) hlt) rfl mc_X5_isMill ml_X5_94 mi_X5_isMill in_X5 (okc_X5_isMill (by decide)) dX5_sack_31 (cat_le (Nat.le_of_ble_eq_true rfl)) ?_
      rw [bI_f (ma_out hmo)]
      refine pw_if_ne 41 dX5_sack_34 (by decide) (fun h => absurd h (by decide)) (fun _ => ?_)
      refine pw_iconst (1) dX5_sack_37 (by decide) ?_
      refine pw_goto 63 dX5_sack_38 (by decide) ?_
      refine g_callV1I (M_holds1 (l := l) hlt) rfl ft5 rfl mc_X5_holds ml_X5_98 mi_X5_holds ms_X5_holds in_X5 (okc_X5_holds (by decide)) dX5_sack_63 (by assumption) (cat_le (Nat.le_of_ble_eq_true rfl)) (fun zx63 zim63 zh63 => ?_)
      obtain ⟨rfl, rfl⟩ := zh63
      refine pw_if_ne 71 dX5_sack_66 (by decide) (fun h => absurd h (by decide)) (fun _ => ?_)
      refine pw_iconst (0) dX5_sack_69 (by decide) ?_
      refine pw_iret dX5_sack_70 rfl ?_
      exact ⟨rfl, rfl, rfl, _, rfl, th_at, hZ.th⟩
    · refine pw_iconst (1) dX5_sack_22 (by decide) ?_
      refine pw_goto 27 dX5_sack_23 (by decide) ?_
      refine t_istore4 dX5_sack_27 (by decide) okp_i ?_
      refine t_aload0 dX5_sack_29 ?_
      refine t_iload1 dX5_sack_30 ?_
      refine g_callS1P (M_isMill (l := l) hlt) rfl mc_X5_isMill ml_X5_94 mi_X5_isMill in_X5 (okc_X5_isMill (by decide)) dX5_sack_31 (cat_le (Nat.le_of_ble_eq_true rfl)) ?_
      rw [bI_f (ma_out hmo)]
      refine pw_if_ne 41 dX5_sack_34 (by decide) (fun h => absurd h (by decide)) (fun _ => ?_)
      refine pw_iconst (1) dX5_sack_37 (by decide) ?_
      refine pw_goto 63 dX5_sack_38 (by decide) ?_
      refine g_callV1I (M_holds1 (l := l) hlt) rfl ft5 rfl mc_X5_holds ml_X5_98 mi_X5_holds ms_X5_holds in_X5 (okc_X5_holds (by decide)) dX5_sack_63 (by assumption) (cat_le (Nat.le_of_ble_eq_true rfl)) (fun zx63 zim63 zh63 => ?_)
      obtain ⟨rfl, rfl⟩ := zh63
      refine pw_if_ne 71 dX5_sack_66 (by decide) (fun h => absurd h (by decide)) (fun _ => ?_)
      refine pw_iconst (0) dX5_sack_69 (by decide) ?_
      refine pw_iret dX5_sack_70 rfl ?_
      exact ⟨rfl, rfl, rfl, _, rfl, th_at, hZ.th⟩
set_option maxHeartbeats 4000000 in
set_option maxRecDepth 100000 in
theorem M_sackA1 {l : Launch} (hlt : l.stackTraces = false) {im : TI} {rm : TP} {lm : TL} {Y : TI} {S : CS} {n : Nat} {T : Nat → CS} {sn : Option CS} {bl : Nat} {B : Nat → Int32} (hM : MM rm) (hZ : MZ Y S n T sn bl B im) {x a b : Int32} {m : Nat} (hmo : maO x = some m) (ha : ¬ ((1 : Int32) ≤ a ∧ a ≤ 999)) : Con l m_X5_sack 9 0 0 NN [pv (some 240), .int (x), .int (a), .int (b)] im rm lm (QI (fun x im2 => im2 240 8 = 2 ∧ MZ Y S n T sn bl B im2) rm lm) noX := by
  have hk0 := kdM
  have hks := kds
  obtain ⟨r0, r1, r3, r5, r6, r11⟩ := id hM
  have hR : MS im S im := ⟨hZ.1, fun _ _ => rfl⟩
  refine Con.ofN (k := 1) (L0 := [some (pv (some 240)), some (.int (x)), some (.int (a)), some (.int (b)), none]) hlt (by decide +kernel) rfl rfl (by rw [en1 pv_cat, en1 rfl, en1 rfl, en1 rfl, en0]; exact Nat.le_of_ble_eq_true rfl) (by rw [en1 pv_cat, en1 rfl, en1 rfl, en1 rfl, en0]; rfl) ?_
  refine t_iload2 dX5_sack_0 ?_
  refine pw_iconst (1) dX5_sack_1 (by decide) ?_
  refine pw_sipush (999) dX5_sack_2 (by decide) ?_
  refine g_callS3P (M_in (l := l) hlt) rfl mc_X5_in ml_X5_36 mi_X5_in in_X5 (okc_X5_in (by decide)) dX5_sack_5 (cat_le (Nat.le_of_ble_eq_true rfl)) ?_
  rw [bI_f ha]
  refine pw_if_eq 26 dX5_sack_8 (by decide) (fun _ => ?_) (fun h => absurd (by decide) h)
  refine pw_iconst (0) dX5_sack_26 (by decide) ?_
  refine t_istore4 dX5_sack_27 (by decide) okp_i ?_
  refine t_aload0 dX5_sack_29 ?_
  refine t_iload1 dX5_sack_30 ?_
  refine g_callS1P (M_isMill (l := l) hlt) rfl mc_X5_isMill ml_X5_94 mi_X5_isMill in_X5 (okc_X5_isMill (by decide)) dX5_sack_31 (cat_le (Nat.le_of_ble_eq_true rfl)) ?_
  rw [bI_t (ma_in hmo)]
  refine pw_if_ne 41 dX5_sack_34 (by decide) (fun _ => ?_) (fun h => absurd (by decide) h)
  refine t_iload4 dX5_sack_41 ?_
  refine pw_if_ne 50 dX5_sack_43 (by decide) (fun h => absurd h (by decide)) (fun _ => ?_)
  refine pw_iconst (2) dX5_sack_46 (by decide) ?_
  refine pw_goto 63 dX5_sack_47 (by decide) ?_
  refine g_callV1I (M_holds2 (l := l) hlt) rfl ft5 rfl mc_X5_holds ml_X5_98 mi_X5_holds ms_X5_holds in_X5 (okc_X5_holds (by decide)) dX5_sack_63 (by assumption) (cat_le (Nat.le_of_ble_eq_true rfl)) (fun zx63 zim63 zh63 => ?_)
  obtain ⟨rfl, rfl⟩ := zh63
  refine pw_if_ne 71 dX5_sack_66 (by decide) (fun h => absurd h (by decide)) (fun _ => ?_)
  refine pw_iconst (0) dX5_sack_69 (by decide) ?_
  refine pw_iret dX5_sack_70 rfl ?_
  exact ⟨rfl, rfl, rfl, _, rfl, th_at, hZ.th⟩
set_option maxHeartbeats 4000000 in
set_option maxRecDepth 100000 in
theorem M_sackA2 {l : Launch} (hlt : l.stackTraces = false) {im : TI} {rm : TP} {lm : TL} {Y : TI} {S : CS} {n : Nat} {T : Nat → CS} {sn : Option CS} {bl : Nat} {B : Nat → Int32} (hM : MM rm) (hZ : MZ Y S n T sn bl B im) {x a b : Int32} {m : Nat} (hmo : maO x = some m) (ha : (1 : Int32) ≤ a ∧ a ≤ 999) (hb : ¬ ((1 : Int32) ≤ b ∧ b ≤ 9999)) : Con l m_X5_sack 9 0 0 NN [pv (some 240), .int (x), .int (a), .int (b)] im rm lm (QI (fun x im2 => im2 240 8 = 2 ∧ MZ Y S n T sn bl B im2) rm lm) noX := by
  have hk0 := kdM
  have hks := kds
  obtain ⟨r0, r1, r3, r5, r6, r11⟩ := id hM
  have hR : MS im S im := ⟨hZ.1, fun _ _ => rfl⟩
  refine Con.ofN (k := 1) (L0 := [some (pv (some 240)), some (.int (x)), some (.int (a)), some (.int (b)), none]) hlt (by decide +kernel) rfl rfl (by rw [en1 pv_cat, en1 rfl, en1 rfl, en1 rfl, en0]; exact Nat.le_of_ble_eq_true rfl) (by rw [en1 pv_cat, en1 rfl, en1 rfl, en1 rfl, en0]; rfl) ?_
  refine t_iload2 dX5_sack_0 ?_
  refine pw_iconst (1) dX5_sack_1 (by decide) ?_
  refine pw_sipush (999) dX5_sack_2 (by decide) ?_
  refine g_callS3P (M_in (l := l) hlt) rfl mc_X5_in ml_X5_36 mi_X5_in in_X5 (okc_X5_in (by decide)) dX5_sack_5 (cat_le (Nat.le_of_ble_eq_true rfl)) ?_
  rw [bI_t ha]
  refine pw_if_eq 26 dX5_sack_8 (by decide) (fun h => absurd h (by decide)) (fun _ => ?_)
  refine t_iload3 dX5_sack_11 ?_
  refine pw_iconst (1) dX5_sack_12 (by decide) ?_
  refine pw_sipush (9999) dX5_sack_13 (by decide) ?_
  refine g_callS3P (M_in (l := l) hlt) rfl mc_X5_in ml_X5_36 mi_X5_in in_X5 (okc_X5_in (by decide)) dX5_sack_16 (cat_le (Nat.le_of_ble_eq_true rfl)) ?_
  rw [bI_f hb]
  refine pw_if_eq 26 dX5_sack_19 (by decide) (fun _ => ?_) (fun h => absurd (by decide) h)
  refine pw_iconst (0) dX5_sack_26 (by decide) ?_
  refine t_istore4 dX5_sack_27 (by decide) okp_i ?_
  refine t_aload0 dX5_sack_29 ?_
  refine t_iload1 dX5_sack_30 ?_
  refine g_callS1P (M_isMill (l := l) hlt) rfl mc_X5_isMill ml_X5_94 mi_X5_isMill in_X5 (okc_X5_isMill (by decide)) dX5_sack_31 (cat_le (Nat.le_of_ble_eq_true rfl)) ?_
  rw [bI_t (ma_in hmo)]
  refine pw_if_ne 41 dX5_sack_34 (by decide) (fun _ => ?_) (fun h => absurd (by decide) h)
  refine t_iload4 dX5_sack_41 ?_
  refine pw_if_ne 50 dX5_sack_43 (by decide) (fun h => absurd h (by decide)) (fun _ => ?_)
  refine pw_iconst (2) dX5_sack_46 (by decide) ?_
  refine pw_goto 63 dX5_sack_47 (by decide) ?_
  refine g_callV1I (M_holds2 (l := l) hlt) rfl ft5 rfl mc_X5_holds ml_X5_98 mi_X5_holds ms_X5_holds in_X5 (okc_X5_holds (by decide)) dX5_sack_63 (by assumption) (cat_le (Nat.le_of_ble_eq_true rfl)) (fun zx63 zim63 zh63 => ?_)
  obtain ⟨rfl, rfl⟩ := zh63
  refine pw_if_ne 71 dX5_sack_66 (by decide) (fun h => absurd h (by decide)) (fun _ => ?_)
  refine pw_iconst (0) dX5_sack_69 (by decide) ?_
  refine pw_iret dX5_sack_70 rfl ?_
  exact ⟨rfl, rfl, rfl, _, rfl, th_at, hZ.th⟩
set_option maxHeartbeats 4000000 in
set_option maxRecDepth 100000 in
theorem M_sackS {l : Launch} (hlt : l.stackTraces = false) {im : TI} {rm : TP} {lm : TL} {Y : TI} {S : CS} {n : Nat} {T : Nat → CS} {sn : Option CS} {bl : Nat} {B : Nat → Int32} (hM : MM rm) (hZ : MZ Y S n T sn bl B im) {x a b : Int32} {m : Nat} (hmo : maO x = some m) (ha : (1 : Int32) ≤ a ∧ a ≤ 999) (hb : (1 : Int32) ≤ b ∧ b ≤ 9999) (hw : ¬ hrP S m) : Con l m_X5_sack 9 0 0 NN [pv (some 240), .int (x), .int (a), .int (b)] im rm lm (QI (fun x im2 => im2 240 8 = 3 ∧ MZ Y S n T sn bl B im2) rm lm) noX := by
  have hk0 := kdM
  have hks := kds
  obtain ⟨r0, r1, r3, r5, r6, r11⟩ := id hM
  have hR : MS im S im := ⟨hZ.1, fun _ _ => rfl⟩
  refine Con.ofN (k := 1) (L0 := [some (pv (some 240)), some (.int (x)), some (.int (a)), some (.int (b)), none]) hlt (by decide +kernel) rfl rfl (by rw [en1 pv_cat, en1 rfl, en1 rfl, en1 rfl, en0]; exact Nat.le_of_ble_eq_true rfl) (by rw [en1 pv_cat, en1 rfl, en1 rfl, en1 rfl, en0]; rfl) ?_
  obtain ⟨hm, rfl⟩ := maO_some hmo
  refine t_iload2 dX5_sack_0 ?_
  refine pw_iconst (1) dX5_sack_1 (by decide) ?_
  refine pw_sipush (999) dX5_sack_2 (by decide) ?_
  refine g_callS3P (M_in (l := l) hlt) rfl mc_X5_in ml_X5_36 mi_X5_in in_X5 (okc_X5_in (by decide)) dX5_sack_5 (cat_le (Nat.le_of_ble_eq_true rfl)) ?_
  rw [bI_t ha]
  refine pw_if_eq 26 dX5_sack_8 (by decide) (fun h => absurd h (by decide)) (fun _ => ?_)
  refine t_iload3 dX5_sack_11 ?_
  refine pw_iconst (1) dX5_sack_12 (by decide) ?_
  refine pw_sipush (9999) dX5_sack_13 (by decide) ?_
  refine g_callS3P (M_in (l := l) hlt) rfl mc_X5_in ml_X5_36 mi_X5_in in_X5 (okc_X5_in (by decide)) dX5_sack_16 (cat_le (Nat.le_of_ble_eq_true rfl)) ?_
  rw [bI_t hb]
  refine pw_if_eq 26 dX5_sack_19 (by decide) (fun h => absurd h (by decide)) (fun _ => ?_)
  refine pw_iconst (1) dX5_sack_22 (by decide) ?_
  refine pw_goto 27 dX5_sack_23 (by decide) ?_
  refine t_istore4 dX5_sack_27 (by decide) okp_i ?_
  refine t_aload0 dX5_sack_29 ?_
  refine t_iload1 dX5_sack_30 ?_
  refine g_callS1P (M_isMill (l := l) hlt) rfl mc_X5_isMill ml_X5_94 mi_X5_isMill in_X5 (okc_X5_isMill (by decide)) dX5_sack_31 (cat_le (Nat.le_of_ble_eq_true rfl)) ?_
  rw [bI_t (ma_in hmo)]
  refine pw_if_ne 41 dX5_sack_34 (by decide) (fun _ => ?_) (fun h => absurd (by decide) h)
  refine t_iload4 dX5_sack_41 ?_
  refine pw_if_ne 50 dX5_sack_43 (by decide) (fun _ => ?_) (fun h => absurd (by decide) h)
  refine t_aload0 dX5_sack_50 ?_
  refine t_iload1 dX5_sack_51 ?_
  refine g_callV1P (M_hasRoom (l := l) hlt hM hR (m := m) hm) rfl ft5 rfl mc_X5_hasRoom ml_X5_115 mi_X5_hasRoom ms_X5_hasRoom in_X5 (okc_X5_hasRoom (by decide)) dX5_sack_52 (by assumption) (cat_le (Nat.le_of_ble_eq_true rfl)) ?_
  rw [bI_f hw]
  refine pw_if_eq 62 dX5_sack_55 (by decide) (fun _ => ?_) (fun h => absurd (by decide) h)
  refine pw_iconst (3) dX5_sack_62 (by decide) ?_
  refine g_callV1I (M_holds3 (l := l) hlt) rfl ft5 rfl mc_X5_holds ml_X5_98 mi_X5_holds ms_X5_holds in_X5 (okc_X5_holds (by decide)) dX5_sack_63 (by assumption) (cat_le (Nat.le_of_ble_eq_true rfl)) (fun zx63 zim63 zh63 => ?_)
  obtain ⟨rfl, rfl⟩ := zh63
  refine pw_if_ne 71 dX5_sack_66 (by decide) (fun h => absurd h (by decide)) (fun _ => ?_)
  refine pw_iconst (0) dX5_sack_69 (by decide) ?_
  refine pw_iret dX5_sack_70 rfl ?_
  exact ⟨rfl, rfl, rfl, _, rfl, th_at, hZ.th⟩

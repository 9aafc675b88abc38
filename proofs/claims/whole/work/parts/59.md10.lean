/-! TideMillsModel: carry, back, undo, keep, restore, append, clearBuffer -/
theorem up_com {S : CS} {m t : Nat} {f g : Nat → Int32} {k q : Nat → Nat → Int32} (h : m ≠ t) : upM (upM S m f k) t g q = upM (upM S t g q) m f k := by
  unfold upM
  congr 2
  · funext n
    dsimp only
    by_cases e : n = t
    · subst e; rw [if_pos rfl, if_neg (fun z => h z.symm), if_pos rfl]
    · rw [if_neg e]
      by_cases e2 : n = m
      · rw [if_pos e2, if_pos e2]
      · rw [if_neg e2, if_neg e2, if_neg e]
  · funext n
    dsimp only
    by_cases e : n = t
    · subst e; rw [if_pos rfl, if_neg (fun z => h z.symm), if_pos rfl]
    · rw [if_neg e]
      by_cases e2 : n = m
      · rw [if_pos e2, if_pos e2]
      · rw [if_neg e2, if_neg e2, if_neg e]
theorem dp_o {S : CS} {m t p n : Nat} (h : m ≠ t) : (dpS S m p n).2.1 t = S.2.1 t ∧ (dpS S m p n).2.2 t = S.2.2 t := by
  unfold dpS upM
  exact ⟨if_neg (fun z => h z.symm), if_neg (fun z => h z.symm)⟩
theorem in_o {S : CS} {m t c pl : Nat} {s h r due : Int32} (hne : m ≠ t) : (inS S t c pl s h r due).2.1 m = S.2.1 m ∧ (inS S t c pl s h r due).2.2 m = S.2.2 m := by
  unfold inS upM
  exact ⟨if_neg hne, if_neg hne⟩
theorem in_dp {S : CS} {m t p n c pl : Nat} {s h r due : Int32} (hne : m ≠ t) : EqS (inS (dpS S m p n) t c pl s h r due) (dpS (inS S t c pl s h r due) m p n) := by
  refine ⟨fun _ _ => rfl, fun a w _ _ => ?_, fun a q k _ _ _ => ?_⟩
  · unfold inS dpS upM
    dsimp only
    by_cases e1 : a = t
    · subst e1; simp [hne, Ne.symm hne]
    · by_cases e2 : a = m
      · subst e2; simp [hne]
      · simp [e1, e2]
  · unfold inS dpS upM
    dsimp only
    by_cases e1 : a = t
    · subst e1; simp [hne, Ne.symm hne]
    · by_cases e2 : a = m
      · subst e2; simp [hne]
      · simp [e1, e2]
theorem bk_congr {S S2 : CS} {m : Nat} {due s : Int32} (h : S2.2.2 m = S.2.2 m) : ∀ n, bkN S2 m due s n = bkN S m due s n := by
  intro n
  induction n with
  | zero => rfl
  | succ n ih =>
    have e : cmP S2 m n due s ↔ cmP S m n due s := by unfold cmP; rw [h]
    rw [bkN, bkN, ih]
    by_cases hc : cmP S m n due s
    · rw [if_pos (e.mpr hc), if_pos hc]
    · rw [if_neg (fun z => hc (e.mp z)), if_neg hc]
theorem c6 {S : CS} {t : Nat} (hI : CI S) (ht : t < 5) (h : ¬ S.2.1 t 9 < 6) : S.2.1 t 9 = 6 := by
  obtain ⟨h1, h2⟩ := hI.c ht
  rw [h2] at h ⊢
  have h3 : ¬ cnt S t < 6 := fun z => h ((nI_ltI (b := 6) (by omega) (by decide)).mpr z)
  rw [show cnt S t = 6 by omega]; rfl
set_option maxHeartbeats 4000000 in
set_option maxRecDepth 100000 in
theorem M_carry {l : Launch} (hlt : l.stackTraces = false) {im : TI} {rm : TP} {lm : TL} {Y : TI} {S : CS} {n : Nat} {T : Nat → CS} {sn : Option CS} {bl : Nat} {B : Nat → Int32} (hM : MM rm) (hZ : MZ Y S n T sn bl B im) (hI : CI S) {x z : Int32} {m t p n1 : Nat} (hmo : maO z = some t) (hwh : whS S x = some (6 * m + p)) (hm : m < 5) (hp6 : p < 6) (hne : m ≠ t) (hw : S.2.1 t 9 < 6) (hn1 : S.2.1 m 9 = nI (n1 + 1)) (hc1 : n1 < 6) (hp1 : p ≤ n1) (hct : cnt S t < 6) (hk : bkN S t (S.2.2 m p 3) x (cnt S t) = plS S t x (S.2.2 m p 3)) : Con l m_X5_carry 9 0 0 NN [pv (some 240), .int (x), .int (z)] im rm lm (QI (fun y im2 => y = nI (plS S t x (S.2.2 m p 3)) ∧ im2 240 8 = 0 ∧ MZ Y (dpS (inS S t (cnt S t) (plS S t x (S.2.2 m p 3)) x (S.2.2 m p 1) (S.2.2 m p 2) (S.2.2 m p 3)) m p (n1 + 1)) (shN n) (shT n T S) sn bl B im2) rm lm) noX := by
  have hk0 := kdM
  have hks := kds
  obtain ⟨r0, r1, r3, r5, r6, r11⟩ := id hM
  have hR : MS im S im := ⟨hZ.1, fun _ _ => rfl⟩
  refine Con.ofN (k := 5) (L0 := [some (pv (some 240)), some (.int (x)), some (.int (z)), none, none, none, none, none]) hlt (by decide +kernel) rfl rfl (by rw [en1 pv_cat, en1 rfl, en1 rfl, en0]; exact Nat.le_of_ble_eq_true rfl) (by rw [en1 pv_cat, en1 rfl, en1 rfl, en0]; rfl) ?_
  obtain ⟨ht, rfl⟩ := maO_some hmo
  refine t_iload2 dX5_carry_0 ?_
  refine g_callS1P (M_isMill (l := l) hlt) rfl mc_X5_isMill ml_X5_94 mi_X5_isMill in_X5 (okc_X5_isMill (by decide)) dX5_carry_1 (cat_le (Nat.le_of_ble_eq_true rfl)) ?_
  rw [bI_t (ma_in hmo)]
  refine pw_if_eq 15 dX5_carry_4 (by decide) (fun h => absurd h (by decide)) (fun _ => ?_)
  refine t_aload0 dX5_carry_7 ?_
  refine t_iload1 dX5_carry_8 ?_
  refine g_callV1P (M_whereIs (l := l) hlt hM hR) rfl ft5 rfl mc_X5_whereIs ml_X5_121 mi_X5_whereIs ms_X5_whereIs in_X5 (okc_X5_whereIs (by decide)) dX5_carry_9 (by assumption) (cat_le (Nat.le_of_ble_eq_true rfl)) ?_
  rw [hwh, show oI (some (6 * m + p)) = nI (6 * m + p) from rfl]
  refine pw_goto 16 dX5_carry_12 (by decide) ?_
  refine t_istore3 dX5_carry_16 (by decide) okp_i ?_
  refine t_aload0 dX5_carry_17 ?_
  refine t_iload2 dX5_carry_18 ?_
  refine g_callS1P (M_isMill (l := l) hlt) rfl mc_X5_isMill ml_X5_94 mi_X5_isMill in_X5 (okc_X5_isMill (by decide)) dX5_carry_19 (cat_le (Nat.le_of_ble_eq_true rfl)) ?_
  rw [bI_t (ma_in hmo)]
  refine pw_if_ne 29 dX5_carry_22 (by decide) (fun _ => ?_) (fun h => absurd (by decide) h)
  refine t_iload3 dX5_carry_29 ?_
  refine pw_iconst (-1) dX5_carry_30 (by decide) ?_
  refine pw_icmp_eq 54 dX5_carry_31 (by decide) (fun zc31 => ?_) (fun zc31 => ?_)
  · exact absurd zc31 (nI_m1 (by omega))
  · refine t_iload3 dX5_carry_34 ?_
    refine pw_bipush (6) dX5_carry_35 (by decide) ?_
    refine pw_idiv dX5_carry_37 (by decide) ?_
    rw [mdiv (by omega), show (6 * m + p) / 6 = m by omega]
    refine t_iload2 dX5_carry_38 ?_
    refine pw_icmp_eq 54 dX5_carry_39 (by decide) (fun zc39 => ?_) (fun zc39 => ?_)
    · exact absurd ((nI_eq (by omega) (by omega)).mp zc39) hne
    · refine t_aload0 dX5_carry_42 ?_
      refine t_iload2 dX5_carry_43 ?_
      refine pw_bipush (9) dX5_carry_44 (by decide) ?_
      refine g_callV2P (M_of (l := l) hlt hM hR (m := t) (w := 9) ht (by decide)) rfl ft5 rfl mc_X5_of ml_X5_47 mi_X5_of ms_X5_of in_X5 (okc_X5_of (by decide)) dX5_carry_46 (by assumption) (cat_le (Nat.le_of_ble_eq_true rfl)) ?_
      refine pw_bipush (6) dX5_carry_49 (by decide) ?_
      refine pw_icmp_ne 58 dX5_carry_51 (by decide) (fun zc51 => ?_) (fun zc51 => ?_)
      · refine pw_iconst (0) dX5_carry_58 (by decide) ?_
        refine g_callV1I (M_holdsT (l := l) hlt) rfl ft5 rfl mc_X5_holds ml_X5_98 mi_X5_holds ms_X5_holds in_X5 (okc_X5_holds (by decide)) dX5_carry_59 (by assumption) (cat_le (Nat.le_of_ble_eq_true rfl)) (fun zx59 zim59 zh59 => ?_)
        obtain ⟨rfl, rfl⟩ := zh59
        have hZ1 := hZ.th (x := 0)
        have hR : MS (ui im 240 8 0) S (ui im 240 8 0) := ⟨hZ1.1, fun _ _ => rfl⟩
        refine pw_if_ne 67 dX5_carry_62 (by decide) (fun _ => ?_) (fun h => absurd (by decide) h)
        refine t_aload0 dX5_carry_67 ?_
        refine g_callV0V (M_save (l := l) hlt hM hZ1.1 hZ1.2.1) rfl ft5 rfl mc_X5_save ml_X5_101 mi_X5_save ms_X5_save in_X5 (okc_X5_save (by decide)) dX5_carry_68 (by assumption) (cat_le (Nat.le_of_ble_eq_true rfl)) (fun zim68 zh68 => ?_)
        have hZ2 := hZ1.saved zh68
        have hR : MS zim68 S zim68 := ⟨hZ2.1, fun _ _ => rfl⟩
        have hth : zim68 240 8 = 0 := (zh68.2.2 8 (by decide)).trans th_at
        refine t_aload0 dX5_carry_71 ?_
        refine t_iload3 dX5_carry_72 ?_
        refine pw_bipush (6) dX5_carry_73 (by decide) ?_
        refine pw_idiv dX5_carry_75 (by decide) ?_
        rw [mdiv (by omega), show (6 * m + p) / 6 = m by omega]
        refine t_iload3 dX5_carry_76 ?_
        refine pw_bipush (6) dX5_carry_77 (by decide) ?_
        refine pw_irem dX5_carry_79 (by decide) ?_
        rw [mrem (by omega), show (6 * m + p) % 6 = p by omega]
        refine g_callV2P (M_sackRow (l := l) hlt (m := m) (p := p)) rfl ft5 rfl mc_X5_sackRow ml_X5_51 mi_X5_sackRow ms_X5_sackRow in_X5 (okc_X5_sackRow (by decide)) dX5_carry_80 (by assumption) (cat_le (Nat.le_of_ble_eq_true rfl)) ?_
        refine t_istore4 dX5_carry_83 (by decide) okp_i ?_
        refine t_aload0 dX5_carry_85 ?_
        refine g_getr ft5 fl_X5_7 (j := 0) (by decide) dX5_carry_86 (by assumption) (by assumption) ?_
        refine t_iload4 dX5_carry_89 ?_
        refine pw_iconst (1) dX5_carry_91 (by decide) ?_
        refine pw_iadd dX5_carry_92 ?_
        refine m_ldK (m := m) (p := p) (k := 1) dX5_carry_93 hR (nI_add _ 1) hm hp6 (by decide) ?_
        refine t_istore5 dX5_carry_94 (by decide) okp_i ?_
        refine t_aload0 dX5_carry_96 ?_
        refine g_getr ft5 fl_X5_7 (j := 0) (by decide) dX5_carry_97 (by assumption) (by assumption) ?_
        refine t_iload4 dX5_carry_100 ?_
        refine pw_iconst (2) dX5_carry_102 (by decide) ?_
        refine pw_iadd dX5_carry_103 ?_
        refine m_ldK (m := m) (p := p) (k := 2) dX5_carry_104 hR (nI_add _ 2) hm hp6 (by decide) ?_
        refine t_istore6 dX5_carry_105 (by decide) okp_i ?_
        refine t_aload0 dX5_carry_107 ?_
        refine g_getr ft5 fl_X5_7 (j := 0) (by decide) dX5_carry_108 (by assumption) (by assumption) ?_
        refine t_iload4 dX5_carry_111 ?_
        refine pw_iconst (3) dX5_carry_113 (by decide) ?_
        refine pw_iadd dX5_carry_114 ?_
        refine m_ldK (m := m) (p := p) (k := 3) dX5_carry_115 hR (nI_add _ 3) hm hp6 (by decide) ?_
        refine t_istore7 dX5_carry_116 (by decide) okp_i ?_
        refine t_aload0 dX5_carry_118 ?_
        refine t_iload3 dX5_carry_119 ?_
        refine pw_bipush (6) dX5_carry_120 (by decide) ?_
        refine pw_idiv dX5_carry_122 (by decide) ?_
        rw [mdiv (by omega), show (6 * m + p) / 6 = m by omega]
        refine t_iload3 dX5_carry_123 ?_
        refine pw_bipush (6) dX5_carry_124 (by decide) ?_
        refine pw_irem dX5_carry_126 (by decide) ?_
        rw [mrem (by omega), show (6 * m + p) % 6 = p by omega]
        refine g_callV2V (M_remove (l := l) hlt hM hR (m := m) (p := p) (n := n1) hm hn1 (by omega) (by omega)) rfl ft5 rfl mc_X5_remove ml_X5_77 mi_X5_remove ms_X5_remove in_X5 (okc_X5_remove (by decide)) dX5_carry_127 (by assumption) (cat_le (Nat.le_of_ble_eq_true rfl)) (fun zim127 zh127 => ?_)
        have hR := zh127
        refine t_aload0 dX5_carry_130 ?_
        refine t_iload2 dX5_carry_131 ?_
        refine t_iload1 dX5_carry_132 ?_
        refine t_iload5 dX5_carry_133 ?_
        refine t_iload6 dX5_carry_135 ?_
        refine t_iload7 dX5_carry_137 ?_
        refine g_callV5I (M_insert (l := l) hlt hM hR (m := t) (n := cnt S t) ht ((congrFun (dp_o hne).1 9).trans (hI.c ht).2) hct) rfl ft5 rfl mc_X5_insert ml_X5_111 mi_X5_insert ms_X5_insert in_X5 (okc_X5_insert (by decide)) dX5_carry_139 (by assumption) (cat_le (Nat.le_of_ble_eq_true rfl)) (fun zx139 zim139 zh139 => ?_)
        obtain ⟨zx, hR⟩ := zh139
        rw [bk_congr (dp_o hne).2, hk] at hR
        have hR := hR.ext (in_dp hne)
        rw [bk_congr (dp_o hne).2, hk] at zx
        refine pw_iret dX5_carry_142 rfl ?_
        exact ⟨rfl, rfl, rfl, _, rfl, zx, (congrFun (hR.2 240 (by decide)) 8).trans hth, hZ2.step hR⟩
      · exact absurd (Classical.not_not.mp zc51) (fun e => by rw [e] at hw; exact absurd hw (by decide))
set_option maxHeartbeats 4000000 in
set_option maxRecDepth 100000 in
theorem M_carryI {l : Launch} (hlt : l.stackTraces = false) {im : TI} {rm : TP} {lm : TL} {Y : TI} {S : CS} {n : Nat} {T : Nat → CS} {sn : Option CS} {bl : Nat} {B : Nat → Int32} (hM : MM rm) (hZ : MZ Y S n T sn bl B im) {x z : Int32} (hmo : maO z = none) : Con l m_X5_carry 9 0 0 NN [pv (some 240), .int (x), .int (z)] im rm lm (QI (fun x im2 => im2 240 8 = 1 ∧ MZ Y S n T sn bl B im2) rm lm) noX := by
  have hk0 := kdM
  have hks := kds
  obtain ⟨r0, r1, r3, r5, r6, r11⟩ := id hM
  have hR : MS im S im := ⟨hZ.1, fun _ _ => rfl⟩
  refine Con.ofN (k := 5) (L0 := [some (pv (some 240)), some (.int (x)), some (.int (z)), none, none, none, none, none]) hlt (by decide +kernel) rfl rfl (by rw [en1 pv_cat, en1 rfl, en1 rfl, en0]; exact Nat.le_of_ble_eq_true rfl) (by rw [en1 pv_cat, en1 rfl, en1 rfl, en0]; rfl) ?_
  refine t_iload2 dX5_carry_0 ?_
  refine g_callS1P (M_isMill (l := l) hlt) rfl mc_X5_isMill ml_X5_94 mi_X5_isMill in_X5 (okc_X5_isMill (by decide)) dX5_carry_1 (cat_le (Nat.le_of_ble_eq_true rfl)) ?_
  rw [bI_f (ma_out hmo)]
  refine pw_if_eq 15 dX5_carry_4 (by decide) (fun _ => ?_) (fun h => absurd (by decide) h)
  refine pw_iconst (-1) dX5_carry_15 (by decide) ?_
  refine t_istore3 dX5_carry_16 (by decide) okp_i ?_
  refine t_aload0 dX5_carry_17 ?_
  refine t_iload2 dX5_carry_18 ?_
  refine g_callS1P (M_isMill (l := l) hlt) rfl mc_X5_isMill ml_X5_94 mi_X5_isMill in_X5 (okc_X5_isMill (by decide)) dX5_carry_19 (cat_le (Nat.le_of_ble_eq_true rfl)) ?_
  rw [bI_f (ma_out hmo)]
  refine pw_if_ne 29 dX5_carry_22 (by decide) (fun h => absurd h (by decide)) (fun _ => ?_)
  refine pw_iconst (1) dX5_carry_25 (by decide) ?_
  refine pw_goto 59 dX5_carry_26 (by decide) ?_
  refine g_callV1I (M_holds1 (l := l) hlt) rfl ft5 rfl mc_X5_holds ml_X5_98 mi_X5_holds ms_X5_holds in_X5 (okc_X5_holds (by decide)) dX5_carry_59 (by assumption) (cat_le (Nat.le_of_ble_eq_true rfl)) (fun zx59 zim59 zh59 => ?_)
  obtain ⟨rfl, rfl⟩ := zh59
  refine pw_if_ne 67 dX5_carry_62 (by decide) (fun h => absurd h (by decide)) (fun _ => ?_)
  refine pw_iconst (0) dX5_carry_65 (by decide) ?_
  refine pw_iret dX5_carry_66 rfl ?_
  exact ⟨rfl, rfl, rfl, _, rfl, th_at, hZ.th⟩
set_option maxHeartbeats 4000000 in
set_option maxRecDepth 100000 in
theorem M_carryS1 {l : Launch} (hlt : l.stackTraces = false) {im : TI} {rm : TP} {lm : TL} {Y : TI} {S : CS} {n : Nat} {T : Nat → CS} {sn : Option CS} {bl : Nat} {B : Nat → Int32} (hM : MM rm) (hZ : MZ Y S n T sn bl B im) {x z : Int32} {t : Nat} (hmo : maO z = some t) (hwh : whS S x = none) : Con l m_X5_carry 9 0 0 NN [pv (some 240), .int (x), .int (z)] im rm lm (QI (fun x im2 => im2 240 8 = 2 ∧ MZ Y S n T sn bl B im2) rm lm) noX := by
  have hk0 := kdM
  have hks := kds
  obtain ⟨r0, r1, r3, r5, r6, r11⟩ := id hM
  have hR : MS im S im := ⟨hZ.1, fun _ _ => rfl⟩
  refine Con.ofN (k := 5) (L0 := [some (pv (some 240)), some (.int (x)), some (.int (z)), none, none, none, none, none]) hlt (by decide +kernel) rfl rfl (by rw [en1 pv_cat, en1 rfl, en1 rfl, en0]; exact Nat.le_of_ble_eq_true rfl) (by rw [en1 pv_cat, en1 rfl, en1 rfl, en0]; rfl) ?_
  obtain ⟨ht, rfl⟩ := maO_some hmo
  refine t_iload2 dX5_carry_0 ?_
  refine g_callS1P (M_isMill (l := l) hlt) rfl mc_X5_isMill ml_X5_94 mi_X5_isMill in_X5 (okc_X5_isMill (by decide)) dX5_carry_1 (cat_le (Nat.le_of_ble_eq_true rfl)) ?_
  rw [bI_t (ma_in hmo)]
  refine pw_if_eq 15 dX5_carry_4 (by decide) (fun h => absurd h (by decide)) (fun _ => ?_)
  refine t_aload0 dX5_carry_7 ?_
  refine t_iload1 dX5_carry_8 ?_
  refine g_callV1P (M_whereIs (l := l) hlt hM hR) rfl ft5 rfl mc_X5_whereIs ml_X5_121 mi_X5_whereIs ms_X5_whereIs in_X5 (okc_X5_whereIs (by decide)) dX5_carry_9 (by assumption) (cat_le (Nat.le_of_ble_eq_true rfl)) ?_
  rw [hwh, show oI none = -1 from rfl]
  refine pw_goto 16 dX5_carry_12 (by decide) ?_
  refine t_istore3 dX5_carry_16 (by decide) okp_i ?_
  refine t_aload0 dX5_carry_17 ?_
  refine t_iload2 dX5_carry_18 ?_
  refine g_callS1P (M_isMill (l := l) hlt) rfl mc_X5_isMill ml_X5_94 mi_X5_isMill in_X5 (okc_X5_isMill (by decide)) dX5_carry_19 (cat_le (Nat.le_of_ble_eq_true rfl)) ?_
  rw [bI_t (ma_in hmo)]
  refine pw_if_ne 29 dX5_carry_22 (by decide) (fun _ => ?_) (fun h => absurd (by decide) h)
  refine t_iload3 dX5_carry_29 ?_
  refine pw_iconst (-1) dX5_carry_30 (by decide) ?_
  refine pw_icmp_eq 54 dX5_carry_31 (by decide) (fun _ => ?_) (fun h => absurd (by decide) h)
  refine pw_iconst (2) dX5_carry_54 (by decide) ?_
  refine pw_goto 59 dX5_carry_55 (by decide) ?_
  refine g_callV1I (M_holds2 (l := l) hlt) rfl ft5 rfl mc_X5_holds ml_X5_98 mi_X5_holds ms_X5_holds in_X5 (okc_X5_holds (by decide)) dX5_carry_59 (by assumption) (cat_le (Nat.le_of_ble_eq_true rfl)) (fun zx59 zim59 zh59 => ?_)
  obtain ⟨rfl, rfl⟩ := zh59
  refine pw_if_ne 67 dX5_carry_62 (by decide) (fun h => absurd h (by decide)) (fun _ => ?_)
  refine pw_iconst (0) dX5_carry_65 (by decide) ?_
  refine pw_iret dX5_carry_66 rfl ?_
  exact ⟨rfl, rfl, rfl, _, rfl, th_at, hZ.th⟩
set_option maxHeartbeats 4000000 in
set_option maxRecDepth 100000 in
theorem M_carryS2 {l : Launch} (hlt : l.stackTraces = false) {im : TI} {rm : TP} {lm : TL} {Y : TI} {S : CS} {n : Nat} {T : Nat → CS} {sn : Option CS} {bl : Nat} {B : Nat → Int32} (hM : MM rm) (hZ : MZ Y S n T sn bl B im) (hI : CI S) {x z : Int32} {m t p : Nat} (hmo : maO z = some t) (hwh : whS S x = some (6 * m + p)) (hm : m < 5) (hp6 : p < 6) (hw : m = t ∨ ¬ S.2.1 t 9 < 6) : Con l m_X5_carry 9 0 0 NN [pv (some 240), .int (x), .int (z)] im rm lm (QI (fun x im2 => im2 240 8 = 2 ∧ MZ Y S n T sn bl B im2) rm lm) noX := by
  have hk0 := kdM
  have hks := kds
  obtain ⟨r0, r1, r3, r5, r6, r11⟩ := id hM
  have hR : MS im S im := ⟨hZ.1, fun _ _ => rfl⟩
  refine Con.ofN (k := 5) (L0 := [some (pv (some 240)), some (.int (x)), some (.int (z)), none, none, none, none, none]) hlt (by decide +kernel) rfl rfl (by rw [en1 pv_cat, en1 rfl, en1 rfl, en0]; exact Nat.le_of_ble_eq_true rfl) (by rw [en1 pv_cat, en1 rfl, en1 rfl, en0]; rfl) ?_
  obtain ⟨ht, rfl⟩ := maO_some hmo
  refine t_iload2 dX5_carry_0 ?_
  refine g_callS1P (M_isMill (l := l) hlt) rfl mc_X5_isMill ml_X5_94 mi_X5_isMill in_X5 (okc_X5_isMill (by decide)) dX5_carry_1 (cat_le (Nat.le_of_ble_eq_true rfl)) ?_
  rw [bI_t (ma_in hmo)]
  refine pw_if_eq 15 dX5_carry_4 (by decide) (fun h => absurd h (by decide)) (fun _ => ?_)
  refine t_aload0 dX5_carry_7 ?_
  refine t_iload1 dX5_carry_8 ?_
  refine g_callV1P (M_whereIs (l := l) hlt hM hR) rfl ft5 rfl mc_X5_whereIs ml_X5_121 mi_X5_whereIs ms_X5_whereIs in_X5 (okc_X5_whereIs (by decide)) dX5_carry_9 (by assumption) (cat_le (Nat.le_of_ble_eq_true rfl)) ?_
  rw [hwh, show oI (some (6 * m + p)) = nI (6 * m + p) from rfl]
  refine pw_goto 16 dX5_carry_12 (by decide) ?_
  refine t_istore3 dX5_carry_16 (by decide) okp_i ?_
  refine t_aload0 dX5_carry_17 ?_
  refine t_iload2 dX5_carry_18 ?_
  refine g_callS1P (M_isMill (l := l) hlt) rfl mc_X5_isMill ml_X5_94 mi_X5_isMill in_X5 (okc_X5_isMill (by decide)) dX5_carry_19 (cat_le (Nat.le_of_ble_eq_true rfl)) ?_
  rw [bI_t (ma_in hmo)]
  refine pw_if_ne 29 dX5_carry_22 (by decide) (fun _ => ?_) (fun h => absurd (by decide) h)
  refine t_iload3 dX5_carry_29 ?_
  refine pw_iconst (-1) dX5_carry_30 (by decide) ?_
  refine pw_icmp_eq 54 dX5_carry_31 (by decide) (fun zc31 => ?_) (fun zc31 => ?_)
  · refine pw_iconst (2) dX5_carry_54 (by decide) ?_
    refine pw_goto 59 dX5_carry_55 (by decide) ?_
    refine g_callV1I (M_holds2 (l := l) hlt) rfl ft5 rfl mc_X5_holds ml_X5_98 mi_X5_holds ms_X5_holds in_X5 (okc_X5_holds (by decide)) dX5_carry_59 (by assumption) (cat_le (Nat.le_of_ble_eq_true rfl)) (fun zx59 zim59 zh59 => ?_)
    obtain ⟨rfl, rfl⟩ := zh59
    refine pw_if_ne 67 dX5_carry_62 (by decide) (fun h => absurd h (by decide)) (fun _ => ?_)
    refine pw_iconst (0) dX5_carry_65 (by decide) ?_
    refine pw_iret dX5_carry_66 rfl ?_
    exact ⟨rfl, rfl, rfl, _, rfl, th_at, hZ.th⟩
  · refine t_iload3 dX5_carry_34 ?_
    refine pw_bipush (6) dX5_carry_35 (by decide) ?_
    refine pw_idiv dX5_carry_37 (by decide) ?_
    rw [mdiv (by omega), show (6 * m + p) / 6 = m by omega]
    refine t_iload2 dX5_carry_38 ?_
    refine pw_icmp_eq 54 dX5_carry_39 (by decide) (fun zc39 => ?_) (fun zc39 => ?_)
    · refine pw_iconst (2) dX5_carry_54 (by decide) ?_
      refine pw_goto 59 dX5_carry_55 (by decide) ?_
      refine g_callV1I (M_holds2 (l := l) hlt) rfl ft5 rfl mc_X5_holds ml_X5_98 mi_X5_holds ms_X5_holds in_X5 (okc_X5_holds (by decide)) dX5_carry_59 (by assumption) (cat_le (Nat.le_of_ble_eq_true rfl)) (fun zx59 zim59 zh59 => ?_)
      obtain ⟨rfl, rfl⟩ := zh59
      refine pw_if_ne 67 dX5_carry_62 (by decide) (fun h => absurd h (by decide)) (fun _ => ?_)
      refine pw_iconst (0) dX5_carry_65 (by decide) ?_
      refine pw_iret dX5_carry_66 rfl ?_
      exact ⟨rfl, rfl, rfl, _, rfl, th_at, hZ.th⟩
    · refine t_aload0 dX5_carry_42 ?_
      refine t_iload2 dX5_carry_43 ?_
      refine pw_bipush (9) dX5_carry_44 (by decide) ?_
      refine g_callV2P (M_of (l := l) hlt hM hR (m := t) (w := 9) ht (by decide)) rfl ft5 rfl mc_X5_of ml_X5_47 mi_X5_of ms_X5_of in_X5 (okc_X5_of (by decide)) dX5_carry_46 (by assumption) (cat_le (Nat.le_of_ble_eq_true rfl)) ?_
      refine pw_bipush (6) dX5_carry_49 (by decide) ?_
      refine pw_icmp_ne 58 dX5_carry_51 (by decide) (fun zc51 => ?_) (fun zc51 => ?_)
      · exact absurd ((hw.resolve_left (fun e => zc39 (by rw [e])))) (fun z => zc51 (c6 hI ht z))
      · refine pw_iconst (2) dX5_carry_54 (by decide) ?_
        refine pw_goto 59 dX5_carry_55 (by decide) ?_
        refine g_callV1I (M_holds2 (l := l) hlt) rfl ft5 rfl mc_X5_holds ml_X5_98 mi_X5_holds ms_X5_holds in_X5 (okc_X5_holds (by decide)) dX5_carry_59 (by assumption) (cat_le (Nat.le_of_ble_eq_true rfl)) (fun zx59 zim59 zh59 => ?_)
        obtain ⟨rfl, rfl⟩ := zh59
        refine pw_if_ne 67 dX5_carry_62 (by decide) (fun h => absurd h (by decide)) (fun _ => ?_)
        refine pw_iconst (0) dX5_carry_65 (by decide) ?_
        refine pw_iret dX5_carry_66 rfl ?_
        exact ⟨rfl, rfl, rfl, _, rfl, th_at, hZ.th⟩
set_option maxHeartbeats 4000000 in
set_option maxRecDepth 100000 in
theorem M_back {l : Launch} (hlt : l.stackTraces = false) {im : TI} {rm : TP} {lm : TL} {Y : TI} {S : CS} {n : Nat} {T : Nat → CS} {sn : Option CS} {bl : Nat} {B : Nat → Int32} (hM : MM rm) (hZ : MZ Y S n T sn bl B im) {x : Int32} {m p n1 : Nat} (hwh : whS S x = some (6 * m + p)) (hm : m < 5) (hp6 : p < 6) (hn1 : S.2.1 m 9 = nI (n1 + 1)) (hc1 : n1 < 6) (hp1 : p ≤ n1) : Con l m_X5_back 9 0 0 NN [pv (some 240), .int (x)] im rm lm (QI (fun y im2 => y = S.2.2 m p 2 ∧ im2 240 8 = 0 ∧ MZ Y (upG (dpS S m p (n1 + 1)) 8 ((dpS S m p (n1 + 1)).1 8 + 1)) (shN n) (shT n T S) sn bl B im2) rm lm) noX := by
  have hk0 := kdM
  have hks := kds
  obtain ⟨r0, r1, r3, r5, r6, r11⟩ := id hM
  have hR : MS im S im := ⟨hZ.1, fun _ _ => rfl⟩
  refine Con.ofN (k := 2) (L0 := [some (pv (some 240)), some (.int (x)), none, none]) hlt (by decide +kernel) rfl rfl (by rw [en1 pv_cat, en1 rfl, en0]; exact Nat.le_of_ble_eq_true rfl) (by rw [en1 pv_cat, en1 rfl, en0]; rfl) ?_
  refine t_aload0 dX5_back_0 ?_
  refine t_iload1 dX5_back_1 ?_
  refine g_callV1P (M_whereIs (l := l) hlt hM hR) rfl ft5 rfl mc_X5_whereIs ml_X5_121 mi_X5_whereIs ms_X5_whereIs in_X5 (okc_X5_whereIs (by decide)) dX5_back_2 (by assumption) (cat_le (Nat.le_of_ble_eq_true rfl)) ?_
  rw [hwh, show oI (some (6 * m + p)) = nI (6 * m + p) from rfl]
  refine t_istore2 dX5_back_5 (by decide) okp_i ?_
  refine t_aload0 dX5_back_6 ?_
  refine t_iload2 dX5_back_7 ?_
  refine pw_iconst (-1) dX5_back_8 (by decide) ?_
  refine pw_icmp_ne 16 dX5_back_9 (by decide) (fun zc9 => ?_) (fun zc9 => ?_)
  · refine pw_iconst (0) dX5_back_16 (by decide) ?_
    refine g_callV1I (M_holdsT (l := l) hlt) rfl ft5 rfl mc_X5_holds ml_X5_98 mi_X5_holds ms_X5_holds in_X5 (okc_X5_holds (by decide)) dX5_back_17 (by assumption) (cat_le (Nat.le_of_ble_eq_true rfl)) (fun zx17 zim17 zh17 => ?_)
    obtain ⟨rfl, rfl⟩ := zh17
    have hZ1 := hZ.th (x := 0)
    have hR : MS (ui im 240 8 0) S (ui im 240 8 0) := ⟨hZ1.1, fun _ _ => rfl⟩
    refine pw_if_ne 25 dX5_back_20 (by decide) (fun _ => ?_) (fun h => absurd (by decide) h)
    refine t_aload0 dX5_back_25 ?_
    refine g_callV0V (M_save (l := l) hlt hM hZ1.1 hZ1.2.1) rfl ft5 rfl mc_X5_save ml_X5_101 mi_X5_save ms_X5_save in_X5 (okc_X5_save (by decide)) dX5_back_26 (by assumption) (cat_le (Nat.le_of_ble_eq_true rfl)) (fun zim26 zh26 => ?_)
    have hZ2 := hZ1.saved zh26
    have hR : MS zim26 S zim26 := ⟨hZ2.1, fun _ _ => rfl⟩
    have hth : zim26 240 8 = 0 := (zh26.2.2 8 (by decide)).trans th_at
    refine t_aload0 dX5_back_29 ?_
    refine g_getr ft5 fl_X5_7 (j := 0) (by decide) dX5_back_30 (by assumption) (by assumption) ?_
    refine t_aload0 dX5_back_33 ?_
    refine t_iload2 dX5_back_34 ?_
    refine pw_bipush (6) dX5_back_35 (by decide) ?_
    refine pw_idiv dX5_back_37 (by decide) ?_
    rw [mdiv (by omega), show (6 * m + p) / 6 = m by omega]
    refine t_iload2 dX5_back_38 ?_
    refine pw_bipush (6) dX5_back_39 (by decide) ?_
    refine pw_irem dX5_back_41 (by decide) ?_
    rw [mrem (by omega), show (6 * m + p) % 6 = p by omega]
    refine g_callV2P (M_sackRow (l := l) hlt (m := m) (p := p)) rfl ft5 rfl mc_X5_sackRow ml_X5_51 mi_X5_sackRow ms_X5_sackRow in_X5 (okc_X5_sackRow (by decide)) dX5_back_42 (by assumption) (cat_le (Nat.le_of_ble_eq_true rfl)) ?_
    refine pw_iconst (2) dX5_back_45 (by decide) ?_
    refine pw_iadd dX5_back_46 ?_
    refine m_ldK (m := m) (p := p) (k := 2) dX5_back_47 hR (nI_add _ 2) hm hp6 (by decide) ?_
    refine t_istore3 dX5_back_48 (by decide) okp_i ?_
    refine t_aload0 dX5_back_49 ?_
    refine t_iload2 dX5_back_50 ?_
    refine pw_bipush (6) dX5_back_51 (by decide) ?_
    refine pw_idiv dX5_back_53 (by decide) ?_
    rw [mdiv (by omega), show (6 * m + p) / 6 = m by omega]
    refine t_iload2 dX5_back_54 ?_
    refine pw_bipush (6) dX5_back_55 (by decide) ?_
    refine pw_irem dX5_back_57 (by decide) ?_
    rw [mrem (by omega), show (6 * m + p) % 6 = p by omega]
    refine g_callV2V (M_remove (l := l) hlt hM hR (m := m) (p := p) (n := n1) hm hn1 (by omega) (by omega)) rfl ft5 rfl mc_X5_remove ml_X5_77 mi_X5_remove ms_X5_remove in_X5 (okc_X5_remove (by decide)) dX5_back_58 (by assumption) (cat_le (Nat.le_of_ble_eq_true rfl)) (fun zim58 zh58 => ?_)
    have hR := zh58
    refine t_aload0 dX5_back_61 ?_
    refine g_getr ft5 fl_X5_7 (j := 0) (by decide) dX5_back_62 (by assumption) (by assumption) ?_
    refine pw_bipush (8) dX5_back_65 (by decide) ?_
    refine pw_dup2 dX5_back_67 rfl pv_cat ?_
    refine m_ldG (j := 8) dX5_back_68 hR rfl (by decide) ?_
    refine pw_iconst (1) dX5_back_69 (by decide) ?_
    refine pw_iadd dX5_back_70 ?_
    refine m_stG (j := 8) dX5_back_71 hR rfl (by decide) (fun zi71 hR => ?_)
    refine t_iload3 dX5_back_72 ?_
    refine pw_iret dX5_back_73 rfl ?_
    exact ⟨rfl, rfl, rfl, _, rfl, rfl, (congrFun (hR.2 240 (by decide)) 8).trans hth, hZ2.step hR⟩
  · exact absurd (Classical.not_not.mp zc9) (nI_m1 (by omega))
set_option maxHeartbeats 4000000 in
set_option maxRecDepth 100000 in
theorem M_backS {l : Launch} (hlt : l.stackTraces = false) {im : TI} {rm : TP} {lm : TL} {Y : TI} {S : CS} {n : Nat} {T : Nat → CS} {sn : Option CS} {bl : Nat} {B : Nat → Int32} (hM : MM rm) (hZ : MZ Y S n T sn bl B im) {x : Int32} (hwh : whS S x = none) : Con l m_X5_back 9 0 0 NN [pv (some 240), .int (x)] im rm lm (QI (fun x im2 => im2 240 8 = 1 ∧ MZ Y S n T sn bl B im2) rm lm) noX := by
  have hk0 := kdM
  have hks := kds
  obtain ⟨r0, r1, r3, r5, r6, r11⟩ := id hM
  have hR : MS im S im := ⟨hZ.1, fun _ _ => rfl⟩
  refine Con.ofN (k := 2) (L0 := [some (pv (some 240)), some (.int (x)), none, none]) hlt (by decide +kernel) rfl rfl (by rw [en1 pv_cat, en1 rfl, en0]; exact Nat.le_of_ble_eq_true rfl) (by rw [en1 pv_cat, en1 rfl, en0]; rfl) ?_
  refine t_aload0 dX5_back_0 ?_
  refine t_iload1 dX5_back_1 ?_
  refine g_callV1P (M_whereIs (l := l) hlt hM hR) rfl ft5 rfl mc_X5_whereIs ml_X5_121 mi_X5_whereIs ms_X5_whereIs in_X5 (okc_X5_whereIs (by decide)) dX5_back_2 (by assumption) (cat_le (Nat.le_of_ble_eq_true rfl)) ?_
  rw [hwh, show oI none = -1 from rfl]
  refine t_istore2 dX5_back_5 (by decide) okp_i ?_
  refine t_aload0 dX5_back_6 ?_
  refine t_iload2 dX5_back_7 ?_
  refine pw_iconst (-1) dX5_back_8 (by decide) ?_
  refine pw_icmp_ne 16 dX5_back_9 (by decide) (fun h => absurd h (by decide)) (fun _ => ?_)
  refine pw_iconst (1) dX5_back_12 (by decide) ?_
  refine pw_goto 17 dX5_back_13 (by decide) ?_
  refine g_callV1I (M_holds1 (l := l) hlt) rfl ft5 rfl mc_X5_holds ml_X5_98 mi_X5_holds ms_X5_holds in_X5 (okc_X5_holds (by decide)) dX5_back_17 (by assumption) (cat_le (Nat.le_of_ble_eq_true rfl)) (fun zx17 zim17 zh17 => ?_)
  obtain ⟨rfl, rfl⟩ := zh17
  refine pw_if_ne 25 dX5_back_20 (by decide) (fun h => absurd h (by decide)) (fun _ => ?_)
  refine pw_iconst (0) dX5_back_23 (by decide) ?_
  refine pw_iret dX5_back_24 rfl ?_
  exact ⟨rfl, rfl, rfl, _, rfl, th_at, hZ.th⟩
theorem MZ.undone {Y : TI} {S : CS} {n : Nat} {T : Nat → CS} {sn : Option CS} {bl : Nat} {B : Nat → Int32} {im : TI} (h : MZ Y S n T sn bl B im) (hn : 0 < n) : MZ Y (T (n - 1)) (n - 1) T sn bl B (cpM (ui im 240 2 (nI (n - 1))) 242 (182 * (n - 1)) 241 0 182) := by
  obtain ⟨h1, ⟨h2, h3, h4⟩, ⟨h5, h6⟩, ⟨h7, h8⟩, h9, h10⟩ := h
  refine ⟨(h4 (n - 1) (by omega)).congr fun j hj => ?_, ⟨?_, by omega, fun k hk => ?_⟩, ⟨?_, fun s hs => ?_⟩, ⟨?_, h8⟩, ?_, fun o ho => ?_⟩
  · have := cp_at (im := ui im 240 2 (nI (n - 1))) (a := 242) (f := 182 * (n - 1)) (b := 241) (t := 0) hj
    rw [Nat.zero_add] at this
    rw [this, ui_ne (by decide)]
  · rw [cp_ne (by decide), ui_at, if_pos rfl]
  · rw [cp_ne (by decide), ui_ne (by decide)]; exact h4 k (by omega)
  · rw [cp_ne (by decide), ui_at, if_neg (by decide)]; exact h5
  · rw [cp_ne (by decide), ui_ne (by decide)]; exact h6 s hs
  · rw [cp_ne (by decide), ui_at, if_neg (by decide)]; exact h7
  · rw [cp_ne (by decide), ui_ne (by decide)]; exact h9
  · rw [cp_ne (by omega), ui_ne (by omega)]; exact h10 o ho
theorem MZ.kept {Y : TI} {S : CS} {n : Nat} {T : Nat → CS} {sn : Option CS} {bl : Nat} {B : Nat → Int32} {im : TI} (h : MZ Y S n T sn bl B im) : MZ Y S n T (some S) bl B (ui (cpM im 241 0 243 0 182) 240 4 1) := by
  obtain ⟨h1, ⟨h2, h3, h4⟩, ⟨h5, h6⟩, ⟨h7, h8⟩, h9, h10⟩ := h
  refine ⟨?_, ⟨?_, h3, fun k hk => ?_⟩, ⟨?_, fun s hs => ?_⟩, ⟨?_, h8⟩, ?_, fun o ho => ?_⟩
  · rw [ui_ne (by decide), cp_ne (by decide)]; exact h1
  · rw [ui_at, if_neg (by decide), cp_ne (by decide)]; exact h2
  · rw [ui_ne (by decide), cp_ne (by decide)]; exact h4 k hk
  · rw [ui_at, if_pos rfl]; rfl
  · cases hs
    rw [ui_ne (by decide)]
    refine h1.congr fun j hj => ?_
    have := cp_at (im := im) (a := 241) (f := 0) (b := 243) (t := 0) hj
    rw [Nat.zero_add] at this
    exact this
  · rw [ui_at, if_neg (by decide), cp_ne (by decide)]; exact h7
  · rw [ui_ne (by decide), cp_ne (by decide)]; exact h9
  · rw [ui_ne (by omega), cp_ne (by omega)]; exact h10 o ho
theorem RW.snap {im : TI} {s : CS} (h : RW (im 243) s) : MS im s (cpM im 243 0 241 0 182) := by
  refine ⟨h.congr fun j hj => ?_, fun o ho => cp_ne ho⟩
  have := cp_at (im := im) (a := 243) (f := 0) (b := 241) (t := 0) hj
  rw [Nat.zero_add] at this
  exact this
theorem pos_nI {n : Nat} (h : 0 < n) (hn : n ≤ 6) : ¬ nI n ≤ 0 := nI_nle h (by omega)
set_option maxHeartbeats 4000000 in
set_option maxRecDepth 100000 in
theorem M_undo {l : Launch} (hlt : l.stackTraces = false) {im : TI} {rm : TP} {lm : TL} {Y : TI} {S : CS} {n : Nat} {T : Nat → CS} {sn : Option CS} {bl : Nat} {B : Nat → Int32} (hM : MM rm) (hZ : MZ Y S n T sn bl B im) (hn : 0 < n) : Con l m_X5_undo 9 0 0 NN [pv (some 240)] im rm lm (QI (fun x im2 => x = nI (n - 1) ∧ im2 240 8 = 0 ∧ MZ Y (T (n - 1)) (n - 1) T sn bl B im2) rm lm) noX := by
  have hk0 := kdM
  have hks := kds
  obtain ⟨r0, r1, r3, r5, r6, r11⟩ := id hM
  have hR : MS im S im := ⟨hZ.1, fun _ _ => rfl⟩
  have hkv := kdv
  obtain ⟨hn0, hn6, hT0⟩ := id hZ.2.1
  refine Con.ofN (k := 0) (L0 := [some (pv (some 240))]) hlt (by decide +kernel) rfl rfl (by rw [en1 pv_cat, en0]; exact Nat.le_of_ble_eq_true rfl) (by rw [en1 pv_cat, en0]; rfl) ?_
  refine t_aload0 dX5_undo_0 ?_
  refine t_aload0 dX5_undo_1 ?_
  refine g_geti ft5 fl_X5_40 (j := 2) (by decide) dX5_undo_2 (by assumption) ?_
  rw [hn0]
  refine pw_if_le 12 dX5_undo_5 (by decide) (fun zc5 => ?_) (fun zc5 => ?_)
  · exact absurd zc5 (pos_nI hn hn6)
  · refine pw_iconst (0) dX5_undo_8 (by decide) ?_
    refine pw_goto 13 dX5_undo_9 (by decide) ?_
    refine g_callV1I (M_holdsT (l := l) hlt) rfl ft5 rfl mc_X5_holds ml_X5_98 mi_X5_holds ms_X5_holds in_X5 (okc_X5_holds (by decide)) dX5_undo_13 (by assumption) (cat_le (Nat.le_of_ble_eq_true rfl)) (fun zx13 zim13 zh13 => ?_)
    obtain ⟨rfl, rfl⟩ := zh13
    have hZ1 := hZ.th (x := 0)
    have hR : MS (ui im 240 8 0) S (ui im 240 8 0) := ⟨hZ1.1, fun _ _ => rfl⟩
    refine pw_if_ne 21 dX5_undo_16 (by decide) (fun _ => ?_) (fun h => absurd (by decide) h)
    refine t_aload0 dX5_undo_21 ?_
    refine pw_dup dX5_undo_22 pv_cat ?_
    refine g_geti ft5 fl_X5_40 (j := 2) (by decide) dX5_undo_23 (by assumption) ?_
    rw [show (ui im 240 8 0) 240 2 = nI n from by rw [ui_at, if_neg (by decide)]; exact hn0]
    refine pw_iconst (1) dX5_undo_26 (by decide) ?_
    refine pw_isub dX5_undo_27 ?_
    rw [show nI n - 1 = nI (n - 1) from by rw [show n = (n - 1) + 1 by omega]; exact nI_pred _]
    refine g_puti ft5 fl_X5_40 (j := 2) (by decide) ⟨rfl, rfl⟩ dX5_undo_28 (by assumption) ?_
    refine t_aload0 dX5_undo_31 ?_
    refine g_getr ft5 fl_X5_13 (j := 1) (by decide) dX5_undo_32 (by assumption) (by assumption) ?_
    refine pw_sipush (182) dX5_undo_35 (by decide) ?_
    refine t_aload0 dX5_undo_38 ?_
    refine g_geti ft5 fl_X5_40 (j := 2) (by decide) dX5_undo_39 (by assumption) ?_
    rw [show (ui (ui im 240 8 0) 240 2 (nI (n - 1))) 240 2 = nI (n - 1) from by rw [ui_at, if_pos rfl]]
    refine pw_imul dX5_undo_42 ?_
    rw [show (182 : Int32) = nI 182 from rfl, pk_mul]
    refine t_aload0 dX5_undo_43 ?_
    refine g_getr ft5 fl_X5_7 (j := 0) (by decide) dX5_undo_44 (by assumption) (by assumption) ?_
    refine pw_iconst (0) dX5_undo_47 (by decide) ?_
    refine g_callS4V (M_copy (l := l) hlt (a := 242) (f := 182 * (n - 1)) (b := 241) (t := 0) kdv kds (by rw [alv]; omega) (by rw [als]; decide) (by rw [alv]; decide) (by rw [als]; decide) (by decide)) rfl mc_X5_copy ml_X5_43 mi_X5_copy in_X5 (okc_X5_copy (by decide)) dX5_undo_48 (Nat.zero_le _) (fun zim48 zh48 => ?_)
    rw [show zim48 = cpM (ui (ui im 240 8 0) 240 2 (nI (n - 1))) 242 (182 * (n - 1)) 241 0 182 from zh48]
    refine t_aload0 dX5_undo_51 ?_
    refine g_geti ft5 fl_X5_40 (j := 2) (by decide) dX5_undo_52 (by assumption) ?_
    refine pw_iret dX5_undo_55 rfl ?_
    exact ⟨rfl, rfl, rfl, _, rfl, by rw [cp_ne (by decide), ui_at, if_pos rfl], by rw [cp_ne (by decide), ui_at, if_neg (by decide)]; exact th_at, hZ1.undone hn⟩
set_option maxHeartbeats 4000000 in
set_option maxRecDepth 100000 in
theorem M_undoS {l : Launch} (hlt : l.stackTraces = false) {im : TI} {rm : TP} {lm : TL} {Y : TI} {S : CS} {n : Nat} {T : Nat → CS} {sn : Option CS} {bl : Nat} {B : Nat → Int32} (hM : MM rm) (hZ : MZ Y S n T sn bl B im) (hn : ¬ 0 < n) : Con l m_X5_undo 9 0 0 NN [pv (some 240)] im rm lm (QI (fun x im2 => im2 240 8 = 1 ∧ MZ Y S n T sn bl B im2) rm lm) noX := by
  have hk0 := kdM
  have hks := kds
  obtain ⟨r0, r1, r3, r5, r6, r11⟩ := id hM
  have hR : MS im S im := ⟨hZ.1, fun _ _ => rfl⟩
  have hkv := kdv
  obtain ⟨hn0, hn6, hT0⟩ := id hZ.2.1
  refine Con.ofN (k := 0) (L0 := [some (pv (some 240))]) hlt (by decide +kernel) rfl rfl (by rw [en1 pv_cat, en0]; exact Nat.le_of_ble_eq_true rfl) (by rw [en1 pv_cat, en0]; rfl) ?_
  refine t_aload0 dX5_undo_0 ?_
  refine t_aload0 dX5_undo_1 ?_
  refine g_geti ft5 fl_X5_40 (j := 2) (by decide) dX5_undo_2 (by assumption) ?_
  rw [hn0, show nI n = 0 from by rw [show n = 0 by omega]; rfl]
  refine pw_if_le 12 dX5_undo_5 (by decide) (fun zc5 => ?_) (fun zc5 => ?_)
  · refine pw_iconst (1) dX5_undo_12 (by decide) ?_
    refine g_callV1I (M_holds1 (l := l) hlt) rfl ft5 rfl mc_X5_holds ml_X5_98 mi_X5_holds ms_X5_holds in_X5 (okc_X5_holds (by decide)) dX5_undo_13 (by assumption) (cat_le (Nat.le_of_ble_eq_true rfl)) (fun zx13 zim13 zh13 => ?_)
    obtain ⟨rfl, rfl⟩ := zh13
    refine pw_if_ne 21 dX5_undo_16 (by decide) (fun h => absurd h (by decide)) (fun _ => ?_)
    refine pw_iconst (0) dX5_undo_19 (by decide) ?_
    refine pw_iret dX5_undo_20 rfl ?_
    exact ⟨rfl, rfl, rfl, _, rfl, th_at, hZ.th⟩
  · exact absurd (by decide) zc5
set_option maxHeartbeats 4000000 in
set_option maxRecDepth 100000 in
theorem M_keep {l : Launch} (hlt : l.stackTraces = false) {im : TI} {rm : TP} {lm : TL} {Y : TI} {S : CS} {n : Nat} {T : Nat → CS} {sn : Option CS} {bl : Nat} {B : Nat → Int32} (hM : MM rm) (hZ : MZ Y S n T sn bl B im) : Con l m_X5_keep 9 0 0 NN [pv (some 240)] im rm lm (QI (fun x im2 => x = S.1 0 ∧ im2 240 8 = 0 ∧ MZ Y S n T (some S) bl B im2) rm lm) noX := by
  have hk0 := kdM
  have hks := kds
  obtain ⟨r0, r1, r3, r5, r6, r11⟩ := id hM
  have hR : MS im S im := ⟨hZ.1, fun _ _ => rfl⟩
  have hkp := kdp
  refine Con.ofN (k := 0) (L0 := [some (pv (some 240))]) hlt (by decide +kernel) rfl rfl (by rw [en1 pv_cat, en0]; exact Nat.le_of_ble_eq_true rfl) (by rw [en1 pv_cat, en0]; rfl) ?_
  refine t_aload0 dX5_keep_0 ?_
  refine pw_iconst (0) dX5_keep_1 (by decide) ?_
  refine g_puti ft5 fl_X5_32 (j := 8) (by decide) ⟨rfl, rfl⟩ dX5_keep_2 (by assumption) ?_
  refine t_aload0 dX5_keep_5 ?_
  refine g_getr ft5 fl_X5_7 (j := 0) (by decide) dX5_keep_6 (by assumption) (by assumption) ?_
  refine pw_iconst (0) dX5_keep_9 (by decide) ?_
  refine t_aload0 dX5_keep_10 ?_
  refine g_getr ft5 fl_X5_16 (j := 3) (by decide) dX5_keep_11 (by assumption) (by assumption) ?_
  refine pw_iconst (0) dX5_keep_14 (by decide) ?_
  refine g_callS4V (M_copy (l := l) hlt (a := 241) (f := 0) (b := 243) (t := 0) kds kdp (by rw [als]; decide) (by rw [alp]; decide) (by rw [als]; decide) (by rw [alp]; decide) (by decide)) rfl mc_X5_copy ml_X5_43 mi_X5_copy in_X5 (okc_X5_copy (by decide)) dX5_keep_15 (Nat.zero_le _) (fun zim15 zh15 => ?_)
  rw [show zim15 = cpM (ui im 240 8 0) 241 0 243 0 182 from zh15]
  refine t_aload0 dX5_keep_18 ?_
  refine pw_iconst (1) dX5_keep_19 (by decide) ?_
  refine g_puti ft5 fl_X5_159 (j := 4) (by decide) ⟨rfl, rfl⟩ dX5_keep_20 (by assumption) ?_
  have hZ1 := hZ.th (x := 0)
  have hZ2 := hZ1.kept
  have hR : MS (ui (cpM (ui im 240 8 0) 241 0 243 0 182) 240 4 1) S (ui (cpM (ui im 240 8 0) 241 0 243 0 182) 240 4 1) := ⟨hZ2.1, fun _ _ => rfl⟩
  refine t_aload0 dX5_keep_23 ?_
  refine g_getr ft5 fl_X5_7 (j := 0) (by decide) dX5_keep_24 (by assumption) (by assumption) ?_
  refine pw_iconst (0) dX5_keep_27 (by decide) ?_
  refine m_ldG (j := 0) dX5_keep_28 hR rfl (by decide) ?_
  refine pw_iret dX5_keep_29 rfl ?_
  exact ⟨rfl, rfl, rfl, _, rfl, rfl, by rw [ui_at, if_neg (by decide), cp_ne (by decide)]; exact th_at, hZ2⟩
set_option maxHeartbeats 4000000 in
set_option maxRecDepth 100000 in
theorem M_restore {l : Launch} (hlt : l.stackTraces = false) {im : TI} {rm : TP} {lm : TL} {Y : TI} {S : CS} {n : Nat} {T : Nat → CS} {sn : Option CS} {bl : Nat} {B : Nat → Int32} (hM : MM rm) (hZ : MZ Y S n T sn bl B im) {s : CS} (hsn : sn = some s) : Con l m_X5_restore 9 0 0 NN [pv (some 240)] im rm lm (QI (fun y im2 => y = s.1 0 ∧ im2 240 8 = 0 ∧ MZ Y s (shN n) (shT n T S) sn bl B im2) rm lm) noX := by
  have hk0 := kdM
  have hks := kds
  obtain ⟨r0, r1, r3, r5, r6, r11⟩ := id hM
  have hR : MS im S im := ⟨hZ.1, fun _ _ => rfl⟩
  have hkp := kdp
  have h4 : im 240 4 = 1 := by rw [hZ.2.2.1.1, hsn]; rfl
  refine Con.ofN (k := 0) (L0 := [some (pv (some 240))]) hlt (by decide +kernel) rfl rfl (by rw [en1 pv_cat, en0]; exact Nat.le_of_ble_eq_true rfl) (by rw [en1 pv_cat, en0]; rfl) ?_
  refine t_aload0 dX5_restore_0 ?_
  refine t_aload0 dX5_restore_1 ?_
  refine g_geti ft5 fl_X5_159 (j := 4) (by decide) dX5_restore_2 (by assumption) ?_
  rw [h4]
  refine pw_if_eq 12 dX5_restore_5 (by decide) (fun zc5 => ?_) (fun zc5 => ?_)
  · exact absurd zc5 (by decide)
  · refine pw_iconst (0) dX5_restore_8 (by decide) ?_
    refine pw_goto 13 dX5_restore_9 (by decide) ?_
    refine g_callV1I (M_holdsT (l := l) hlt) rfl ft5 rfl mc_X5_holds ml_X5_98 mi_X5_holds ms_X5_holds in_X5 (okc_X5_holds (by decide)) dX5_restore_13 (by assumption) (cat_le (Nat.le_of_ble_eq_true rfl)) (fun zx13 zim13 zh13 => ?_)
    obtain ⟨rfl, rfl⟩ := zh13
    have hZ1 := hZ.th (x := 0)
    have hR : MS (ui im 240 8 0) S (ui im 240 8 0) := ⟨hZ1.1, fun _ _ => rfl⟩
    refine pw_if_ne 21 dX5_restore_16 (by decide) (fun _ => ?_) (fun h => absurd (by decide) h)
    refine t_aload0 dX5_restore_21 ?_
    refine g_callV0V (M_save (l := l) hlt hM hZ1.1 hZ1.2.1) rfl ft5 rfl mc_X5_save ml_X5_101 mi_X5_save ms_X5_save in_X5 (okc_X5_save (by decide)) dX5_restore_22 (by assumption) (cat_le (Nat.le_of_ble_eq_true rfl)) (fun zim22 zh22 => ?_)
    have hZ2 := hZ1.saved zh22
    have hR : MS zim22 S zim22 := ⟨hZ2.1, fun _ _ => rfl⟩
    have hth : zim22 240 8 = 0 := (zh22.2.2 8 (by decide)).trans th_at
    refine t_aload0 dX5_restore_25 ?_
    refine g_getr ft5 fl_X5_16 (j := 3) (by decide) dX5_restore_26 (by assumption) (by assumption) ?_
    refine pw_iconst (0) dX5_restore_29 (by decide) ?_
    refine t_aload0 dX5_restore_30 ?_
    refine g_getr ft5 fl_X5_7 (j := 0) (by decide) dX5_restore_31 (by assumption) (by assumption) ?_
    refine pw_iconst (0) dX5_restore_34 (by decide) ?_
    refine g_callS4V (M_copy (l := l) hlt (a := 243) (f := 0) (b := 241) (t := 0) kdp kds (by rw [alp]; decide) (by rw [als]; decide) (by rw [alp]; decide) (by rw [als]; decide) (by decide)) rfl mc_X5_copy ml_X5_43 mi_X5_copy in_X5 (okc_X5_copy (by decide)) dX5_restore_35 (Nat.zero_le _) (fun zim35 zh35 => ?_)
    rw [show zim35 = cpM zim22 243 0 241 0 182 from zh35]
    have hR := (hZ2.2.2.1.2 s hsn).snap
    refine t_aload0 dX5_restore_38 ?_
    refine g_getr ft5 fl_X5_7 (j := 0) (by decide) dX5_restore_39 (by assumption) (by assumption) ?_
    refine pw_iconst (0) dX5_restore_42 (by decide) ?_
    refine m_ldG (j := 0) dX5_restore_43 hR rfl (by decide) ?_
    refine pw_iret dX5_restore_44 rfl ?_
    exact ⟨rfl, rfl, rfl, _, rfl, rfl, (congrFun (hR.2 240 (by decide)) 8).trans hth, hZ2.step hR⟩
set_option maxHeartbeats 4000000 in
set_option maxRecDepth 100000 in
theorem M_restoreS {l : Launch} (hlt : l.stackTraces = false) {im : TI} {rm : TP} {lm : TL} {Y : TI} {S : CS} {n : Nat} {T : Nat → CS} {sn : Option CS} {bl : Nat} {B : Nat → Int32} (hM : MM rm) (hZ : MZ Y S n T sn bl B im) (hsn : sn = none) : Con l m_X5_restore 9 0 0 NN [pv (some 240)] im rm lm (QI (fun x im2 => im2 240 8 = 1 ∧ MZ Y S n T sn bl B im2) rm lm) noX := by
  have hk0 := kdM
  have hks := kds
  obtain ⟨r0, r1, r3, r5, r6, r11⟩ := id hM
  have hR : MS im S im := ⟨hZ.1, fun _ _ => rfl⟩
  have h4 : im 240 4 = 0 := by rw [hZ.2.2.1.1, hsn]; rfl
  refine Con.ofN (k := 0) (L0 := [some (pv (some 240))]) hlt (by decide +kernel) rfl rfl (by rw [en1 pv_cat, en0]; exact Nat.le_of_ble_eq_true rfl) (by rw [en1 pv_cat, en0]; rfl) ?_
  refine t_aload0 dX5_restore_0 ?_
  refine t_aload0 dX5_restore_1 ?_
  refine g_geti ft5 fl_X5_159 (j := 4) (by decide) dX5_restore_2 (by assumption) ?_
  rw [h4]
  refine pw_if_eq 12 dX5_restore_5 (by decide) (fun zc5 => ?_) (fun zc5 => ?_)
  · refine pw_iconst (1) dX5_restore_12 (by decide) ?_
    refine g_callV1I (M_holds1 (l := l) hlt) rfl ft5 rfl mc_X5_holds ml_X5_98 mi_X5_holds ms_X5_holds in_X5 (okc_X5_holds (by decide)) dX5_restore_13 (by assumption) (cat_le (Nat.le_of_ble_eq_true rfl)) (fun zx13 zim13 zh13 => ?_)
    obtain ⟨rfl, rfl⟩ := zh13
    refine pw_if_ne 21 dX5_restore_16 (by decide) (fun h => absurd h (by decide)) (fun _ => ?_)
    refine pw_iconst (0) dX5_restore_19 (by decide) ?_
    refine pw_iret dX5_restore_20 rfl ?_
    exact ⟨rfl, rfl, rfl, _, rfl, th_at, hZ.th⟩
  · exact absurd rfl zc5
theorem MZ.app {Y : TI} {S : CS} {n : Nat} {T : Nat → CS} {sn : Option CS} {bl : Nat} {B : Nat → Int32} {im : TI} {a : Int32} (h : MZ Y S n T sn bl B im) (hb : bl < 60) : MZ Y S n T sn (bl + 1) (fun j => if j = bl then a else B j) (ui (ui im 245 bl a) 240 7 (nI (bl + 1))) := by
  obtain ⟨h1, ⟨h2, h3, h4⟩, ⟨h5, h6⟩, ⟨h7, h8⟩, h9, h10⟩ := h
  refine ⟨?_, ⟨?_, h3, fun k hk => ?_⟩, ⟨?_, fun s hs => ?_⟩, ⟨?_, by omega⟩, fun j hj => ?_, fun o ho => ?_⟩
  · rw [ui_ne (by decide), ui_ne (by decide)]; exact h1
  · rw [ui_at, if_neg (by decide), ui_ne (by decide)]; exact h2
  · rw [ui_ne (by decide), ui_ne (by decide)]; exact h4 k hk
  · rw [ui_at, if_neg (by decide), ui_ne (by decide)]; exact h5
  · rw [ui_ne (by decide), ui_ne (by decide)]; exact h6 s hs
  · rw [ui_at, if_pos rfl]
  · rw [ui_ne (by decide), ui_at, h9 j hj]
  · rw [ui_ne (by omega), ui_ne (by omega)]; exact h10 o ho
theorem MZ.clr {Y : TI} {S : CS} {n : Nat} {T : Nat → CS} {sn : Option CS} {bl : Nat} {B : Nat → Int32} {im : TI} (h : MZ Y S n T sn bl B im) : MZ Y S n T sn 0 B (ui im 240 7 0) := by
  obtain ⟨h1, ⟨h2, h3, h4⟩, ⟨h5, h6⟩, ⟨h7, h8⟩, h9, h10⟩ := h
  refine ⟨?_, ⟨?_, h3, fun k hk => ?_⟩, ⟨?_, fun s hs => ?_⟩, ⟨?_, by omega⟩, fun j hj => ?_, fun o ho => ?_⟩
  · rw [ui_ne (by decide)]; exact h1
  · rw [ui_at, if_neg (by decide)]; exact h2
  · rw [ui_ne (by decide)]; exact h4 k hk
  · rw [ui_at, if_neg (by decide)]; exact h5
  · rw [ui_ne (by decide)]; exact h6 s hs
  · rw [ui_at, if_pos rfl]; rfl
  · rw [ui_ne (by decide)]; exact h9 j hj
  · rw [ui_ne (by omega)]; exact h10 o ho
set_option maxHeartbeats 4000000 in
set_option maxRecDepth 100000 in
theorem M_append {l : Launch} (hlt : l.stackTraces = false) {im : TI} {rm : TP} {lm : TL} {Y : TI} {S : CS} {n : Nat} {T : Nat → CS} {sn : Option CS} {bl : Nat} {B : Nat → Int32} (hM : MM rm) (hZ : MZ Y S n T sn bl B im) {a : Int32} (ha : (33 : Int32) ≤ a ∧ a ≤ 126) (hw : bl < 60) : Con l m_X5_append 9 0 0 NN [pv (some 240), .int (a)] im rm lm (QI (fun x im2 => x = nI (bl + 1) ∧ im2 240 8 = 0 ∧ MZ Y S n T sn (bl + 1) (fun j => if j = bl then a else B j) im2) rm lm) noX := by
  have hk0 := kdM
  have hks := kds
  obtain ⟨r0, r1, r3, r5, r6, r11⟩ := id hM
  have hR : MS im S im := ⟨hZ.1, fun _ _ => rfl⟩
  have hkt := kdt
  obtain ⟨hbl, h60⟩ := id hZ.2.2.2.1
  refine Con.ofN (k := 0) (L0 := [some (pv (some 240)), some (.int (a))]) hlt (by decide +kernel) rfl rfl (by rw [en1 pv_cat, en1 rfl, en0]; exact Nat.le_of_ble_eq_true rfl) (by rw [en1 pv_cat, en1 rfl, en0]; rfl) ?_
  refine t_aload0 dX5_append_0 ?_
  refine t_iload1 dX5_append_1 ?_
  refine pw_bipush (33) dX5_append_2 (by decide) ?_
  refine pw_bipush (126) dX5_append_4 (by decide) ?_
  refine g_callS3P (M_in (l := l) hlt) rfl mc_X5_in ml_X5_36 mi_X5_in in_X5 (okc_X5_in (by decide)) dX5_append_6 (cat_le (Nat.le_of_ble_eq_true rfl)) ?_
  rw [bI_t ha]
  refine pw_if_ne 16 dX5_append_9 (by decide) (fun _ => ?_) (fun h => absurd (by decide) h)
  refine t_aload0 dX5_append_16 ?_
  refine g_geti ft5 fl_X5_124 (j := 7) (by decide) dX5_append_17 (by assumption) ?_
  rw [hbl]
  refine pw_bipush (60) dX5_append_20 (by decide) ?_
  refine pw_icmp_ne 29 dX5_append_22 (by decide) (fun zc22 => ?_) (fun zc22 => ?_)
  · refine pw_iconst (0) dX5_append_29 (by decide) ?_
    refine g_callV1I (M_holdsT (l := l) hlt) rfl ft5 rfl mc_X5_holds ml_X5_98 mi_X5_holds ms_X5_holds in_X5 (okc_X5_holds (by decide)) dX5_append_30 (by assumption) (cat_le (Nat.le_of_ble_eq_true rfl)) (fun zx30 zim30 zh30 => ?_)
    obtain ⟨rfl, rfl⟩ := zh30
    have hZ1 := hZ.th (x := 0)
    have hR : MS (ui im 240 8 0) S (ui im 240 8 0) := ⟨hZ1.1, fun _ _ => rfl⟩
    refine pw_if_ne 38 dX5_append_33 (by decide) (fun _ => ?_) (fun h => absurd (by decide) h)
    refine t_aload0 dX5_append_38 ?_
    refine g_getr ft5 fl_X5_22 (j := 6) (by decide) dX5_append_39 (by assumption) (by assumption) ?_
    refine t_aload0 dX5_append_42 ?_
    refine g_geti ft5 fl_X5_124 (j := 7) (by decide) dX5_append_43 (by assumption) ?_
    rw [show (ui im 240 8 0) 240 7 = nI bl from by rw [ui_at, if_neg (by decide)]; exact hbl]
    refine t_iload1 dX5_append_46 ?_
    refine g_iast dX5_append_47 (by assumption) (by rw [alt]; exact vin_nI hw (by decide)) ?_
    rw [nI_clamp (by omega)]
    refine t_aload0 dX5_append_48 ?_
    refine pw_dup dX5_append_49 pv_cat ?_
    refine g_geti ft5 fl_X5_124 (j := 7) (by decide) dX5_append_50 (by assumption) ?_
    rw [show (ui (ui im 240 8 0) 245 bl a) 240 7 = nI bl from by rw [ui_ne (by decide), ui_at, if_neg (by decide)]; exact hbl]
    refine pw_iconst (1) dX5_append_53 (by decide) ?_
    refine pw_iadd dX5_append_54 ?_
    rw [nI_1]
    refine g_puti ft5 fl_X5_124 (j := 7) (by decide) ⟨rfl, rfl⟩ dX5_append_55 (by assumption) ?_
    refine t_aload0 dX5_append_58 ?_
    refine g_geti ft5 fl_X5_124 (j := 7) (by decide) dX5_append_59 (by assumption) ?_
    rw [show (ui (ui (ui im 240 8 0) 245 bl a) 240 7 (nI (bl + 1))) 240 7 = nI (bl + 1) from by rw [ui_at, if_pos rfl]]
    refine pw_iret dX5_append_62 rfl ?_
    exact ⟨rfl, rfl, rfl, _, rfl, rfl, by rw [ui_at, if_neg (by decide), ui_ne (by decide)]; exact th_at, hZ1.app hw⟩
  · exact absurd ((nI_eq (b := 60) (by omega) (by decide)).mp (Classical.not_not.mp zc22)) (by omega)
set_option maxHeartbeats 4000000 in
set_option maxRecDepth 100000 in
theorem M_appendA {l : Launch} (hlt : l.stackTraces = false) {im : TI} {rm : TP} {lm : TL} {Y : TI} {S : CS} {n : Nat} {T : Nat → CS} {sn : Option CS} {bl : Nat} {B : Nat → Int32} (hM : MM rm) (hZ : MZ Y S n T sn bl B im) {a : Int32} (ha : ¬ ((33 : Int32) ≤ a ∧ a ≤ 126)) : Con l m_X5_append 9 0 0 NN [pv (some 240), .int (a)] im rm lm (QI (fun x im2 => im2 240 8 = 1 ∧ MZ Y S n T sn bl B im2) rm lm) noX := by
  have hk0 := kdM
  have hks := kds
  obtain ⟨r0, r1, r3, r5, r6, r11⟩ := id hM
  have hR : MS im S im := ⟨hZ.1, fun _ _ => rfl⟩
  refine Con.ofN (k := 0) (L0 := [some (pv (some 240)), some (.int (a))]) hlt (by decide +kernel) rfl rfl (by rw [en1 pv_cat, en1 rfl, en0]; exact Nat.le_of_ble_eq_true rfl) (by rw [en1 pv_cat, en1 rfl, en0]; rfl) ?_
  refine t_aload0 dX5_append_0 ?_
  refine t_iload1 dX5_append_1 ?_
  refine pw_bipush (33) dX5_append_2 (by decide) ?_
  refine pw_bipush (126) dX5_append_4 (by decide) ?_
  refine g_callS3P (M_in (l := l) hlt) rfl mc_X5_in ml_X5_36 mi_X5_in in_X5 (okc_X5_in (by decide)) dX5_append_6 (cat_le (Nat.le_of_ble_eq_true rfl)) ?_
  rw [bI_f ha]
  refine pw_if_ne 16 dX5_append_9 (by decide) (fun h => absurd h (by decide)) (fun _ => ?_)
  refine pw_iconst (1) dX5_append_12 (by decide) ?_
  refine pw_goto 30 dX5_append_13 (by decide) ?_
  refine g_callV1I (M_holds1 (l := l) hlt) rfl ft5 rfl mc_X5_holds ml_X5_98 mi_X5_holds ms_X5_holds in_X5 (okc_X5_holds (by decide)) dX5_append_30 (by assumption) (cat_le (Nat.le_of_ble_eq_true rfl)) (fun zx30 zim30 zh30 => ?_)
  obtain ⟨rfl, rfl⟩ := zh30
  refine pw_if_ne 38 dX5_append_33 (by decide) (fun h => absurd h (by decide)) (fun _ => ?_)
  refine pw_iconst (0) dX5_append_36 (by decide) ?_
  refine pw_iret dX5_append_37 rfl ?_
  exact ⟨rfl, rfl, rfl, _, rfl, th_at, hZ.th⟩
set_option maxHeartbeats 4000000 in
set_option maxRecDepth 100000 in
theorem M_appendS {l : Launch} (hlt : l.stackTraces = false) {im : TI} {rm : TP} {lm : TL} {Y : TI} {S : CS} {n : Nat} {T : Nat → CS} {sn : Option CS} {bl : Nat} {B : Nat → Int32} (hM : MM rm) (hZ : MZ Y S n T sn bl B im) {a : Int32} (ha : (33 : Int32) ≤ a ∧ a ≤ 126) (hw : ¬ bl < 60) : Con l m_X5_append 9 0 0 NN [pv (some 240), .int (a)] im rm lm (QI (fun x im2 => im2 240 8 = 2 ∧ MZ Y S n T sn bl B im2) rm lm) noX := by
  have hk0 := kdM
  have hks := kds
  obtain ⟨r0, r1, r3, r5, r6, r11⟩ := id hM
  have hR : MS im S im := ⟨hZ.1, fun _ _ => rfl⟩
  have hkt := kdt
  obtain ⟨hbl, h60⟩ := id hZ.2.2.2.1
  refine Con.ofN (k := 0) (L0 := [some (pv (some 240)), some (.int (a))]) hlt (by decide +kernel) rfl rfl (by rw [en1 pv_cat, en1 rfl, en0]; exact Nat.le_of_ble_eq_true rfl) (by rw [en1 pv_cat, en1 rfl, en0]; rfl) ?_
  refine t_aload0 dX5_append_0 ?_
  refine t_iload1 dX5_append_1 ?_
  refine pw_bipush (33) dX5_append_2 (by decide) ?_
  refine pw_bipush (126) dX5_append_4 (by decide) ?_
  refine g_callS3P (M_in (l := l) hlt) rfl mc_X5_in ml_X5_36 mi_X5_in in_X5 (okc_X5_in (by decide)) dX5_append_6 (cat_le (Nat.le_of_ble_eq_true rfl)) ?_
  rw [bI_t ha]
  refine pw_if_ne 16 dX5_append_9 (by decide) (fun _ => ?_) (fun h => absurd (by decide) h)
  refine t_aload0 dX5_append_16 ?_
  refine g_geti ft5 fl_X5_124 (j := 7) (by decide) dX5_append_17 (by assumption) ?_
  rw [hbl, show nI bl = 60 from by rw [show bl = 60 by omega]; rfl]
  refine pw_bipush (60) dX5_append_20 (by decide) ?_
  refine pw_icmp_ne 29 dX5_append_22 (by decide) (fun zc22 => ?_) (fun zc22 => ?_)
  · exact absurd rfl zc22
  · refine pw_iconst (2) dX5_append_25 (by decide) ?_
    refine pw_goto 30 dX5_append_26 (by decide) ?_
    refine g_callV1I (M_holds2 (l := l) hlt) rfl ft5 rfl mc_X5_holds ml_X5_98 mi_X5_holds ms_X5_holds in_X5 (okc_X5_holds (by decide)) dX5_append_30 (by assumption) (cat_le (Nat.le_of_ble_eq_true rfl)) (fun zx30 zim30 zh30 => ?_)
    obtain ⟨rfl, rfl⟩ := zh30
    refine pw_if_ne 38 dX5_append_33 (by decide) (fun h => absurd h (by decide)) (fun _ => ?_)
    refine pw_iconst (0) dX5_append_36 (by decide) ?_
    refine pw_iret dX5_append_37 rfl ?_
    exact ⟨rfl, rfl, rfl, _, rfl, th_at, hZ.th⟩
set_option maxHeartbeats 4000000 in
set_option maxRecDepth 100000 in
theorem M_clear {l : Launch} (hlt : l.stackTraces = false) {im : TI} {rm : TP} {lm : TL} {Y : TI} {S : CS} {n : Nat} {T : Nat → CS} {sn : Option CS} {bl : Nat} {B : Nat → Int32} (hM : MM rm) (hZ : MZ Y S n T sn bl B im) : Con l m_X5_clearBuffer 9 0 0 NN [pv (some 240)] im rm lm (QI (fun x im2 => x = nI bl ∧ im2 240 8 = 0 ∧ MZ Y S n T sn 0 B im2) rm lm) noX := by
  have hk0 := kdM
  have hks := kds
  obtain ⟨r0, r1, r3, r5, r6, r11⟩ := id hM
  have hR : MS im S im := ⟨hZ.1, fun _ _ => rfl⟩
  refine Con.ofN (k := 1) (L0 := [some (pv (some 240)), none]) hlt (by decide +kernel) rfl rfl (by rw [en1 pv_cat, en0]; exact Nat.le_of_ble_eq_true rfl) (by rw [en1 pv_cat, en0]; rfl) ?_
  refine t_aload0 dX5_clearBuffer_0 ?_
  refine pw_iconst (0) dX5_clearBuffer_1 (by decide) ?_
  refine g_puti ft5 fl_X5_32 (j := 8) (by decide) ⟨rfl, rfl⟩ dX5_clearBuffer_2 (by assumption) ?_
  refine t_aload0 dX5_clearBuffer_5 ?_
  refine g_geti ft5 fl_X5_124 (j := 7) (by decide) dX5_clearBuffer_6 (by assumption) ?_
  rw [show (ui im 240 8 0) 240 7 = nI bl from by rw [ui_at, if_neg (by decide)]; exact hZ.2.2.2.1.1]
  refine t_istore1 dX5_clearBuffer_9 (by decide) okp_r ?_
  refine t_aload0 dX5_clearBuffer_10 ?_
  refine pw_iconst (0) dX5_clearBuffer_11 (by decide) ?_
  refine g_puti ft5 fl_X5_124 (j := 7) (by decide) ⟨rfl, rfl⟩ dX5_clearBuffer_12 (by assumption) ?_
  refine t_iload1 dX5_clearBuffer_15 ?_
  refine pw_iret dX5_clearBuffer_16 rfl ?_
  exact ⟨rfl, rfl, rfl, _, rfl, rfl, by rw [ui_at, if_neg (by decide)]; exact th_at, (hZ.th (x := 0)).clr⟩

/-! TideMills$Mill: putSack, grindFirst, copyFrom -/
set_option maxHeartbeats 4000000 in
set_option maxRecDepth 100000 in
theorem C_grindFirst {l : Launch} (hlt : l.stackTraces = false) {im : TI} {rm : TP} {lm : TL} {a : Nat} {t : Int32} (ha : isM rm a) : Con l m_X2_grindFirst 1 0 0 NN [pv (some a), .int (t)] im rm lm (QV (fun im2 => im2 = if 0 < im a 11 then ui im (a + 3) 0 (im (a + 3) 0 - t) else im) rm lm) noX := by
  obtain ⟨hk, ⟨hk1, hk2, hk3, hk4⟩, ⟨ha1, ha2, ha3, ha4⟩, hr1, hr2, hr3, hr4⟩ := id ha
  refine Con.ofN (k := 0) (L0 := [some (pv (some a)), some (.int (t))]) hlt (by decide +kernel) rfl rfl (by rw [en1 pv_cat, en1 rfl, en0]; exact Nat.le_of_ble_eq_true rfl) (by rw [en1 pv_cat, en1 rfl, en0]; rfl) ?_
  refine t_aload0 dX2_grindFirst_0 ?_
  refine pw_iconst (0) dX2_grindFirst_1 (by decide) ?_
  refine g_callV1P (C_isPlace (l := l) hlt hk) rfl ft2 rfl mc_X2_isPlace ml_X2_68 mi_X2_isPlace ms_X2_isPlace in_X2 (okc_X2_isPlace (by decide)) dX2_grindFirst_2 (by assumption) (cat_le (Nat.le_of_ble_eq_true rfl)) ?_
  refine pw_if_eq 18 dX2_grindFirst_5 (by decide) (fun zc5 => ?_) (fun zc5 => ?_)
  · refine pw_vret dX2_grindFirst_18 rfl ?_
    refine ⟨rfl, rfl, rfl, rfl, ?_⟩
    rw [if_neg]
    intro z
    rw [if_pos ⟨by decide, z, by decide⟩] at zc5
    exact absurd zc5 (by decide)
  · refine t_aload0 dX2_grindFirst_8 ?_
    refine g_getr ft2 fl_X2_49 (j := 14) (by decide) dX2_grindFirst_9 (by assumption) (by assumption) ?_
    refine pw_iconst (0) dX2_grindFirst_12 (by decide) ?_
    refine pw_dup2 dX2_grindFirst_13 rfl pv_cat ?_
    refine g_iald dX2_grindFirst_14 (by assumption) (by rw [ha3]; exact vp_in_nI (n := 0) (by decide) (by decide)) ?_
    refine t_iload1 dX2_grindFirst_15 ?_
    refine pw_isub dX2_grindFirst_16 ?_
    refine g_iast dX2_grindFirst_17 (by assumption) (by rw [ha3]; exact vp_in_nI (n := 0) (by decide) (by decide)) ?_
    refine pw_vret dX2_grindFirst_18 rfl ?_
    refine ⟨rfl, rfl, rfl, rfl, ?_⟩
    rw [if_pos]
    · rfl
    · rcases Classical.em (0 < im a 11) with z | z
      · exact z
      · exact absurd (if_neg (fun q => z q.2.1)) zc5
set_option maxHeartbeats 4000000 in
set_option maxRecDepth 100000 in
theorem C_millCopy {l : Launch} (hlt : l.stackTraces = false) {im : TI} {rm : TP} {lm : TL} {a b : Nat} (ha : isM rm a) (hb : isM rm b) (hab : a + 4 < b ∨ b + 4 < a) : Con l m_X2_copyFrom 0 0 0 NN [pv (some a), pv (some b)] im rm lm (QV (fun im2 => ∀ o q, im2 o q = if o = a ∧ 2 ≤ q ∧ q ≤ 11 then im b q else if inR a o ∧ q < 6 then im (b + (o - a)) q else im o q) rm lm) noX := by
  obtain ⟨hk, ⟨hk1, hk2, hk3, hk4⟩, ⟨ha1, ha2, ha3, ha4⟩, hr1, hr2, hr3, hr4⟩ := id ha
  obtain ⟨gk, ⟨gk1, gk2, gk3, gk4⟩, ⟨hb1, hb2, hb3, hb4⟩, gr1, gr2, gr3, gr4⟩ := id hb
  refine Con.ofN (k := 1) (L0 := [some (pv (some a)), some (pv (some b)), none]) hlt (by decide +kernel) rfl rfl (by rw [en1 pv_cat, en1 pv_cat, en0]; exact Nat.le_of_ble_eq_true rfl) (by rw [en1 pv_cat, en1 pv_cat, en0]; rfl) ?_
  have loop : ∀ (m k : Nat) (y : Int32) (imk : TI), k ≤ 6 → m = 6 - k → y = nI k → (∀ o q, imk o q = if o = a ∧ 2 ≤ q ∧ q ≤ 11 then im b q else if inR a o ∧ q < k then im (b + (o - a)) q else im o q) → PW l m_X2_copyFrom 0 0 0 NN 82 [some (pv (some a)), some (pv (some b)), some (.int y)] [] imk rm lm (QV (fun im2 => ∀ o q, im2 o q = if o = a ∧ 2 ≤ q ∧ q ≤ 11 then im b q else if inR a o ∧ q < 6 then im (b + (o - a)) q else im o q) rm lm) noX := by
    intro m
    induction m using Nat.strongRecOn with
    | _ m ih =>
      intro k y imk hk6 hm hy hI
      subst hy
      subst hm
      refine t_iload2 dX2_copyFrom_82 ?_
      refine pw_bipush (6) dX2_copyFrom_83 (by decide) ?_
      refine pw_icmp_ge 142 dX2_copyFrom_85 (by decide) (fun zc85 => ?_) (fun zc85 => ?_)
      · refine pw_vret dX2_copyFrom_142 rfl ?_
        have zh := (nI_leI (by decide) (by omega)).mp (nI6 ▸ zc85)
        have zk : k = 6 := by omega
        subst zk
        exact ⟨rfl, rfl, rfl, rfl, hI⟩
      · refine t_aload0 dX2_copyFrom_88 ?_
        refine g_getr ft2 fl_X2_42 (j := 12) (by decide) dX2_copyFrom_89 (by assumption) (by assumption) ?_
        refine t_iload2 dX2_copyFrom_92 ?_
        refine t_aload1 dX2_copyFrom_93 ?_
        refine g_getr ft2 fl_X2_42 (j := 12) (by decide) dX2_copyFrom_94 (by assumption) (by assumption) ?_
        refine t_iload2 dX2_copyFrom_97 ?_
        refine g_iald dX2_copyFrom_98 (by assumption) (by rw [hb1]; exact vin_nI (by rcases Nat.lt_or_ge k 6 with z | z; exact z; exact absurd ((nI_leI (a := 6) (b := k) (by decide) (by omega)).mpr z) zc85) (by decide)) ?_
        refine g_iast dX2_copyFrom_99 (by assumption) (by rw [ha1]; exact vin_nI (by rcases Nat.lt_or_ge k 6 with z | z; exact z; exact absurd ((nI_leI (a := 6) (b := k) (by decide) (by omega)).mpr z) zc85) (by decide)) ?_
        refine t_aload0 dX2_copyFrom_100 ?_
        refine g_getr ft2 fl_X2_46 (j := 13) (by decide) dX2_copyFrom_101 (by assumption) (by assumption) ?_
        refine t_iload2 dX2_copyFrom_104 ?_
        refine t_aload1 dX2_copyFrom_105 ?_
        refine g_getr ft2 fl_X2_46 (j := 13) (by decide) dX2_copyFrom_106 (by assumption) (by assumption) ?_
        refine t_iload2 dX2_copyFrom_109 ?_
        refine g_iald dX2_copyFrom_110 (by assumption) (by rw [hb2]; exact vin_nI (by rcases Nat.lt_or_ge k 6 with z | z; exact z; exact absurd ((nI_leI (a := 6) (b := k) (by decide) (by omega)).mpr z) zc85) (by decide)) ?_
        refine g_iast dX2_copyFrom_111 (by assumption) (by rw [ha2]; exact vin_nI (by rcases Nat.lt_or_ge k 6 with z | z; exact z; exact absurd ((nI_leI (a := 6) (b := k) (by decide) (by omega)).mpr z) zc85) (by decide)) ?_
        refine t_aload0 dX2_copyFrom_112 ?_
        refine g_getr ft2 fl_X2_49 (j := 14) (by decide) dX2_copyFrom_113 (by assumption) (by assumption) ?_
        refine t_iload2 dX2_copyFrom_116 ?_
        refine t_aload1 dX2_copyFrom_117 ?_
        refine g_getr ft2 fl_X2_49 (j := 14) (by decide) dX2_copyFrom_118 (by assumption) (by assumption) ?_
        refine t_iload2 dX2_copyFrom_121 ?_
        refine g_iald dX2_copyFrom_122 (by assumption) (by rw [hb3]; exact vin_nI (by rcases Nat.lt_or_ge k 6 with z | z; exact z; exact absurd ((nI_leI (a := 6) (b := k) (by decide) (by omega)).mpr z) zc85) (by decide)) ?_
        refine g_iast dX2_copyFrom_123 (by assumption) (by rw [ha3]; exact vin_nI (by rcases Nat.lt_or_ge k 6 with z | z; exact z; exact absurd ((nI_leI (a := 6) (b := k) (by decide) (by omega)).mpr z) zc85) (by decide)) ?_
        refine t_aload0 dX2_copyFrom_124 ?_
        refine g_getr ft2 fl_X2_52 (j := 15) (by decide) dX2_copyFrom_125 (by assumption) (by assumption) ?_
        refine t_iload2 dX2_copyFrom_128 ?_
        refine t_aload1 dX2_copyFrom_129 ?_
        refine g_getr ft2 fl_X2_52 (j := 15) (by decide) dX2_copyFrom_130 (by assumption) (by assumption) ?_
        refine t_iload2 dX2_copyFrom_133 ?_
        refine g_iald dX2_copyFrom_134 (by assumption) (by rw [hb4]; exact vin_nI (by rcases Nat.lt_or_ge k 6 with z | z; exact z; exact absurd ((nI_leI (a := 6) (b := k) (by decide) (by omega)).mpr z) zc85) (by decide)) ?_
        refine g_iast dX2_copyFrom_135 (by assumption) (by rw [ha4]; exact vin_nI (by rcases Nat.lt_or_ge k 6 with z | z; exact z; exact absurd ((nI_leI (a := 6) (b := k) (by decide) (by omega)).mpr z) zc85) (by decide)) ?_
        refine t_iinc2 (1) dX2_copyFrom_136 (by decide) (by decide) okp_r ?_
        refine pw_goto 82 dX2_copyFrom_139 (by decide) ?_
        have zk : k < 6 := by
          rcases Nat.lt_or_ge k 6 with z | z
          · exact z
          · exact absurd ((nI_leI (a := 6) (b := k) (by decide) (by omega)).mpr z) zc85
        refine ih (6 - (k + 1)) (by omega) (k + 1) _ _ (by omega) rfl (nI_1 k) (fun o q => ?_)
        simp only [nI_clamp (show k < 2 ^ 31 by omega), ui_ne (show b + 2 ≠ a + 1 by omega), ui_ne (show b + 3 ≠ a + 1 by omega), ui_ne (show b + 3 ≠ a + 2 by omega), ui_ne (show b + 4 ≠ a + 1 by omega), ui_ne (show b + 4 ≠ a + 2 by omega), ui_ne (show b + 4 ≠ a + 3 by omega)]
        rcases (show o = a + 1 ∨ o = a + 2 ∨ o = a + 3 ∨ o = a + 4 ∨ ¬ inR a o by unfold inR; omega) with rfl | rfl | rfl | rfl | h
        · rw [ui_ne (by omega), ui_ne (by omega), ui_ne (by omega), ui_at]
          have z0 : ¬ (a + 1 = a ∧ 2 ≤ q ∧ q ≤ 11) := by omega
          have zr : inR a (a + 1) := by unfold inR; omega
          have zd : ¬ inR a (b + 1) := by unfold inR; omega
          rw [if_neg z0, show a + 1 - a = 1 by omega]
          by_cases zq : q = k
          · subst zq
            rw [if_pos rfl, if_pos ⟨zr, by omega⟩, hI, if_neg (by omega), if_neg (fun z => zd z.1)]
          · rw [if_neg zq]
            rw [hI, if_neg z0, show a + 1 - a = 1 by omega]
            by_cases zt : q < k
            · rw [if_pos ⟨zr, zt⟩, if_pos ⟨zr, by omega⟩]
            · rw [if_neg (fun z => zt z.2), if_neg (fun z => zt (by omega))]
        · rw [ui_ne (by omega), ui_ne (by omega), ui_at]
          have z0 : ¬ (a + 2 = a ∧ 2 ≤ q ∧ q ≤ 11) := by omega
          have zr : inR a (a + 2) := by unfold inR; omega
          have zd : ¬ inR a (b + 2) := by unfold inR; omega
          rw [if_neg z0, show a + 2 - a = 2 by omega]
          by_cases zq : q = k
          · subst zq
            rw [if_pos rfl, if_pos ⟨zr, by omega⟩, hI, if_neg (by omega), if_neg (fun z => zd z.1)]
          · rw [if_neg zq]
            rw [ui_ne (by omega)]
            rw [hI, if_neg z0, show a + 2 - a = 2 by omega]
            by_cases zt : q < k
            · rw [if_pos ⟨zr, zt⟩, if_pos ⟨zr, by omega⟩]
            · rw [if_neg (fun z => zt z.2), if_neg (fun z => zt (by omega))]
        · rw [ui_ne (by omega), ui_at]
          have z0 : ¬ (a + 3 = a ∧ 2 ≤ q ∧ q ≤ 11) := by omega
          have zr : inR a (a + 3) := by unfold inR; omega
          have zd : ¬ inR a (b + 3) := by unfold inR; omega
          rw [if_neg z0, show a + 3 - a = 3 by omega]
          by_cases zq : q = k
          · subst zq
            rw [if_pos rfl, if_pos ⟨zr, by omega⟩, hI, if_neg (by omega), if_neg (fun z => zd z.1)]
          · rw [if_neg zq]
            rw [ui_ne (by omega), ui_ne (by omega)]
            rw [hI, if_neg z0, show a + 3 - a = 3 by omega]
            by_cases zt : q < k
            · rw [if_pos ⟨zr, zt⟩, if_pos ⟨zr, by omega⟩]
            · rw [if_neg (fun z => zt z.2), if_neg (fun z => zt (by omega))]
        · rw [ui_at]
          have z0 : ¬ (a + 4 = a ∧ 2 ≤ q ∧ q ≤ 11) := by omega
          have zr : inR a (a + 4) := by unfold inR; omega
          have zd : ¬ inR a (b + 4) := by unfold inR; omega
          rw [if_neg z0, show a + 4 - a = 4 by omega]
          by_cases zq : q = k
          · subst zq
            rw [if_pos rfl, if_pos ⟨zr, by omega⟩, hI, if_neg (by omega), if_neg (fun z => zd z.1)]
          · rw [if_neg zq]
            rw [ui_ne (by omega), ui_ne (by omega), ui_ne (by omega)]
            rw [hI, if_neg z0, show a + 4 - a = 4 by omega]
            by_cases zt : q < k
            · rw [if_pos ⟨zr, zt⟩, if_pos ⟨zr, by omega⟩]
            · rw [if_neg (fun z => zt z.2), if_neg (fun z => zt (by omega))]
        · have z1 : ¬ inR a o := h
          unfold inR at h
          rw [ui_ne (by omega), ui_ne (by omega), ui_ne (by omega), ui_ne (by omega), hI o q]
          rw [if_neg (show ¬ (inR a o ∧ q < k) from fun z => z1 z.1), if_neg (show ¬ (inR a o ∧ q < k + 1) from fun z => z1 z.1)]
  refine t_aload0 dX2_copyFrom_0 ?_
  refine t_aload1 dX2_copyFrom_1 ?_
  refine g_geti ft2 fl_X2_9 (j := 2) (by decide) dX2_copyFrom_2 (by assumption) ?_
  refine g_puti ft2 fl_X2_9 (j := 2) (by decide) ⟨rfl, rfl⟩ dX2_copyFrom_5 (by assumption) ?_
  refine t_aload0 dX2_copyFrom_8 ?_
  refine t_aload1 dX2_copyFrom_9 ?_
  refine g_geti ft2 fl_X2_15 (j := 3) (by decide) dX2_copyFrom_10 (by assumption) ?_
  refine g_puti ft2 fl_X2_15 (j := 3) (by decide) ⟨rfl, rfl⟩ dX2_copyFrom_13 (by assumption) ?_
  refine t_aload0 dX2_copyFrom_16 ?_
  refine t_aload1 dX2_copyFrom_17 ?_
  refine g_geti ft2 fl_X2_18 (j := 4) (by decide) dX2_copyFrom_18 (by assumption) ?_
  refine g_puti ft2 fl_X2_18 (j := 4) (by decide) ⟨rfl, rfl⟩ dX2_copyFrom_21 (by assumption) ?_
  refine t_aload0 dX2_copyFrom_24 ?_
  refine t_aload1 dX2_copyFrom_25 ?_
  refine g_geti ft2 fl_X2_21 (j := 5) (by decide) dX2_copyFrom_26 (by assumption) ?_
  refine g_puti ft2 fl_X2_21 (j := 5) (by decide) ⟨rfl, rfl⟩ dX2_copyFrom_29 (by assumption) ?_
  refine t_aload0 dX2_copyFrom_32 ?_
  refine t_aload1 dX2_copyFrom_33 ?_
  refine g_geti ft2 fl_X2_24 (j := 6) (by decide) dX2_copyFrom_34 (by assumption) ?_
  refine g_puti ft2 fl_X2_24 (j := 6) (by decide) ⟨rfl, rfl⟩ dX2_copyFrom_37 (by assumption) ?_
  refine t_aload0 dX2_copyFrom_40 ?_
  refine t_aload1 dX2_copyFrom_41 ?_
  refine g_geti ft2 fl_X2_27 (j := 7) (by decide) dX2_copyFrom_42 (by assumption) ?_
  refine g_puti ft2 fl_X2_27 (j := 7) (by decide) ⟨rfl, rfl⟩ dX2_copyFrom_45 (by assumption) ?_
  refine t_aload0 dX2_copyFrom_48 ?_
  refine t_aload1 dX2_copyFrom_49 ?_
  refine g_geti ft2 fl_X2_30 (j := 8) (by decide) dX2_copyFrom_50 (by assumption) ?_
  refine g_puti ft2 fl_X2_30 (j := 8) (by decide) ⟨rfl, rfl⟩ dX2_copyFrom_53 (by assumption) ?_
  refine t_aload0 dX2_copyFrom_56 ?_
  refine t_aload1 dX2_copyFrom_57 ?_
  refine g_geti ft2 fl_X2_33 (j := 9) (by decide) dX2_copyFrom_58 (by assumption) ?_
  refine g_puti ft2 fl_X2_33 (j := 9) (by decide) ⟨rfl, rfl⟩ dX2_copyFrom_61 (by assumption) ?_
  refine t_aload0 dX2_copyFrom_64 ?_
  refine t_aload1 dX2_copyFrom_65 ?_
  refine g_geti ft2 fl_X2_36 (j := 10) (by decide) dX2_copyFrom_66 (by assumption) ?_
  refine g_puti ft2 fl_X2_36 (j := 10) (by decide) ⟨rfl, rfl⟩ dX2_copyFrom_69 (by assumption) ?_
  refine t_aload0 dX2_copyFrom_72 ?_
  refine t_aload1 dX2_copyFrom_73 ?_
  refine g_geti ft2 fl_X2_39 (j := 11) (by decide) dX2_copyFrom_74 (by assumption) ?_
  refine g_puti ft2 fl_X2_39 (j := 11) (by decide) ⟨rfl, rfl⟩ dX2_copyFrom_77 (by assumption) ?_
  refine pw_iconst (0) dX2_copyFrom_80 (by decide) ?_
  refine t_istore2 dX2_copyFrom_81 (by decide) okp_r ?_
  refine loop 6 0 _ _ (by omega) rfl rfl (fun o q => ?_)
  simp only [ui_ap]
  rw [if_neg (show ¬ (inR a o ∧ q < 0) by omega)]
  by_cases zo : o = a
  · subst zo
    have zb : ¬ b = o := by omega
    simp only [zb, false_and, if_false, true_and]
    rcases (show q = 2 ∨ q = 3 ∨ q = 4 ∨ q = 5 ∨ q = 6 ∨ q = 7 ∨ q = 8 ∨ q = 9 ∨ q = 10 ∨ q = 11 ∨ ¬ (2 ≤ q ∧ q ≤ 11) by omega) with rfl | rfl | rfl | rfl | rfl | rfl | rfl | rfl | rfl | rfl | z
    all_goals first | rfl | skip
    rw [if_neg z]
    simp only [show ¬ q = 2 by omega, show ¬ q = 3 by omega, show ¬ q = 4 by omega, show ¬ q = 5 by omega, show ¬ q = 6 by omega, show ¬ q = 7 by omega, show ¬ q = 8 by omega, show ¬ q = 9 by omega, show ¬ q = 10 by omega, show ¬ q = 11 by omega, if_false]
  · simp only [zo, false_and, if_false]
set_option maxHeartbeats 4000000 in
set_option maxRecDepth 100000 in
theorem C_putSack {l : Launch} (hlt : l.stackTraces = false) {im : TI} {rm : TP} {lm : TL} {a n : Nat} {s h r due : Int32} (ha : isM rm a) (hn : im a 11 = nI n) (hn6 : n < 6) : Con l m_X2_putSack 2 0 0 NN [pv (some a), .int (s), .int (h), .int (r), .int (due)] im rm lm (QI (fun x im2 => x = nI (skN (fun j => im (a + 4) j < due ∨ (im (a + 4) j = due ∧ im (a + 1) j < s)) n 0) ∧ ∀ o q, im2 o q = if inR a o then (if q < (skN (fun j => im (a + 4) j < due ∨ (im (a + 4) j = due ∧ im (a + 1) j < s)) n 0) then im o q else if q = (skN (fun j => im (a + 4) j < due ∨ (im (a + 4) j = due ∧ im (a + 1) j < s)) n 0) then (if o = a + 1 then s else if o = a + 2 then h else if o = a + 3 then r else due) else if q ≤ n then im o (q - 1) else im o q) else if o = a ∧ q = 11 then nI (n + 1) else im o q) rm lm) noX := by
  obtain ⟨hk, ⟨hk1, hk2, hk3, hk4⟩, ⟨ha1, ha2, ha3, ha4⟩, hr1, hr2, hr3, hr4⟩ := id ha
  refine Con.ofN (k := 2) (L0 := [some (pv (some a)), some (.int (s)), some (.int (h)), some (.int (r)), some (.int (due)), none, none]) hlt (by decide +kernel) rfl rfl (by rw [en1 pv_cat, en1 rfl, en1 rfl, en1 rfl, en1 rfl, en0]; exact Nat.le_of_ble_eq_true rfl) (by rw [en1 pv_cat, en1 rfl, en1 rfl, en1 rfl, en1 rfl, en0]; rfl) ?_
  obtain ⟨pl, hpl⟩ : ∃ pl, pl = (skN (fun j => im (a + 4) j < due ∨ (im (a + 4) j = due ∧ im (a + 1) j < s)) n 0) := ⟨_, rfl⟩
  have hpln : pl ≤ n := by rw [hpl]; have := (skN_le (fun j => im (a + 4) j < due ∨ (im (a + 4) j = due ∧ im (a + 1) j < s)) n 0).2; omega
  have loop : ∀ (m k : Nat) (y : Int32) (imk : TI), m = k - pl → pl ≤ k → k ≤ n → y = nI k → (∀ o q, imk o q = if inR a o ∧ k < q ∧ q ≤ n then im o (q - 1) else im o q) → PW l m_X2_putSack 2 0 0 NN 33 [some (pv (some a)), some (.int s), some (.int h), some (.int r), some (.int due), some (.int (nI pl)), some (.int y)] [] imk rm lm (QI (fun x im2 => x = nI pl ∧ ∀ o q, im2 o q = if inR a o then (if q < pl then im o q else if q = pl then (if o = a + 1 then s else if o = a + 2 then h else if o = a + 3 then r else due) else if q ≤ n then im o (q - 1) else im o q) else if o = a ∧ q = 11 then nI (n + 1) else im o q) rm lm) noX := by
    intro m
    induction m using Nat.strongRecOn with
    | _ m ih =>
      intro k y imk hm hplk hkn hy hI
      subst hy
      have hc11 : imk a 11 = nI n := by rw [hI, if_neg (fun z => by have := z.1; unfold inR at this; omega), hn]
      refine t_iload6 dX2_putSack_33 ?_
      refine t_iload5 dX2_putSack_35 ?_
      refine pw_icmp_le 56 dX2_putSack_37 (by decide) (fun zc37 => ?_) (fun zc37 => ?_)
      · have zke : pl = k := by
          have := (nI_leI (by omega) (by omega)).mp zc37
          omega
        subst zke
        refine t_aload0 dX2_putSack_56 ?_
        refine pw_dup dX2_putSack_57 pv_cat ?_
        refine g_geti ft2 fl_X2_39 (j := 11) (by decide) dX2_putSack_58 (by assumption) ?_
        refine pw_iconst (1) dX2_putSack_61 (by decide) ?_
        refine pw_iadd dX2_putSack_62 ?_
        refine g_puti ft2 fl_X2_39 (j := 11) (by decide) ⟨rfl, rfl⟩ dX2_putSack_63 (by assumption) ?_
        have hpos : ¬ nI pl < 0 ∧ nI pl < (ui imk a 11 (imk a 11 + 1)) a 11 ∧ nI pl < 6 := ⟨nI_pos (by omega), by rw [ui_at, if_pos rfl, hc11, nI_1]; exact (nI_ltI (by omega) (by omega)).mpr (by omega), (nI_ltI (b := 6) (by omega) (by decide)).mpr (by omega)⟩
        refine t_aload0 dX2_putSack_66 ?_
        refine t_iload5 dX2_putSack_67 ?_
        refine g_callV1P (C_isPlace (l := l) hlt hk) rfl ft2 rfl mc_X2_isPlace ml_X2_68 mi_X2_isPlace ms_X2_isPlace in_X2 (okc_X2_isPlace (by decide)) dX2_putSack_69 (by assumption) (cat_le (Nat.le_of_ble_eq_true rfl)) ?_
        refine pw_if_eq 108 dX2_putSack_72 (by decide) (fun zc72 => ?_) (fun zc72 => ?_)
        · refine t_iload5 dX2_putSack_108 ?_
          refine pw_iret dX2_putSack_110 rfl ?_
          exact absurd zc72 (by rw [if_pos hpos]; decide)
        · refine t_aload0 dX2_putSack_75 ?_
          refine g_getr ft2 fl_X2_42 (j := 12) (by decide) dX2_putSack_76 (by assumption) (by assumption) ?_
          refine t_iload5 dX2_putSack_79 ?_
          refine t_iload1 dX2_putSack_81 ?_
          refine g_iast dX2_putSack_82 (by assumption) (by rw [ha1]; exact vin_nI (by omega) (by decide)) ?_
          refine t_aload0 dX2_putSack_83 ?_
          refine g_getr ft2 fl_X2_46 (j := 13) (by decide) dX2_putSack_84 (by assumption) (by assumption) ?_
          refine t_iload5 dX2_putSack_87 ?_
          refine t_iload2 dX2_putSack_89 ?_
          refine g_iast dX2_putSack_90 (by assumption) (by rw [ha2]; exact vin_nI (by omega) (by decide)) ?_
          refine t_aload0 dX2_putSack_91 ?_
          refine g_getr ft2 fl_X2_49 (j := 14) (by decide) dX2_putSack_92 (by assumption) (by assumption) ?_
          refine t_iload5 dX2_putSack_95 ?_
          refine t_iload3 dX2_putSack_97 ?_
          refine g_iast dX2_putSack_98 (by assumption) (by rw [ha3]; exact vin_nI (by omega) (by decide)) ?_
          refine t_aload0 dX2_putSack_99 ?_
          refine g_getr ft2 fl_X2_52 (j := 15) (by decide) dX2_putSack_100 (by assumption) (by assumption) ?_
          refine t_iload5 dX2_putSack_103 ?_
          refine t_iload4 dX2_putSack_105 ?_
          refine g_iast dX2_putSack_107 (by assumption) (by rw [ha4]; exact vin_nI (by omega) (by decide)) ?_
          refine t_iload5 dX2_putSack_108 ?_
          refine pw_iret dX2_putSack_110 rfl ?_
          refine ⟨rfl, rfl, rfl, _, rfl, rfl, fun o q => ?_⟩
          rw [nI_clamp (show pl < 2 ^ 31 by omega)]
          rcases (show o = a + 1 ∨ o = a + 2 ∨ o = a + 3 ∨ o = a + 4 ∨ ¬ inR a o by unfold inR; omega) with rfl | rfl | rfl | rfl | hh
          · have zr : inR a (a + 1) := by unfold inR; omega
            rw [ui_ne (by omega), ui_ne (by omega), ui_ne (by omega), ui_at, if_pos zr]
            by_cases zq : q = pl
            · subst zq
              rw [if_pos rfl, if_neg (Nat.lt_irrefl _), if_pos rfl]
              rw [if_pos rfl]
            · rw [if_neg zq]
              rw [ui_ne (by omega), hI]
              by_cases z1 : q < pl
              · rw [if_neg (by omega), if_pos z1]
              · rw [if_neg z1, if_neg zq]
                by_cases z2 : q ≤ n
                · rw [if_pos ⟨zr, by omega, z2⟩, if_pos z2]
                · rw [if_neg (fun z => z2 z.2.2), if_neg z2]
          · have zr : inR a (a + 2) := by unfold inR; omega
            rw [ui_ne (by omega), ui_ne (by omega), ui_at, if_pos zr]
            by_cases zq : q = pl
            · subst zq
              rw [if_pos rfl, if_neg (Nat.lt_irrefl _), if_pos rfl]
              rw [if_neg (by omega), if_pos rfl]
            · rw [if_neg zq]
              rw [ui_ne (by omega)]
              rw [ui_ne (by omega), hI]
              by_cases z1 : q < pl
              · rw [if_neg (by omega), if_pos z1]
              · rw [if_neg z1, if_neg zq]
                by_cases z2 : q ≤ n
                · rw [if_pos ⟨zr, by omega, z2⟩, if_pos z2]
                · rw [if_neg (fun z => z2 z.2.2), if_neg z2]
          · have zr : inR a (a + 3) := by unfold inR; omega
            rw [ui_ne (by omega), ui_at, if_pos zr]
            by_cases zq : q = pl
            · subst zq
              rw [if_pos rfl, if_neg (Nat.lt_irrefl _), if_pos rfl]
              rw [if_neg (by omega), if_neg (by omega), if_pos rfl]
            · rw [if_neg zq]
              rw [ui_ne (by omega), ui_ne (by omega)]
              rw [ui_ne (by omega), hI]
              by_cases z1 : q < pl
              · rw [if_neg (by omega), if_pos z1]
              · rw [if_neg z1, if_neg zq]
                by_cases z2 : q ≤ n
                · rw [if_pos ⟨zr, by omega, z2⟩, if_pos z2]
                · rw [if_neg (fun z => z2 z.2.2), if_neg z2]
          · have zr : inR a (a + 4) := by unfold inR; omega
            rw [ui_at, if_pos zr]
            by_cases zq : q = pl
            · subst zq
              rw [if_pos rfl, if_neg (Nat.lt_irrefl _), if_pos rfl]
              rw [if_neg (by omega), if_neg (by omega), if_neg (by omega)]
            · rw [if_neg zq]
              rw [ui_ne (by omega), ui_ne (by omega), ui_ne (by omega)]
              rw [ui_ne (by omega), hI]
              by_cases z1 : q < pl
              · rw [if_neg (by omega), if_pos z1]
              · rw [if_neg z1, if_neg zq]
                by_cases z2 : q ≤ n
                · rw [if_pos ⟨zr, by omega, z2⟩, if_pos z2]
                · rw [if_neg (fun z => z2 z.2.2), if_neg z2]
          · rw [if_neg hh]
            unfold inR at hh
            rw [ui_ne (by omega), ui_ne (by omega), ui_ne (by omega), ui_ne (by omega), ui_ap, hc11, nI_1]
            by_cases zo : o = a ∧ q = 11
            · rw [if_pos zo, if_pos zo]
            · rw [if_neg zo, if_neg zo, hI, if_neg (fun z => hh z.1)]
      · refine t_aload0 dX2_putSack_40 ?_
        refine t_iload6 dX2_putSack_41 ?_
        refine pw_iconst (1) dX2_putSack_43 (by decide) ?_
        refine pw_isub dX2_putSack_44 ?_
        refine t_iload6 dX2_putSack_45 ?_
        refine g_callV2V (C_moveSack (l := l) hlt (f := k - 1) (t := k) ha (by rw [show k = (k - 1) + 1 by have := (show pl < k from (Nat.lt_or_ge pl k).elim id (fun z => absurd ((nI_leI (by omega) (by omega)).mpr z) zc37)); omega, nI_pred]; rfl) rfl (by omega) (by omega)) rfl ft2 rfl mc_X2_moveSack ml_X2_75 mi_X2_moveSack ms_X2_moveSack in_X2 (okc_X2_moveSack (by decide)) dX2_putSack_47 (by assumption) (cat_le (Nat.le_of_ble_eq_true rfl)) (fun zim47 zh47 => ?_)
        refine t_iinc6 (-1) dX2_putSack_50 (by decide) (by decide) okp_i ?_
        refine pw_goto 33 dX2_putSack_53 (by decide) ?_
        have zk : pl < k := by
          rcases Nat.lt_or_ge pl k with z | z
          · exact z
          · exact absurd ((nI_leI (by omega) (by omega)).mpr z) zc37
        obtain ⟨k', rfl⟩ : ∃ k', k = k' + 1 := ⟨k - 1, by omega⟩
        rw [show nI (k' + 1) + -1 = nI k' from pk_m1 k']
        refine ih (m - 1) (by omega) k' _ zim47 (by omega) (by omega) (by omega) rfl (fun o q => ?_)
        rw [zh47, Nat.add_sub_cancel, hI o k', hI o q]
        by_cases zr : inR a o
        · by_cases zq : q = k' + 1
          · subst zq
            rw [if_pos ⟨zr, rfl⟩, if_neg (by omega), if_pos ⟨zr, by omega, by omega⟩]
            rfl
          · rw [if_neg (fun z => zq z.2)]
            by_cases zt : k' + 1 < q ∧ q ≤ n
            · rw [if_pos ⟨zr, zt⟩, if_pos ⟨zr, by omega, by omega⟩]
            · rw [if_neg (fun z => zt z.2), if_neg (fun z => zt ⟨by omega, z.2.2⟩)]
        · rw [if_neg (fun z => zr z.1), if_neg (fun z => zr z.1), if_neg (fun z => zr z.1)]
  refine t_aload0 dX2_putSack_0 ?_
  refine g_geti ft2 fl_X2_39 (j := 11) (by decide) dX2_putSack_1 (by assumption) ?_
  refine pw_if_lt 16 dX2_putSack_4 (by decide) (fun zc4 => ?_) (fun zc4 => ?_)
  · refine pw_iconst (-1) dX2_putSack_16 (by decide) ?_
    refine pw_iret dX2_putSack_17 rfl ?_
    exact absurd (hn ▸ zc4) (nI_pos (by omega))
  · refine t_aload0 dX2_putSack_7 ?_
    refine g_geti ft2 fl_X2_39 (j := 11) (by decide) dX2_putSack_8 (by assumption) ?_
    refine pw_bipush (6) dX2_putSack_11 (by decide) ?_
    refine pw_icmp_lt 18 dX2_putSack_13 (by decide) (fun zc13 => ?_) (fun zc13 => ?_)
    · refine t_aload0 dX2_putSack_18 ?_
      refine t_iload1 dX2_putSack_19 ?_
      refine t_iload4 dX2_putSack_20 ?_
      refine g_callV2P (C_placeFor (l := l) hlt ha hn (by omega)) rfl ft2 rfl mc_X2_placeFor ml_X2_72 mi_X2_placeFor ms_X2_placeFor in_X2 (okc_X2_placeFor (by decide)) dX2_putSack_22 (by assumption) (cat_le (Nat.le_of_ble_eq_true rfl)) ?_
      refine t_istore5 dX2_putSack_25 (by decide) okp_i ?_
      refine t_aload0 dX2_putSack_27 ?_
      refine g_geti ft2 fl_X2_39 (j := 11) (by decide) dX2_putSack_28 (by assumption) ?_
      refine t_istore6 dX2_putSack_31 (by decide) okp_i ?_
      rw [← hpl]
      exact loop (n - pl) n _ im rfl hpln (Nat.le_refl _) hn (fun o q => by rw [if_neg (by omega)])
    · refine pw_iconst (-1) dX2_putSack_16 (by decide) ?_
      refine pw_iret dX2_putSack_17 rfl ?_
      exact absurd (hn ▸ (nI_ltI (a := n) (b := 6) (by omega) (by decide)).mpr hn6) zc13

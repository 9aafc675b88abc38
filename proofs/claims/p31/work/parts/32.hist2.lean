/-! TideMills$History: save, restoreLatest -/
def shN (n : Nat) : Nat := if n < 6 then n + 1 else 6
def shT (n : Nat) (T : Nat → CS) (S : CS) : Nat → CS := if n < 6 then fun i => if i = n then S else T i else fun i => if i < 5 then T (i + 1) else S
/-- what a save leaves: all but the saved creeks and the history itself -/
def frH (im im2 : TI) : Prop := ∀ o, (o < 79 ∨ o = 80 ∨ 236 < o) → im2 o = im o
theorem HO.congr {rm : TP} {im : TI} {hs : Nat → Nat} {n : Nat} {T T2 : Nat → CS} (h : HO rm im hs n T) (e : ∀ i, i < n → T2 i = T i) : HO rm im hs n T2 :=
  ⟨h.1, h.2.1, h.2.2.1, h.2.2.2.1, h.2.2.2.2.1, fun i hi => by rw [e i hi]; exact h.2.2.2.2.2.1 i hi, h.2.2.2.2.2.2⟩
theorem apt_hs {a c : Nat} (h1 : a ∈ svL) (h2 : c ∈ crL) (h3 : c ∉ svL) : apt a c := crL_apt a (svL_cr h1) c h2 (fun e => h3 (e ▸ h1))
set_option maxHeartbeats 4000000 in
set_option maxRecDepth 100000 in
theorem C_save {l : Launch} (hlt : l.stackTraces = false) {im : TI} {rm : TP} {lm : TL} {c n : Nat} {S : CS} {T : Nat → CS} {hs : Nat → Nat} (hC : RC rm) (hO : HO rm im hs n T) (hR : CR c S im) (hc : c ∈ crL) (hcs : c ∉ svL) : Con l m_X1_save 3 0 0 NN [pv (some 79), pv (some c)] im rm lm (QG (fun v i r q => v = none ∧ q = lm ∧ (∀ o, o ≠ 80 → r o = rm o) ∧ frH im i ∧ ∃ hs2, HO r i hs2 (shN n) (shT n T S))) noX := by
  have hkh := kd79
  refine Con.ofN (k := 1) (L0 := [some (pv (some 79)), some (pv (some c)), none]) hlt (by decide +kernel) rfl rfl (by rw [en1 pv_cat, en1 pv_cat, en0]; exact Nat.le_of_ble_eq_true rfl) (by rw [en1 pv_cat, en1 pv_cat, en0]; rfl) ?_
  have tail : ∀ (n1 : Nat) (T1 : Nat → CS) (hs1 : Nat → Nat) (im1 : TI) (rm1 : TP), n1 < 6 → shN n = n1 + 1 → (∀ i, i < n1 + 1 → shT n T S i = if i = n1 then S else T1 i) → HO rm1 im1 hs1 n1 T1 → RC rm1 → CR c S im1 → (∀ o, o ≠ 80 → rm1 o = rm o) → frH im im1 → PW l m_X1_save 3 0 0 NN 13 [some (pv (some 79)), some (pv (some c)), none] [] im1 rm1 lm (QG (fun v i r q => v = none ∧ q = lm ∧ (∀ o, o ≠ 80 → r o = rm o) ∧ frH im i ∧ ∃ hs2, HO r i hs2 (shN n) (shT n T S))) noX := by
    intro n1 T1 hs1 im1 rm1 hn1 hN hT hO1 hC1 hR1 hro hfr
    obtain ⟨g1, g2, g3, g4, g5, g6, g7⟩ := id hO1
    have hsv := (g4 n1 hn1).2
    have hap := apt_hs hsv hc hcs
    have hin := svL_in _ hsv
    refine t_aload0 dX1_save_13 ?_
    refine t_aload0 dX1_save_14 ?_
    refine g_geti ft1 fl_X1_17 (j := 1) (by decide) dX1_save_15 (by assumption) ?_
    refine g_callV1P (C_stateAt (l := l) hlt g2 hn1 g1 (g4 n1 hn1).1) rfl ft1 rfl mc_X1_stateAt ml_X1_25 mi_X1_stateAt ms_X1_stateAt in_X1 (okc_X1_stateAt (by decide)) dX1_save_18 (by assumption) (cat_le (Nat.le_of_ble_eq_true rfl)) ?_
    refine t_astore2 dX1_save_21 (by decide) okp_r ?_
    refine t_aload2 dX1_save_22 ?_
    refine pw_ifnull 41 dX1_save_23 (by decide) (fun zc23 => ?_) (fun zy23 zc23 => ?_)
    · exact absurd zc23 (fun z => by cases z)
    · obtain rfl := Option.some.inj zc23
      have hks := (hC1 _ (svL_cr hsv)).1
      refine t_aload2 dX1_save_26 ?_
      refine t_aload1 dX1_save_27 ?_
      refine g_callV1V (C_copy (l := l) hlt (hC1 _ (svL_cr hsv)) (hC1 c hc) hR1 (g7 n1 hn1) hap) rfl ft0 rfl mc_X0_copyFrom ml_X1_29 mi_X0_copyFrom ms_X0_copyFrom in_X0 (okc_X0_copyFrom (by decide)) dX1_save_28 (by assumption) (cat_le (Nat.le_of_ble_eq_true rfl)) (fun zim28 zh28 => ?_)
      refine t_aload0 dX1_save_31 ?_
      refine pw_dup dX1_save_32 pv_cat ?_
      refine g_geti ft1 fl_X1_17 (j := 1) (by decide) dX1_save_33 (by assumption) ?_
      refine pw_iconst (1) dX1_save_36 (by decide) ?_
      refine pw_iadd dX1_save_37 ?_
      refine g_puti ft1 fl_X1_17 (j := 1) (by decide) ⟨rfl, rfl⟩ dX1_save_38 (by assumption) ?_
      refine pw_vret dX1_save_41 rfl ?_
      obtain ⟨zr, zf⟩ := zh28
      have hz79 : zim28 79 = im1 79 := zf 79 (by omega)
      have hfr2 : frH im1 (ui zim28 79 1 (zim28 79 1 + 1)) := fun o ho => by rw [ui_ne (by omega)]; exact zf o (by omega)
      have hcr : ∀ (a : Nat) (U : CS), 81 ≤ a → CR a U zim28 → CR a U (ui zim28 79 1 (zim28 79 1 + 1)) := fun a U h1 h2 => h2.keep fun o h3 _ => ui_ne (by omega)
      refine ⟨rfl, rfl, rfl, hro, fun o ho => (hfr2 o ho).trans (hfr o ho), hs1, ?_⟩
      rw [hN]
      refine HO.congr (T := fun i => if i = n1 then S else T1 i) ⟨g1, by rw [ui_at, if_pos rfl, hz79, g2]; exact nI_1 n1, by omega, g4, g5, fun i hi => ?_, fun i hi => ?_⟩ hT
      · dsimp only
        by_cases e : i = n1
        · rw [if_pos e, e]
          exact hcr _ _ hin.1 zr
        · rw [if_neg e]
          have hi6 : i < 6 := by omega
          have hii := svL_in _ (g4 i hi6).2
          refine hcr _ _ hii.1 (zf.cr (g6 i (by omega)) (crL_apt _ (svL_cr hsv) _ (svL_cr (g4 i hi6).2) (fun z => e (g5 i n1 hi6 hn1 z.symm))))
      · have hii := svL_in _ (g4 i hi).2
        by_cases e : i = n1
        · rw [e]
          exact (hcr _ _ hin.1 zr).nb
        · refine NB.keep (g7 i hi) fun o h1 h2 => ?_
          have hap2 := crL_apt _ (svL_cr hsv) _ (svL_cr (g4 i hi).2) (fun z => e (g5 i n1 hi hn1 z.symm))
          rw [ui_ne (by omega)]
          exact zf o (by unfold apt at hap2; omega)
  refine t_aload0 dX1_save_0 ?_
  refine g_geti ft1 fl_X1_17 (j := 1) (by decide) dX1_save_1 (by assumption) ?_
  refine pw_bipush (6) dX1_save_4 (by decide) ?_
  refine pw_icmp_lt 13 dX1_save_6 (by decide) (fun zc6 => ?_) (fun zc6 => ?_)
  · have zn : n < 6 := by
      rw [hO.2.1] at zc6
      exact (nI_ltI (b := 6) (by have := hO.2.2.1; omega) (by decide)).mp zc6
    exact tail n T hs im rm zn (if_pos zn) (fun i hi => by unfold shT; rw [if_pos zn]) hO hC hR (fun _ _ => rfl) (fun _ _ => rfl)
  · refine t_aload0 dX1_save_9 ?_
    refine g_callV0G (C_dropOldest (l := l) hlt hO.1 (fun i hi => (hO.2.2.2.1 i hi).1) (fun i hi => (hC _ (svL_cr (hO.2.2.2.1 i hi).2)).1)) rfl ft1 rfl mc_X1_dropOldest ml_X1_22 mi_X1_dropOldest ms_X1_dropOldest in_X1 (okc_X1_dropOldest (by decide)) dX1_save_10 (by assumption) (Nat.zero_le _) (fun _ _ _ _ h => h.elim) (by decide) (fun zv10 zim10 zrm10 zlm10 zh10 => ?_)
    have zn : n = 6 := by
      rw [hO.2.1] at zc6
      rcases Nat.lt_or_ge n 6 with z | z
      · exact absurd ((nI_ltI (b := 6) (by omega) (by decide)).mpr z) zc6
      · have := hO.2.2.1; omega
    subst zn
    obtain ⟨z1, z2, z3, z4, z5⟩ := zh10
    subst z1 z2 z3
    obtain ⟨g1, g2, g3, g4, g5, g6, g7⟩ := id hO
    have h79 : ∀ a, 81 ≤ a → a ≤ 211 → ∀ U : CS, CR a U im → CR a U (ui im 79 1 (im 79 1 - 1)) := fun a h1 _ U h2 => h2.keep fun o h3 _ => ui_ne (by omega)
    have hc79 : c + 25 < 79 ∨ 79 < c := by
      have key : ∀ a ∈ crL, a + 25 < 79 ∨ 79 < a := by decide
      exact key c hc
    refine tail 5 (fun i => T (i + 1)) (fun i => if i < 5 then hs (i + 1) else hs 0) _ zrm10 (by decide) rfl (fun i hi => ?_) ⟨by rw [z4 79 (by decide)]; exact g1, ?_, by decide, fun i hi => ?_, fun i j hi hj e => ?_, fun i hi => ?_, fun i hi => ?_⟩ (hC.keep z4) (hR.keep fun o h1 h2 => ui_ne (by omega)) z4 (fun o ho => ui_ne (by omega))
    · unfold shT
      rw [if_neg (by decide)]
      by_cases e : i = 5
      · rw [if_neg (by omega), if_pos e]
      · rw [if_pos (by omega), if_neg e]
    · rw [ui_at, if_pos rfl, g2]
      exact nI_pred 5
    · rw [z5 i hi]
      by_cases e : i < 5
      · rw [if_pos e]; dsimp only; rw [if_pos e]; exact g4 (i + 1) (by omega)
      · rw [if_neg e]; dsimp only; rw [if_neg e]; exact g4 0 (by decide)
    · dsimp only at e
      by_cases e1 : i < 5
      · by_cases e2 : j < 5
        · rw [if_pos e1, if_pos e2] at e
          have := g5 (i + 1) (j + 1) (by omega) (by omega) e
          omega
        · rw [if_pos e1, if_neg e2] at e
          have := g5 (i + 1) 0 (by omega) (by omega) e
          omega
      · by_cases e2 : j < 5
        · rw [if_neg e1, if_pos e2] at e
          have := g5 0 (j + 1) (by omega) (by omega) e
          omega
        · omega
    · dsimp only
      rw [if_pos hi]
      have hii := svL_in _ (g4 (i + 1) (by omega)).2
      exact h79 _ hii.1 hii.2 _ (g6 (i + 1) (by omega))
    · dsimp only
      have hz : ∀ j, j < 6 → NB (hs j) (ui im 79 1 (im 79 1 - 1)) := fun j hj => by
        have hii := svL_in _ (g4 j hj).2
        exact (g7 j hj).keep fun o h1 _ => ui_ne (by omega)
      by_cases e : i < 5
      · rw [if_pos e]; exact hz _ (by omega)
      · rw [if_neg e]; exact hz 0 (by decide)
set_option maxHeartbeats 4000000 in
set_option maxRecDepth 100000 in
theorem C_restoreLatest {l : Launch} (hlt : l.stackTraces = false) {im : TI} {rm : TP} {lm : TL} {c n : Nat} {T : Nat → CS} {hs : Nat → Nat} (hC : RC rm) (hO : HO rm im hs n T) (hn : 0 < n) (hR : NB c im) (hc : c ∈ crL) (hcs : c ∉ svL) : Con l m_X1_restoreLatest 3 0 0 NN [pv (some 79), pv (some c)] im rm lm (QV (fun im2 => CR c (T (n - 1)) im2 ∧ HO rm im2 hs (n - 1) T ∧ ∀ o, ¬ o = 79 → (o < c ∨ c + 25 < o) → im2 o = im o) rm lm) noX := by
  have hkh := kd79
  refine Con.ofN (k := 1) (L0 := [some (pv (some 79)), some (pv (some c)), none]) hlt (by decide +kernel) rfl rfl (by rw [en1 pv_cat, en1 pv_cat, en0]; exact Nat.le_of_ble_eq_true rfl) (by rw [en1 pv_cat, en1 pv_cat, en0]; rfl) ?_
  obtain ⟨g1, g2, g3, g4, g5, g6, g7⟩ := id hO
  have hsv := (g4 (n - 1) (by omega)).2
  have hap := apt_hs hsv hc hcs
  have hc79 : 79 < c ∨ c + 25 < 79 := by
    have key : ∀ a ∈ crL, 79 < a ∨ a + 25 < 79 := by decide
    exact key c hc
  refine t_aload0 dX1_restoreLatest_0 ?_
  refine t_aload0 dX1_restoreLatest_1 ?_
  refine g_geti ft1 fl_X1_17 (j := 1) (by decide) dX1_restoreLatest_2 (by assumption) ?_
  refine pw_iconst (1) dX1_restoreLatest_5 (by decide) ?_
  refine pw_isub dX1_restoreLatest_6 ?_
  refine g_callV1P (C_stateAt (l := l) (i := n - 1) hlt (by rw [g2, show n = (n - 1) + 1 by omega, nI_pred]; rfl) (by omega) g1 (g4 (n - 1) (by omega)).1) rfl ft1 rfl mc_X1_stateAt ml_X1_25 mi_X1_stateAt ms_X1_stateAt in_X1 (okc_X1_stateAt (by decide)) dX1_restoreLatest_7 (by assumption) (cat_le (Nat.le_of_ble_eq_true rfl)) ?_
  refine t_astore2 dX1_restoreLatest_10 (by decide) okp_r ?_
  refine t_aload2 dX1_restoreLatest_11 ?_
  refine pw_ifnull 30 dX1_restoreLatest_12 (by decide) (fun zc12 => ?_) (fun zy12 zc12 => ?_)
  · exact absurd zc12 (fun z => by cases z)
  · obtain rfl := Option.some.inj zc12
    have hkc := (hC c hc).1
    refine t_aload1 dX1_restoreLatest_15 ?_
    refine t_aload2 dX1_restoreLatest_16 ?_
    refine g_callV1V (C_copy (l := l) hlt (hC c hc) (hC _ (svL_cr hsv)) (g6 (n - 1) (by omega)) hR (by unfold apt at hap ⊢; omega)) rfl ft0 rfl mc_X0_copyFrom ml_X1_29 mi_X0_copyFrom ms_X0_copyFrom in_X0 (okc_X0_copyFrom (by decide)) dX1_restoreLatest_17 (by assumption) (cat_le (Nat.le_of_ble_eq_true rfl)) (fun zim17 zh17 => ?_)
    refine t_aload0 dX1_restoreLatest_20 ?_
    refine pw_dup dX1_restoreLatest_21 pv_cat ?_
    refine g_geti ft1 fl_X1_17 (j := 1) (by decide) dX1_restoreLatest_22 (by assumption) ?_
    refine pw_iconst (1) dX1_restoreLatest_25 (by decide) ?_
    refine pw_isub dX1_restoreLatest_26 ?_
    refine g_puti ft1 fl_X1_17 (j := 1) (by decide) ⟨rfl, rfl⟩ dX1_restoreLatest_27 (by assumption) ?_
    refine pw_vret dX1_restoreLatest_30 rfl ?_
    obtain ⟨zr, zf⟩ := zh17
    have hz79 : zim17 79 = im 79 := zf 79 hc79
    refine ⟨rfl, rfl, rfl, rfl, zr.keep fun o h1 h2 => ui_ne (by omega), ⟨g1, ?_, by omega, g4, g5, fun i hi => ?_, fun i hi => ?_⟩, fun o h1 h2 => by rw [ui_ne h1]; exact zf o h2⟩
    · rw [ui_at, if_pos rfl, hz79, g2, show n = (n - 1) + 1 by omega, nI_pred]
      rfl
    · have hii := svL_in _ (g4 i (by omega)).2
      refine (zf.cr (g6 i (by omega)) ?_).keep fun o h1 _ => ui_ne (by omega)
      have := apt_hs (g4 i (by omega)).2 hc hcs
      unfold apt at this ⊢; omega
    · have hii := svL_in _ (g4 i hi).2
      have hap2 := apt_hs (g4 i hi).2 hc hcs
      exact (g7 i hi).keep fun o h1 h2 => by rw [ui_ne (by omega)]; exact zf o (by unfold apt at hap2; omega)

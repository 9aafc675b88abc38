/-! TideMills$Creek: copyFrom; TideMills$History -/
/-- two creeks that lie apart -/
abbrev apt (a b : Nat) : Prop := a + 25 < b ∨ b + 25 < a
/-- the mills of a creek bear their numbers -/
def NB (c : Nat) (im : TI) : Prop := ∀ m, m < 5 → im (mA c m) 0 = nI m
theorem CR.nb {c : Nat} {S : CS} {im : TI} (h : CR c S im) : NB c im := fun m hm => (h.2 m hm).1
theorem CR.keep {c : Nat} {S : CS} {im im2 : TI} (h : CR c S im) (e : ∀ o, c ≤ o → o ≤ c + 25 → im2 o = im o) : CR c S im2 := by
  have e0 := e c (Nat.le_refl _) (by omega)
  refine ⟨by rw [e0]; exact h.1, fun m hm => (h.2 m hm).keep fun o h1 h2 => e o (by unfold mA at h1; omega) (by unfold mA at h2; omega)⟩
theorem NB.keep {c : Nat} {im im2 : TI} (h : NB c im) (e : ∀ o, c ≤ o → o ≤ c + 25 → im2 o = im o) : NB c im2 := fun m hm => by rw [e _ (by unfold mA; omega) (by unfold mA; omega)]; exact h m hm
theorem fr.cr {a b : Nat} {S : CS} {im im2 : TI} (f : fr a im im2) (h : CR b S im) (hab : apt a b) : CR b S im2 := h.keep fun o h1 h2 => f o (by unfold apt at hab; omega)
theorem MA.copy {a b m : Nat} {f : Nat → Int32} {k : Nat → Nat → Int32} {im im2 : TI} (h : MA b m f k im) (hn : im a 0 = nI m) (e : ∀ o q, im2 o q = if o = a ∧ 2 ≤ q ∧ q ≤ 11 then im b q else if inR a o ∧ q < 6 then im (b + (o - a)) q else im o q) : MA a m f k im2 := by
  have er : ∀ i p : Nat, 1 ≤ i → i ≤ 4 → p < 6 → im2 (a + i) p = im (b + i) p := fun i p h1 h4 hp => by
    rw [e, if_neg (by omega), if_pos ⟨by unfold inR; omega, hp⟩, show a + i - a = i by omega]
  refine ⟨by rw [e, if_neg (by omega), if_neg (fun z => by have := z.1; unfold inR at this; omega)]; exact hn, fun w hw => by rw [e, if_pos ⟨rfl, by omega, by omega⟩]; exact h.2.1 w hw, fun p hp => ?_⟩
  rw [er 1 p (by decide) (by decide) hp, er 2 p (by decide) (by decide) hp, er 3 p (by decide) (by decide) hp, er 4 p (by decide) (by decide) hp]
  exact h.2.2 p hp
set_option maxHeartbeats 4000000 in
set_option maxRecDepth 100000 in
theorem C_copy {l : Launch} (hlt : l.stackTraces = false) {im : TI} {rm : TP} {lm : TL} {c b : Nat} {S : CS} (hC : isC rm c) (hB : isC rm b) (hR : CR b S im) (hN : NB c im) (hab : apt c b) : Con l m_X0_copyFrom 2 0 0 NN [pv (some c), pv (some b)] im rm lm (QV (fun im2 => CR c S im2 ∧ fr c im im2) rm lm) noX := by
  have hkc := hC.1
  have hkb0 := hB.1
  refine Con.ofN (k := 2) (L0 := [some (pv (some c)), some (pv (some b)), none, none]) hlt (by decide +kernel) rfl rfl (by rw [en1 pv_cat, en1 pv_cat, en0]; exact Nat.le_of_ble_eq_true rfl) (by rw [en1 pv_cat, en1 pv_cat, en0]; rfl) ?_
  have loop : ∀ (n k : Nat) (imk : TI), n = 5 - k → k ≤ 5 → (∀ j, 1 ≤ j → j ≤ 12 → imk c j = im b j) ∧ (∀ m, m < k → MA (mA c m) m (S.2.1 m) (S.2.2 m) imk) ∧ NB c imk ∧ fr c im imk → PW l m_X0_copyFrom 2 0 0 NN 106 [some (pv (some c)), some (pv (some b)), some (pv (mo b k)), some (pv (mo c k))] [] imk rm lm (QV (fun im2 => CR c S im2 ∧ fr c im im2) rm lm) noX := by
    intro n
    induction n using Nat.strongRecOn with
    | _ n ih =>
      intro k imk hn hk5 hI
      obtain ⟨i1, i2, i3, i4⟩ := hI
      refine t_aload3 dX0_copyFrom_106 ?_
      refine pw_ifnull 132 dX0_copyFrom_107 (by decide) (fun zc107 => ?_) (fun zy107 zc107 => ?_)
      · have zm5 := mo_none zc107
        refine pw_vret dX0_copyFrom_132 rfl ?_
        refine ⟨rfl, rfl, rfl, rfl, ⟨⟨?_, ?_, ?_, ?_, ?_, fun j h1 h2 => ?_⟩, fun m hm => i2 m (by omega)⟩, i4⟩
        · rw [i1 1 (by decide) (by decide)]; exact hR.1.1
        · rw [i1 2 (by decide) (by decide)]; exact hR.1.2.1
        · rw [i1 3 (by decide) (by decide)]; exact hR.1.2.2.1
        · rw [i1 4 (by decide) (by decide)]; exact hR.1.2.2.2.1
        · rw [i1 5 (by decide) (by decide)]; exact hR.1.2.2.2.2.1
        · rw [i1 j (by omega) h2]; exact hR.1.2.2.2.2.2 j h1 h2
      · obtain ⟨zhm, rfl⟩ := mo_some zc107
        rw [mo_of zhm, mo_of zhm]
        have hkm := ck_of hC zhm
        have hkb := ck_of hB zhm
        refine t_aload2 dX0_copyFrom_110 ?_
        refine pw_ifnull 132 dX0_copyFrom_111 (by decide) (fun zc111 => ?_) (fun zy111 zc111 => ?_)
        · exact absurd zc111 (fun z => by cases z)
        · refine t_aload3 dX0_copyFrom_114 ?_
          refine t_aload2 dX0_copyFrom_115 ?_
          refine g_callV1V (C_millCopy (l := l) hlt (hC.2.2.1 k zhm) (hB.2.2.1 k zhm) (by unfold mA apt at *; omega)) rfl ft2 rfl mc_X2_copyFrom ml_X0_57 mi_X2_copyFrom ms_X2_copyFrom in_X2 (okc_X2_copyFrom (by decide)) dX0_copyFrom_116 (by assumption) (cat_le (Nat.le_of_ble_eq_true rfl)) (fun zim116 zh116 => ?_)
          refine t_aload2 dX0_copyFrom_119 ?_
          refine g_getr ft2 fl_X0_61 (j := 1) (by decide) dX0_copyFrom_120 (by assumption) (by first | assumption | exact hC.2.2.2 _ zhm | exact hB.2.2.2 _ zhm) ?_
          refine t_astore2 dX0_copyFrom_123 (by decide) okp_r ?_
          refine t_aload3 dX0_copyFrom_124 ?_
          refine g_getr ft2 fl_X0_61 (j := 1) (by decide) dX0_copyFrom_125 (by assumption) (by first | assumption | exact hC.2.2.2 _ zhm | exact hB.2.2.2 _ zhm) ?_
          refine t_astore3 dX0_copyFrom_128 (by decide) okp_r ?_
          refine pw_goto 106 dX0_copyFrom_129 (by decide) ?_
          have hbk : MA (mA b k) k (S.2.1 k) (S.2.2 k) imk := (hR.2 k zhm).keep fun o h1 h2 => i4 o (by unfold apt mA at *; omega)
          refine ih (n - 1) (by omega) (k + 1) zim116 (by omega) (by omega) ⟨fun j h1 h2 => ?_, fun m hm => ?_, fun m hm => ?_, fun o ho => funext fun q => ?_⟩
          · rw [zh116, if_neg (fun z => by have := z.1; unfold mA at this; omega), if_neg (fun z => by have := z.1; unfold inR mA at this; omega)]; exact i1 j h1 h2
          · rcases Nat.lt_or_ge m k with z | z
            · refine (i2 m z).keep fun o h1 h2 => funext fun q => ?_
              rw [zh116, if_neg (fun z => by have := z.1; unfold mA at *; omega), if_neg (fun z => by have := z.1; unfold inR mA at *; omega)]
            · have e : m = k := by omega
              subst e
              exact hbk.copy (i3 m zhm) zh116
          · rw [zh116, if_neg (by omega), if_neg (fun z => by have := z.1; unfold inR mA at *; omega)]; exact i3 m hm
          · rw [zh116, if_neg (fun z => by have := z.1; unfold mA at *; omega), if_neg (fun z => by have := z.1; unfold inR mA at *; omega), i4 o ho]
  refine t_aload0 dX0_copyFrom_0 ?_
  refine t_aload1 dX0_copyFrom_1 ?_
  refine g_geti ft0 fl_X0_9 (j := 1) (by decide) dX0_copyFrom_2 (by assumption) ?_
  refine g_puti ft0 fl_X0_9 (j := 1) (by decide) ⟨rfl, rfl⟩ dX0_copyFrom_5 (by assumption) ?_
  refine t_aload0 dX0_copyFrom_8 ?_
  refine t_aload1 dX0_copyFrom_9 ?_
  refine g_geti ft0 fl_X0_15 (j := 2) (by decide) dX0_copyFrom_10 (by assumption) ?_
  refine g_puti ft0 fl_X0_15 (j := 2) (by decide) ⟨rfl, rfl⟩ dX0_copyFrom_13 (by assumption) ?_
  refine t_aload0 dX0_copyFrom_16 ?_
  refine t_aload1 dX0_copyFrom_17 ?_
  refine g_geti ft0 fl_X0_18 (j := 3) (by decide) dX0_copyFrom_18 (by assumption) ?_
  refine g_puti ft0 fl_X0_18 (j := 3) (by decide) ⟨rfl, rfl⟩ dX0_copyFrom_21 (by assumption) ?_
  refine t_aload0 dX0_copyFrom_24 ?_
  refine t_aload1 dX0_copyFrom_25 ?_
  refine g_geti ft0 fl_X0_21 (j := 4) (by decide) dX0_copyFrom_26 (by assumption) ?_
  refine g_puti ft0 fl_X0_21 (j := 4) (by decide) ⟨rfl, rfl⟩ dX0_copyFrom_29 (by assumption) ?_
  refine t_aload0 dX0_copyFrom_32 ?_
  refine t_aload1 dX0_copyFrom_33 ?_
  refine g_geti ft0 fl_X0_24 (j := 5) (by decide) dX0_copyFrom_34 (by assumption) ?_
  refine g_puti ft0 fl_X0_24 (j := 5) (by decide) ⟨rfl, rfl⟩ dX0_copyFrom_37 (by assumption) ?_
  refine t_aload0 dX0_copyFrom_40 ?_
  refine t_aload1 dX0_copyFrom_41 ?_
  refine g_geti ft0 fl_X0_27 (j := 6) (by decide) dX0_copyFrom_42 (by assumption) ?_
  refine g_puti ft0 fl_X0_27 (j := 6) (by decide) ⟨rfl, rfl⟩ dX0_copyFrom_45 (by assumption) ?_
  refine t_aload0 dX0_copyFrom_48 ?_
  refine t_aload1 dX0_copyFrom_49 ?_
  refine g_geti ft0 fl_X0_30 (j := 7) (by decide) dX0_copyFrom_50 (by assumption) ?_
  refine g_puti ft0 fl_X0_30 (j := 7) (by decide) ⟨rfl, rfl⟩ dX0_copyFrom_53 (by assumption) ?_
  refine t_aload0 dX0_copyFrom_56 ?_
  refine t_aload1 dX0_copyFrom_57 ?_
  refine g_geti ft0 fl_X0_33 (j := 8) (by decide) dX0_copyFrom_58 (by assumption) ?_
  refine g_puti ft0 fl_X0_33 (j := 8) (by decide) ⟨rfl, rfl⟩ dX0_copyFrom_61 (by assumption) ?_
  refine t_aload0 dX0_copyFrom_64 ?_
  refine t_aload1 dX0_copyFrom_65 ?_
  refine g_geti ft0 fl_X0_36 (j := 9) (by decide) dX0_copyFrom_66 (by assumption) ?_
  refine g_puti ft0 fl_X0_36 (j := 9) (by decide) ⟨rfl, rfl⟩ dX0_copyFrom_69 (by assumption) ?_
  refine t_aload0 dX0_copyFrom_72 ?_
  refine t_aload1 dX0_copyFrom_73 ?_
  refine g_geti ft0 fl_X0_39 (j := 10) (by decide) dX0_copyFrom_74 (by assumption) ?_
  refine g_puti ft0 fl_X0_39 (j := 10) (by decide) ⟨rfl, rfl⟩ dX0_copyFrom_77 (by assumption) ?_
  refine t_aload0 dX0_copyFrom_80 ?_
  refine t_aload1 dX0_copyFrom_81 ?_
  refine g_geti ft0 fl_X0_42 (j := 11) (by decide) dX0_copyFrom_82 (by assumption) ?_
  refine g_puti ft0 fl_X0_42 (j := 11) (by decide) ⟨rfl, rfl⟩ dX0_copyFrom_85 (by assumption) ?_
  refine t_aload0 dX0_copyFrom_88 ?_
  refine t_aload1 dX0_copyFrom_89 ?_
  refine g_geti ft0 fl_X0_45 (j := 12) (by decide) dX0_copyFrom_90 (by assumption) ?_
  refine g_puti ft0 fl_X0_45 (j := 12) (by decide) ⟨rfl, rfl⟩ dX0_copyFrom_93 (by assumption) ?_
  refine t_aload1 dX0_copyFrom_96 ?_
  refine g_getr ft0 fl_X0_53 (j := 0) (by decide) dX0_copyFrom_97 (by assumption) (by first | exact hB.2.1 | exact hC.2.1) ?_
  refine t_astore2 dX0_copyFrom_100 (by decide) okp_r ?_
  refine t_aload0 dX0_copyFrom_101 ?_
  refine g_getr ft0 fl_X0_53 (j := 0) (by decide) dX0_copyFrom_102 (by assumption) (by first | exact hB.2.1 | exact hC.2.1) ?_
  refine t_astore3 dX0_copyFrom_105 (by decide) okp_r ?_
  refine loop 5 0 _ rfl (by decide) ⟨fun j h1 h2 => ?_, fun m hm => absurd hm (Nat.not_lt_zero _), ?_, ?_⟩
  · have zb : b ≠ c := by unfold apt at hab; omega
    simp only [ui_ne zb]
    rcases (show j = 1 ∨ j = 2 ∨ j = 3 ∨ j = 4 ∨ j = 5 ∨ j = 6 ∨ j = 7 ∨ j = 8 ∨ j = 9 ∨ j = 10 ∨ j = 11 ∨ j = 12 by omega) with rfl | rfl | rfl | rfl | rfl | rfl | rfl | rfl | rfl | rfl | rfl | rfl <;> simp [ui_at]
  · refine fun m hm => ?_
    have zm : mA c m ≠ c := by unfold mA; omega
    simp only [ui_ne zm]
    exact hN m hm
  · refine fun o ho => ?_
    have zo : o ≠ c := by omega
    simp only [ui_ne zo]

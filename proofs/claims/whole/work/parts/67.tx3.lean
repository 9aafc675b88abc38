/-! TideMillsModel: what a part does, the text read and played -/
theorem rnL_hi {b : Nat → Nat} {bl hi : Nat} : ∀ n p v, v ≤ hi → (rnL b bl hi n p v).2 ≤ hi := by
  intro n
  induction n with
  | zero => intro p v h; exact h
  | succ n ih =>
    intro p v h
    rw [rnL]
    split
    · rename_i hc; exact ih _ _ hc.2.2
    · exact h
theorem rnL_p {b : Nat → Nat} {bl hi : Nat} : ∀ n p v, p ≤ (rnL b bl hi n p v).1 := by
  intro n
  induction n with
  | zero => intro p v; exact Nat.le_refl _
  | succ n ih =>
    intro p v
    rw [rnL]
    split
    · have := ih (p + 1) (10 * v + (b p - 48)); omega
    · exact Nat.le_refl _
theorem rdN_ok {b : Nat → Nat} {bl lo hi p : Nat} (h9 : 9 ≤ hi) (h : (rdN b bl lo hi p).1 = true) : lo ≤ (rdN b bl lo hi p).2.2 ∧ (rdN b bl lo hi p).2.2 ≤ hi ∧ p < (rdN b bl lo hi p).2.1 := by
  unfold rdN at h ⊢
  split at h
  · cases h
  · rename_i hc
    rw [if_neg hc]
    exact ⟨of_decide_eq_true h, rnL_hi _ _ _ (Nat.le_trans fdg_9 h9), rnL_p _ _ _⟩
theorem rdN_p {b : Nat → Nat} {bl lo hi p : Nat} : p ≤ (rdN b bl lo hi p).2.1 := by
  unfold rdN
  split
  · exact Nat.le_refl _
  · have := rnL_p (b := b) (bl := bl) (hi := hi) (bl - (p + 1)) (p + 1) (fdg b bl p)
    show p ≤ (rnL b bl hi (bl - (p + 1)) (p + 1) (fdg b bl p)).1
    omega
def PR (r : PTT) : Prop := (r.1 = 43 ∧ 1 ≤ r.2.1 ∧ r.2.1 ≤ 48) ∨ (r.1 = 103 ∧ r.2.1 < 5 ∧ (8 ≤ r.2.2.1 ∧ r.2.2.1 ≤ 60) ∧ 8 ≤ r.2.2.2 ∧ r.2.2.2 ≤ 60) ∨ (r.1 = 115 ∧ r.2.1 < 5 ∧ (1 ≤ r.2.2.1 ∧ r.2.2.1 ≤ 999) ∧ 1 ≤ r.2.2.2 ∧ r.2.2.2 ≤ 9999)
theorem rdP_ok {b : Nat → Nat} {bl p : Nat} (h : (rdP b bl p).1 = true) : p < (rdP b bl p).2.1 ∧ PR (rdP b bl p).2.2 := by
  unfold rdP at h ⊢
  by_cases h1 : p < bl ∧ (b p = 115 ∨ b p = 103 ∨ b p = 43)
  · rw [if_pos h1] at h ⊢
    by_cases h2 : b p = 43
    · rw [if_pos h2] at h ⊢
      have := rdN_ok (by decide) h
      exact ⟨by have := this.2.2; show p < (rdN b bl 1 48 (p + 1)).2.1; omega, Or.inl ⟨rfl, this.1, this.2.1⟩⟩
    · rw [if_neg h2] at h ⊢
      by_cases h3 : mlP b bl (p + 1)
      · rw [if_pos h3] at h ⊢
        by_cases h4 : p + 2 < bl ∧ b (p + 2) = 44
        · rw [if_pos h4] at h ⊢
          unfold rdQ at h ⊢
          by_cases h5 : (nm1 b bl (b p) (p + 3)).1 = true
          · rw [if_pos h5] at h ⊢
            by_cases h6 : (nm1 b bl (b p) (p + 3)).2.1 < bl ∧ b (nm1 b bl (b p) (p + 3)).2.1 = 44
            · rw [if_pos h6] at h ⊢
              dsimp only at h ⊢
              unfold nm1 at h5 h ⊢
              unfold nm2 at h ⊢
              have hml : b (p + 1) - 48 < 5 := by have := h3.2.2; omega
              by_cases h7 : b p = 115
              · rw [if_pos h7] at h5
                rw [if_pos h7, if_pos h7] at h ⊢
                have k1 := rdN_ok (by decide) h5
                have k2 := rdN_ok (by decide) h
                exact ⟨by have := k2.2.2; have := k1.2.2; omega, Or.inr (Or.inr ⟨h7, hml, ⟨k1.1, k1.2.1⟩, k2.1, k2.2.1⟩)⟩
              · rw [if_neg h7] at h5
                rw [if_neg h7, if_neg h7] at h ⊢
                have k1 := rdN_ok (by decide) h5
                have k2 := rdN_ok (by decide) h
                exact ⟨by have := k2.2.2; have := k1.2.2; omega, Or.inr (Or.inl ⟨by have := h1.2; show b p = 103; omega, hml, ⟨k1.1, k1.2.1⟩, k2.1, k2.2.1⟩)⟩
            · rw [if_neg h6] at h; cases h
          · rw [if_neg h5] at h; cases h
        · rw [if_neg h4] at h; cases h
      · rw [if_neg h3] at h; cases h
  · rw [if_neg h1] at h; cases h
def doP (S : CS) (r : PTT) : Option CS := if r.1 = 43 then some (hsS r.2.1 S) else if r.1 = 103 then some (upF (upF S r.2.1 5 (nI r.2.2.1)) r.2.1 6 (nI r.2.2.2)) else if hrP S r.2.1 then some (brS S r.2.1 (nI r.2.2.1) (nI r.2.2.2)) else none
def dsQ (i0 : TI) (S : CS) (r : PTT) (x : Int32) (im2 : TI) : Prop := (∃ S2, doP S r = some S2 ∧ x = 1 ∧ MS i0 S2 im2) ∨ (doP S r = none ∧ x = 0 ∧ MS i0 S im2)
set_option maxHeartbeats 4000000 in
set_option maxRecDepth 100000 in
theorem M_does43 {l : Launch} (hlt : l.stackTraces = false) {im : TI} {rm : TP} {lm : TL} {i0 : TI} {S : CS} {r : PTT} (hM : MM rm) (hR : MS i0 S im) (hW : WF S) (ht : tld r im) (hr : r.1 = 43) (hn : r.2.1 ≤ 48) : Con l m_X5_does 7 0 0 NN [pv (some 240)] im rm lm (QI (dsQ i0 S r) rm lm) noX := by
  have hk0 := kdM
  have hks := kds
  obtain ⟨r0, r1, r3, r5, r6, r11⟩ := id hM
  have hko := kdo
  obtain ⟨hl, h0, h12⟩ := id ht
  refine Con.ofN (k := 0) (L0 := [some (pv (some 240))]) hlt (by decide +kernel) rfl rfl (by rw [en1 pv_cat, en0]; exact Nat.le_of_ble_eq_true rfl) (by rw [en1 pv_cat, en0]; rfl) ?_
  refine t_aload0 dX5_does_0 ?_
  refine g_geti ft5 fl_X5_133 (j := 10) (by decide) dX5_does_1 (by assumption) ?_
  rw [hl, hr, show nI 43 = 43 from rfl]
  refine pw_bipush (43) dX5_does_4 (by decide) ?_
  refine pw_icmp_ne 28 dX5_does_6 (by decide) (fun h => absurd h (by decide)) (fun _ => ?_)
  refine t_aload0 dX5_does_9 ?_
  refine t_aload0 dX5_does_10 ?_
  refine g_getr ft5 fl_X5_25 (j := 11) (by decide) dX5_does_11 (by assumption) (by assumption) ?_
  refine pw_iconst (0) dX5_does_14 (by decide) ?_
  refine g_iald dX5_does_15 (by assumption) (by rw [alo]; exact vin_nI (p := 0) (n := 3) (by decide) (by decide)) ?_
  rw [show (0 : Int32).toNatClampNeg = 0 by decide, h0]
  refine g_callV1I (M_hours (l := l) hlt hM hR hW.1 (N := r.2.1) (by omega)) rfl ft5 rfl mc_X5_hours ml_X5_108 mi_X5_hours ms_X5_hours in_X5 (okc_X5_hours (by decide)) dX5_does_16 (by assumption) (cat_le (Nat.le_of_ble_eq_true rfl)) (fun zx16 zim16 zh16 => ?_)
  obtain ⟨zx, hR⟩ := zh16
  refine pw_if_lt 26 dX5_does_19 (by decide) (fun zc19 => ?_) (fun zc19 => ?_)
  · obtain ⟨g, g2, e1, e2, e3, e4⟩ := hW.ground r.2.1
    rw [zx, e1, e2, pk_sub e3] at zc19
    exact absurd zc19 (nI_pos (by omega))
  · refine pw_iconst (1) dX5_does_22 (by decide) ?_
    refine pw_goto 27 dX5_does_23 (by decide) ?_
    refine pw_zret dX5_does_27 rfl ?_ ?_
    · first | rfl | exact bI_n
    · exact ⟨rfl, rfl, rfl, _, rfl, Or.inl ⟨_, by rw [doP, if_pos hr], rfl, hR⟩⟩
theorem gear_pos {a b : Nat} (h1 : 8 ≤ a) (h2 : a ≤ 60) (h3 : 8 ≤ b) (h4 : b ≤ 60) : ¬ 100 * nI a / nI b ≤ 0 := by
  rw [show (100 : Int32) = nI 100 from rfl, pk_mul, pk_div (by omega) (by omega) (by omega)]
  have h : 0 < 100 * a / b := Nat.div_pos (by omega) (by omega)
  exact nI_nle h (Nat.lt_of_le_of_lt (Nat.div_le_self _ _) (by omega))
set_option maxHeartbeats 4000000 in
set_option maxRecDepth 100000 in
theorem M_does103 {l : Launch} (hlt : l.stackTraces = false) {im : TI} {rm : TP} {lm : TL} {i0 : TI} {S : CS} {r : PTT} (hM : MM rm) (hR : MS i0 S im) (hW : WF S) (ht : tld r im) (hr : r.1 = 103) (hm : r.2.1 < 5) (ha : 8 ≤ r.2.2.1 ∧ r.2.2.1 ≤ 60) (hb : 8 ≤ r.2.2.2 ∧ r.2.2.2 ≤ 60) : Con l m_X5_does 7 0 0 NN [pv (some 240)] im rm lm (QI (dsQ i0 S r) rm lm) noX := by
  have hk0 := kdM
  have hks := kds
  obtain ⟨r0, r1, r3, r5, r6, r11⟩ := id hM
  have hko := kdo
  obtain ⟨hl, h0, h12⟩ := id ht
  have h12 := h12.resolve_left (by omega)
  refine Con.ofN (k := 0) (L0 := [some (pv (some 240))]) hlt (by decide +kernel) rfl rfl (by rw [en1 pv_cat, en0]; exact Nat.le_of_ble_eq_true rfl) (by rw [en1 pv_cat, en0]; rfl) ?_
  refine t_aload0 dX5_does_0 ?_
  refine g_geti ft5 fl_X5_133 (j := 10) (by decide) dX5_does_1 (by assumption) ?_
  rw [hl, hr, show nI 103 = 103 from rfl]
  refine pw_bipush (43) dX5_does_4 (by decide) ?_
  refine pw_icmp_ne 28 dX5_does_6 (by decide) (fun _ => ?_) (fun h => absurd (by decide) h)
  refine t_aload0 dX5_does_28 ?_
  refine g_geti ft5 fl_X5_133 (j := 10) (by decide) dX5_does_29 (by assumption) ?_
  rw [hl, hr, show nI 103 = 103 from rfl]
  refine pw_bipush (103) dX5_does_32 (by decide) ?_
  refine pw_icmp_ne 68 dX5_does_34 (by decide) (fun h => absurd h (by decide)) (fun _ => ?_)
  refine t_aload0 dX5_does_37 ?_
  refine t_aload0 dX5_does_38 ?_
  refine g_getr ft5 fl_X5_25 (j := 11) (by decide) dX5_does_39 (by assumption) (by assumption) ?_
  refine pw_iconst (0) dX5_does_42 (by decide) ?_
  refine g_iald dX5_does_43 (by assumption) (by rw [alo]; exact vin_nI (p := 0) (n := 3) (by decide) (by decide)) ?_
  rw [show (0 : Int32).toNatClampNeg = 0 by decide, h0]
  refine t_aload0 dX5_does_44 ?_
  refine g_getr ft5 fl_X5_25 (j := 11) (by decide) dX5_does_45 (by assumption) (by assumption) ?_
  refine pw_iconst (1) dX5_does_48 (by decide) ?_
  refine g_iald dX5_does_49 (by assumption) (by rw [alo]; exact vin_nI (p := 1) (n := 3) (by decide) (by decide)) ?_
  rw [show (1 : Int32).toNatClampNeg = 1 by decide, h12.1]
  refine t_aload0 dX5_does_50 ?_
  refine g_getr ft5 fl_X5_25 (j := 11) (by decide) dX5_does_51 (by assumption) (by assumption) ?_
  refine pw_iconst (2) dX5_does_54 (by decide) ?_
  refine g_iald dX5_does_55 (by assumption) (by rw [alo]; exact vin_nI (p := 2) (n := 3) (by decide) (by decide)) ?_
  rw [show (2 : Int32).toNatClampNeg = 2 by decide, h12.2]
  refine g_callV3I (M_gears (l := l) hlt hM hR (m := r.2.1) hm (nI_ne0 (by omega) (by omega))) rfl ft5 rfl mc_X5_gears ml_X5_104 mi_X5_gears ms_X5_gears in_X5 (okc_X5_gears (by decide)) dX5_does_56 (by assumption) (cat_le (Nat.le_of_ble_eq_true rfl)) (fun zx56 zim56 zh56 => ?_)
  obtain ⟨zx, hR⟩ := zh56
  refine pw_if_le 66 dX5_does_59 (by decide) (fun zc59 => ?_) (fun zc59 => ?_)
  · exact absurd (zx ▸ zc59) (gear_pos ha.1 ha.2 hb.1 hb.2)
  · refine pw_iconst (1) dX5_does_62 (by decide) ?_
    refine pw_goto 67 dX5_does_63 (by decide) ?_
    refine pw_zret dX5_does_67 rfl ?_ ?_
    · first | rfl | exact bI_n
    · exact ⟨rfl, rfl, rfl, _, rfl, Or.inl ⟨_, by rw [doP, if_neg (by omega), if_pos hr], rfl, hR⟩⟩
set_option maxHeartbeats 4000000 in
set_option maxRecDepth 100000 in
theorem M_does115 {l : Launch} (hlt : l.stackTraces = false) {im : TI} {rm : TP} {lm : TL} {i0 : TI} {S : CS} {r : PTT} (hM : MM rm) (hR : MS i0 S im) (hW : WF S) (ht : tld r im) (hr : r.1 = 115) (hm : r.2.1 < 5) (hw : hrP S r.2.1) : Con l m_X5_does 7 0 0 NN [pv (some 240)] im rm lm (QI (dsQ i0 S r) rm lm) noX := by
  have hk0 := kdM
  have hks := kds
  obtain ⟨r0, r1, r3, r5, r6, r11⟩ := id hM
  have hko := kdo
  obtain ⟨hl, h0, h12⟩ := id ht
  have h12 := h12.resolve_left (by omega)
  refine Con.ofN (k := 0) (L0 := [some (pv (some 240))]) hlt (by decide +kernel) rfl rfl (by rw [en1 pv_cat, en0]; exact Nat.le_of_ble_eq_true rfl) (by rw [en1 pv_cat, en0]; rfl) ?_
  refine t_aload0 dX5_does_0 ?_
  refine g_geti ft5 fl_X5_133 (j := 10) (by decide) dX5_does_1 (by assumption) ?_
  rw [hl, hr, show nI 115 = 115 from rfl]
  refine pw_bipush (43) dX5_does_4 (by decide) ?_
  refine pw_icmp_ne 28 dX5_does_6 (by decide) (fun _ => ?_) (fun h => absurd (by decide) h)
  refine t_aload0 dX5_does_28 ?_
  refine g_geti ft5 fl_X5_133 (j := 10) (by decide) dX5_does_29 (by assumption) ?_
  rw [hl, hr, show nI 115 = 115 from rfl]
  refine pw_bipush (103) dX5_does_32 (by decide) ?_
  refine pw_icmp_ne 68 dX5_does_34 (by decide) (fun _ => ?_) (fun h => absurd (by decide) h)
  refine t_aload0 dX5_does_68 ?_
  refine t_aload0 dX5_does_69 ?_
  refine g_getr ft5 fl_X5_25 (j := 11) (by decide) dX5_does_70 (by assumption) (by assumption) ?_
  refine pw_iconst (0) dX5_does_73 (by decide) ?_
  refine g_iald dX5_does_74 (by assumption) (by rw [alo]; exact vin_nI (p := 0) (n := 3) (by decide) (by decide)) ?_
  rw [show (0 : Int32).toNatClampNeg = 0 by decide, h0]
  refine g_callV1P (M_hasRoom (l := l) hlt hM hR (m := r.2.1) hm) rfl ft5 rfl mc_X5_hasRoom ml_X5_115 mi_X5_hasRoom ms_X5_hasRoom in_X5 (okc_X5_hasRoom (by decide)) dX5_does_75 (by assumption) (cat_le (Nat.le_of_ble_eq_true rfl)) ?_
  rw [bI_t hw]
  refine pw_if_eq 110 dX5_does_78 (by decide) (fun h => absurd h (by decide)) (fun _ => ?_)
  refine t_aload0 dX5_does_81 ?_
  refine t_aload0 dX5_does_82 ?_
  refine g_getr ft5 fl_X5_25 (j := 11) (by decide) dX5_does_83 (by assumption) (by assumption) ?_
  refine pw_iconst (0) dX5_does_86 (by decide) ?_
  refine g_iald dX5_does_87 (by assumption) (by rw [alo]; exact vin_nI (p := 0) (n := 3) (by decide) (by decide)) ?_
  rw [show (0 : Int32).toNatClampNeg = 0 by decide, h0]
  refine t_aload0 dX5_does_88 ?_
  refine g_getr ft5 fl_X5_25 (j := 11) (by decide) dX5_does_89 (by assumption) (by assumption) ?_
  refine pw_iconst (1) dX5_does_92 (by decide) ?_
  refine g_iald dX5_does_93 (by assumption) (by rw [alo]; exact vin_nI (p := 1) (n := 3) (by decide) (by decide)) ?_
  rw [show (1 : Int32).toNatClampNeg = 1 by decide, h12.1]
  refine t_aload0 dX5_does_94 ?_
  refine g_getr ft5 fl_X5_25 (j := 11) (by decide) dX5_does_95 (by assumption) (by assumption) ?_
  refine pw_iconst (2) dX5_does_98 (by decide) ?_
  refine g_iald dX5_does_99 (by assumption) (by rw [alo]; exact vin_nI (p := 2) (n := 3) (by decide) (by decide)) ?_
  rw [show (2 : Int32).toNatClampNeg = 2 by decide, h12.2]
  refine g_callV3I (M_come (l := l) hlt hM hR hW.1.1 (m := r.2.1) hm (hr_lt hW.1.1 hm hw) (hW.bk hm)) rfl ft5 rfl mc_X5_come ml_X5_118 mi_X5_come ms_X5_come in_X5 (okc_X5_come (by decide)) dX5_does_100 (by assumption) (cat_le (Nat.le_of_ble_eq_true rfl)) (fun zx100 zim100 zh100 => ?_)
  obtain ⟨zx, hR⟩ := zh100
  refine pw_if_lt 110 dX5_does_103 (by decide) (fun zc103 => ?_) (fun zc103 => ?_)
  · obtain ⟨-, -, -, c, g, la, k1, k2, -⟩ := hW.2.1
    exact absurd (zx ▸ zc103) (by rw [k2]; exact nI_pos (by omega))
  · refine pw_iconst (1) dX5_does_106 (by decide) ?_
    refine pw_goto 111 dX5_does_107 (by decide) ?_
    refine pw_zret dX5_does_111 rfl ?_ ?_
    · first | rfl | exact bI_n
    · exact ⟨rfl, rfl, rfl, _, rfl, Or.inl ⟨_, by rw [doP, if_neg (by omega), if_neg (by omega), if_pos hw], rfl, hR⟩⟩
set_option maxHeartbeats 4000000 in
set_option maxRecDepth 100000 in
theorem M_does115N {l : Launch} (hlt : l.stackTraces = false) {im : TI} {rm : TP} {lm : TL} {i0 : TI} {S : CS} {r : PTT} (hM : MM rm) (hR : MS i0 S im) (hW : WF S) (ht : tld r im) (hr : r.1 = 115) (hm : r.2.1 < 5) (hw : ¬ hrP S r.2.1) : Con l m_X5_does 7 0 0 NN [pv (some 240)] im rm lm (QI (dsQ i0 S r) rm lm) noX := by
  have hk0 := kdM
  have hks := kds
  obtain ⟨r0, r1, r3, r5, r6, r11⟩ := id hM
  have hko := kdo
  obtain ⟨hl, h0, h12⟩ := id ht
  refine Con.ofN (k := 0) (L0 := [some (pv (some 240))]) hlt (by decide +kernel) rfl rfl (by rw [en1 pv_cat, en0]; exact Nat.le_of_ble_eq_true rfl) (by rw [en1 pv_cat, en0]; rfl) ?_
  refine t_aload0 dX5_does_0 ?_
  refine g_geti ft5 fl_X5_133 (j := 10) (by decide) dX5_does_1 (by assumption) ?_
  rw [hl, hr, show nI 115 = 115 from rfl]
  refine pw_bipush (43) dX5_does_4 (by decide) ?_
  refine pw_icmp_ne 28 dX5_does_6 (by decide) (fun _ => ?_) (fun h => absurd (by decide) h)
  refine t_aload0 dX5_does_28 ?_
  refine g_geti ft5 fl_X5_133 (j := 10) (by decide) dX5_does_29 (by assumption) ?_
  rw [hl, hr, show nI 115 = 115 from rfl]
  refine pw_bipush (103) dX5_does_32 (by decide) ?_
  refine pw_icmp_ne 68 dX5_does_34 (by decide) (fun _ => ?_) (fun h => absurd (by decide) h)
  refine t_aload0 dX5_does_68 ?_
  refine t_aload0 dX5_does_69 ?_
  refine g_getr ft5 fl_X5_25 (j := 11) (by decide) dX5_does_70 (by assumption) (by assumption) ?_
  refine pw_iconst (0) dX5_does_73 (by decide) ?_
  refine g_iald dX5_does_74 (by assumption) (by rw [alo]; exact vin_nI (p := 0) (n := 3) (by decide) (by decide)) ?_
  rw [show (0 : Int32).toNatClampNeg = 0 by decide, h0]
  refine g_callV1P (M_hasRoom (l := l) hlt hM hR (m := r.2.1) hm) rfl ft5 rfl mc_X5_hasRoom ml_X5_115 mi_X5_hasRoom ms_X5_hasRoom in_X5 (okc_X5_hasRoom (by decide)) dX5_does_75 (by assumption) (cat_le (Nat.le_of_ble_eq_true rfl)) ?_
  rw [bI_f hw]
  refine pw_if_eq 110 dX5_does_78 (by decide) (fun _ => ?_) (fun h => absurd (by decide) h)
  refine pw_iconst (0) dX5_does_110 (by decide) ?_
  refine pw_zret dX5_does_111 rfl ?_ ?_
  · first | rfl | exact bI_n
  · exact ⟨rfl, rfl, rfl, _, rfl, Or.inr ⟨by rw [doP, if_neg (by omega), if_neg (by omega), if_neg hw], rfl, hR⟩⟩
theorem M_does {l : Launch} (hlt : l.stackTraces = false) {im : TI} {rm : TP} {lm : TL} {i0 : TI} {S : CS} {r : PTT} (hM : MM rm) (hR : MS i0 S im) (hW : WF S) (ht : tld r im) (hP : PR r) : Con l m_X5_does 7 0 0 NN [pv (some 240)] im rm lm (QI (dsQ i0 S r) rm lm) noX := by
  rcases hP with ⟨h1, h2, h3⟩ | ⟨h1, h2, h3, h4⟩ | ⟨h1, h2, h3, h4⟩
  · exact M_does43 hlt hM hR hW ht h1 h3
  · exact M_does103 hlt hM hR hW ht h1 h2 h3 h4
  · by_cases hw : hrP S r.2.1
    · exact M_does115 hlt hM hR hW ht h1 h2 hw
    · exact M_does115N hlt hM hR hW ht h1 h2 hw
theorem WF.do {S S2 : CS} {r : PTT} (h : WF S) (hP : PR r) (e : doP S r = some S2) : WF S2 := by
  unfold doP at e
  rcases hP with ⟨h1, h2, h3⟩ | ⟨h1, h2, h3, h4⟩ | ⟨h1, h2, h3, h4⟩
  · rw [if_pos h1] at e; cases e; exact h.hours _
  · rw [if_neg (by omega), if_pos h1] at e; cases e
    exact h.gear ⟨(nI_leI (a := 8) (by decide) (by omega)).mpr h3.1, (nI_leI (b := 60) (by omega) (by decide)).mpr h3.2⟩ ⟨(nI_leI (a := 8) (by decide) (by omega)).mpr h4.1, (nI_leI (b := 60) (by omega) (by decide)).mpr h4.2⟩
  · rw [if_neg (by omega), if_neg (by omega)] at e
    split at e
    · rename_i hw; cases e; exact h.br h2 hw ⟨(nI_leI (a := 1) (by decide) (by omega)).mpr h3.1, (nI_leI (b := 999) (by omega) (by decide)).mpr h3.2⟩
    · cases e
/-- the whole text: whether it is one, where it ends or errs -/
def vt (b : Nat → Nat) (bl : Nat) : Nat → Nat → Bool × Nat
  | 0, p => (false, p)
  | n + 1, p => if (rdP b bl p).1 = true then (if (rdP b bl p).2.1 = bl then (true, bl) else if b (rdP b bl p).2.1 = 59 then vt b bl n ((rdP b bl p).2.1 + 1) else (false, (rdP b bl p).2.1)) else (false, (rdP b bl p).2.1)
/-- the parts done from a place on -/
def py (b : Nat → Nat) (bl : Nat) : Nat → Nat → Nat → CS → Nat × CS
  | 0, _, k, S => (k, S)
  | n + 1, p, k, S => match doP S (rdP b bl p).2.2 with
    | none => (k, S)
    | some S2 => if (rdP b bl p).2.1 = bl then (k + 1, S2) else py b bl n ((rdP b bl p).2.1 + 1) (k + 1) S2
def fQ (im im2 : TI) : Prop := (∀ o, o ≠ 240 → o ≠ 246 → im2 o = im o) ∧ ∀ j, j ≠ 9 → j ≠ 10 → j ≠ 12 → im2 240 j = im 240 j
theorem fQ.r {a b c : TI} (h : fQ a b) (g : fR b c) : fQ a c := ⟨fun o h1 h2 => (g.1 o h1 h2).trans (h.1 o h1 h2), fun j h1 h2 h3 => (g.2 j h1 h2).trans (h.2 j h1 h2 h3)⟩
theorem fP.r {a b : TI} (h : fP a b) : fR a b := ⟨fun o h1 _ => h.1 o h1, fun j h1 _ => h.2 j h1⟩
theorem fQ.u {a b : TI} {x : Int32} (h : fQ a b) : fQ a (ui b 240 12 x) := ⟨fun o h1 h2 => by rw [ui_ne h1]; exact h.1 o h1 h2, fun j h1 h2 h3 => by rw [ui_at, if_neg h3]; exact h.2 j h1 h2 h3⟩
theorem TT.pt {b : Nat → Nat} {bl p : Nat} {im : TI} {x : Int32} (h : TT b bl p im) : TT b bl p (ui im 240 12 x) :=
  ⟨⟨by rw [ui_at, if_neg (by decide)]; exact h.1.1, h.1.2⟩, fun j hj => by rw [ui_ne (by decide)]; exact h.2.1 j hj, by rw [ui_at, if_neg (by decide)]; exact h.2.2.1, h.2.2.2⟩
set_option maxHeartbeats 4000000 in
set_option maxRecDepth 100000 in
theorem M_readText0 {l : Launch} (hlt : l.stackTraces = false) {im : TI} {rm : TP} {lm : TL} {b : Nat → Nat} {bl : Nat} (hM : MM rm) (hT : TT b bl 0 (ui im 240 9 0)) : Con l m_X5_readText 4 0 0 NN [pv (some 240), .int (0)] im rm lm (QI (fun x im2 => x = (if (vt b bl (bl + 1) 0).1 then 1 else 0) ∧ TT b bl (vt b bl (bl + 1) 0).2 im2 ∧ fQ im im2) rm lm) noX := by
  have hk0 := kdM
  have hks := kds
  obtain ⟨r0, r1, r3, r5, r6, r11⟩ := id hM
  refine Con.ofN (k := 1) (L0 := [some (pv (some 240)), some (.int (0)), none]) hlt (by decide +kernel) rfl rfl (by rw [en1 pv_cat, en1 rfl, en0]; exact Nat.le_of_ble_eq_true rfl) (by rw [en1 pv_cat, en1 rfl, en0]; rfl) ?_
  have out0 : ∀ (q : Nat) (imk : TI), TT b bl q imk → fQ im imk → vt b bl (bl + 1) 0 = (false, q) → PW l m_X5_readText 4 0 0 NN 15 [some (pv (some 240)), some (.int 0), some (.int 0)] [] imk rm lm (QI (fun x im2 => x = (if (vt b bl (bl + 1) 0).1 then 1 else 0) ∧ TT b bl (vt b bl (bl + 1) 0).2 im2 ∧ fQ im im2) rm lm) noX := by
    intro q imk hT hq hf
    refine t_iload2 dX5_readText_15 ?_
    refine pw_if_eq 80 dX5_readText_16 (by decide) (fun _ => ?_) (fun h => absurd (by decide) h)
    refine pw_iconst (0) dX5_readText_80 (by decide) ?_
    refine pw_zret dX5_readText_81 rfl ?_ ?_
    · first | rfl | exact bI_n
    · exact ⟨rfl, rfl, rfl, _, rfl, by rw [hf]; rfl, by rw [hf]; exact hT, hq⟩
  have loop : ∀ (n p : Nat) (imk : TI), p ≤ bl → bl + 1 ≤ n + p → TT b bl (rdP b bl p).2.1 imk → fQ im imk → vt b bl (bl + 1) 0 = vt b bl n p → PW l m_X5_readText 4 0 0 NN 15 [some (pv (some 240)), some (.int 0), some (.int (if (rdP b bl p).1 then 1 else 0))] [] imk rm lm (QI (fun x im2 => x = (if (vt b bl (bl + 1) 0).1 then 1 else 0) ∧ TT b bl (vt b bl (bl + 1) 0).2 im2 ∧ fQ im im2) rm lm) noX := by
    intro n
    induction n using Nat.strongRecOn with
    | _ n ih =>
      intro p imk hpb hnb hT hq hf
      refine t_iload2 dX5_readText_15 ?_
      refine pw_if_eq 80 dX5_readText_16 (by decide) (fun zc16 => ?_) (fun zc16 => ?_)
      · refine pw_iconst (0) dX5_readText_80 (by decide) ?_
        refine pw_zret dX5_readText_81 rfl ?_ ?_
        · first | rfl | exact bI_n
        · have hno := if0 zc16
          obtain ⟨n', rfl⟩ : ∃ n', n = n' + 1 := ⟨n - 1, by omega⟩
          have e : vt b bl (bl + 1) 0 = (false, (rdP b bl p).2.1) := by rw [hf, vt, if_neg (by rw [hno]; decide)]
          exact ⟨rfl, rfl, rfl, _, rfl, by rw [e]; rfl, by rw [e]; exact hT, hq⟩
      · have hok := if1 zc16
        obtain ⟨n', rfl⟩ : ∃ n', n = n' + 1 := ⟨n - 1, by omega⟩
        have hlt2 := (rdP_ok hok).1
        refine t_iload1 dX5_readText_19 ?_
        refine pw_if_eq 32 dX5_readText_20 (by decide) (fun _ => ?_) (fun h => absurd (by decide) h)
        refine t_aload0 dX5_readText_32 ?_
        refine pw_dup dX5_readText_33 pv_cat ?_
        refine g_geti ft5 fl_X5_146 (j := 12) (by decide) dX5_readText_34 (by assumption) ?_
        refine pw_iconst (1) dX5_readText_37 (by decide) ?_
        refine pw_iadd dX5_readText_38 ?_
        refine g_puti ft5 fl_X5_146 (j := 12) (by decide) ⟨rfl, rfl⟩ dX5_readText_39 (by assumption) ?_
        have hT := hT.pt (x := imk 240 12 + 1)
        have hq := hq.u (x := imk 240 12 + 1)
        obtain ⟨⟨hl, hl6⟩, hx, hp, hpl⟩ := id hT
        refine t_aload0 dX5_readText_42 ?_
        refine g_geti ft5 fl_X5_127 (j := 9) (by decide) dX5_readText_43 (by assumption) ?_
        rw [hp]
        refine t_aload0 dX5_readText_46 ?_
        refine g_geti ft5 fl_X5_124 (j := 7) (by decide) dX5_readText_47 (by assumption) ?_
        rw [hl]
        refine pw_icmp_ne 55 dX5_readText_50 (by decide) (fun zc50 => ?_) (fun zc50 => ?_)
        · have hne : ¬ (rdP b bl p).2.1 = bl := fun z => zc50 (by rw [z])
          refine t_aload0 dX5_readText_55 ?_
          refine pw_bipush (59) dX5_readText_56 (by decide) ?_
          refine g_callV1I (M_takes (l := l) hlt hM hT (c := 59) (by decide)) rfl ft5 rfl mc_X5_takes ml_X5_143 mi_X5_takes ms_X5_takes in_X5 (okc_X5_takes (by decide)) dX5_readText_58 (by assumption) (cat_le (Nat.le_of_ble_eq_true rfl)) (fun zx58 zim58 zh58 => ?_)
          refine pw_if_eq 75 dX5_readText_61 (by decide) (fun zc61 => ?_) (fun zc61 => ?_)
          · refine pw_iconst (0) dX5_readText_75 (by decide) ?_
            refine t_istore2 dX5_readText_76 (by decide) okp_i ?_
            refine pw_goto 15 dX5_readText_77 (by decide) ?_
            obtain ⟨e2, hco, hT⟩ := zh58.1.resolve_left (fun z => by rw [z.1] at zc61; exact absurd zc61 (by decide))
            exact out0 _ _ hT (hq.r zh58.2.r) (by rw [hf, vt, if_pos hok, if_neg hne, if_neg (fun z => hco ⟨by omega, z⟩)])
          · obtain ⟨e2, hco, hT⟩ := zh58.1.resolve_right (fun z => zc61 z.1)
            have hq := hq.r zh58.2.r
            refine t_aload0 dX5_readText_64 ?_
            refine g_callV0I (M_readPart (l := l) hlt hM hT) rfl ft5 rfl mc_X5_readPart ml_X5_149 mi_X5_readPart ms_X5_readPart in_X5 (okc_X5_readPart (by decide)) dX5_readText_65 (by assumption) (cat_le (Nat.le_of_ble_eq_true rfl)) (fun zx65 zim65 zh65 => ?_)
            obtain ⟨zx65b, hT, hfr65, hld⟩ := zh65
            refine pw_if_eq 75 dX5_readText_68 (by decide) (fun zc68 => ?_) (fun zc68 => ?_)
            · refine pw_iconst (0) dX5_readText_75 (by decide) ?_
              refine t_istore2 dX5_readText_76 (by decide) okp_i ?_
              refine pw_goto 15 dX5_readText_77 (by decide) ?_
              have hf2 := if0 (zx65b ▸ zc68)
              exact out0 _ _ hT (hq.r hfr65) (by rw [hf, vt, if_pos hok, if_neg hne, if_pos hco.2, show n' = (n' - 1) + 1 by omega, vt, if_neg (by rw [hf2]; decide)])
            · refine pw_iconst (1) dX5_readText_71 (by decide) ?_
              refine pw_goto 76 dX5_readText_72 (by decide) ?_
              refine t_istore2 dX5_readText_76 (by decide) okp_i ?_
              refine pw_goto 15 dX5_readText_77 (by decide) ?_
              have hf2 := if1 (zx65b ▸ zc68)
              have hih := ih n' (by omega) ((rdP b bl p).2.1 + 1) _ (by omega) (by omega) hT (hq.r hfr65) (by rw [hf, vt, if_pos hok, if_neg hne, if_pos hco.2])
              rw [hf2] at hih
              exact hih
        · refine pw_iconst (1) dX5_readText_53 (by decide) ?_
          refine pw_zret dX5_readText_54 rfl ?_ ?_
          · first | rfl | exact bI_n
          · have ee := (nI_eq (by omega) (by omega)).mp (Classical.not_not.mp zc50)
            have e : vt b bl (bl + 1) 0 = (true, bl) := by rw [hf, vt, if_pos hok, if_pos ee]
            exact ⟨rfl, rfl, rfl, _, rfl, by rw [e]; rfl, by rw [e]; have h2 := hT; rw [ee] at h2; exact h2, hq⟩
  refine t_aload0 dX5_readText_0 ?_
  refine pw_iconst (0) dX5_readText_1 (by decide) ?_
  refine g_puti ft5 fl_X5_127 (j := 9) (by decide) ⟨rfl, rfl⟩ dX5_readText_2 (by assumption) ?_
  refine t_aload0 dX5_readText_5 ?_
  refine pw_iconst (0) dX5_readText_6 (by decide) ?_
  refine g_puti ft5 fl_X5_146 (j := 12) (by decide) ⟨rfl, rfl⟩ dX5_readText_7 (by assumption) ?_
  have hT := hT.pt (x := 0)
  refine t_aload0 dX5_readText_10 ?_
  refine g_callV0I (M_readPart (l := l) hlt hM hT) rfl ft5 rfl mc_X5_readPart ml_X5_149 mi_X5_readPart ms_X5_readPart in_X5 (okc_X5_readPart (by decide)) dX5_readText_11 (by assumption) (cat_le (Nat.le_of_ble_eq_true rfl)) (fun zx11 zim11 zh11 => ?_)
  obtain ⟨zx11b, hT, hfr11, hld⟩ := zh11
  refine t_istore2 dX5_readText_14 (by decide) okp_i ?_
  rw [zx11b]
  exact loop (bl + 1) 0 _ (Nat.zero_le _) (by omega) hT ((fQ.u ⟨fun o h1 h2 => ui_ne h1, fun j h1 _ _ => by rw [ui_at, if_neg h1]⟩).r hfr11) rfl
def fS (im im2 : TI) : Prop := (∀ o, o ≠ 240 → o ≠ 241 → o ≠ 246 → im2 o = im o) ∧ ∀ j, j ≠ 9 → j ≠ 10 → j ≠ 12 → im2 240 j = im 240 j
theorem fS.q {a b c : TI} (h : fS a b) (g : fQ b c) : fS a c := ⟨fun o h1 h2 h3 => (g.1 o h1 h3).trans (h.1 o h1 h2 h3), fun j h1 h2 h3 => (g.2 j h1 h2 h3).trans (h.2 j h1 h2 h3)⟩
theorem fR.q {a b : TI} (h : fR a b) : fQ a b := ⟨h.1, fun j h1 h2 _ => h.2 j h1 h2⟩
theorem fS.m {a b c : TI} {S : CS} (h : fS a b) (g : MS b S c) : fS a c := ⟨fun o h1 h2 h3 => (g.2 o h2).trans (h.1 o h1 h2 h3), fun j h1 h2 h3 => by rw [g.2 240 (by decide)]; exact h.2 j h1 h2 h3⟩
theorem TT.m {b : Nat → Nat} {bl p : Nat} {im im2 : TI} {S : CS} (h : TT b bl p im) (g : MS im S im2) : TT b bl p im2 :=
  ⟨⟨by rw [g.2 240 (by decide)]; exact h.1.1, h.1.2⟩, fun j hj => by rw [g.2 245 (by decide)]; exact h.2.1 j hj, by rw [g.2 240 (by decide)]; exact h.2.2.1, h.2.2.2⟩
theorem vt_step {b : Nat → Nat} {bl n p : Nat} (h : (vt b bl (n + 1) p).1 = true) : (rdP b bl p).1 = true ∧ ((rdP b bl p).2.1 = bl ∨ (¬ (rdP b bl p).2.1 = bl ∧ b (rdP b bl p).2.1 = 59 ∧ (vt b bl n ((rdP b bl p).2.1 + 1)).1 = true)) := by
  rw [vt] at h
  by_cases h1 : (rdP b bl p).1 = true
  · rw [if_pos h1] at h
    refine ⟨h1, ?_⟩
    by_cases h2 : (rdP b bl p).2.1 = bl
    · exact Or.inl h2
    · rw [if_neg h2] at h
      by_cases h3 : b (rdP b bl p).2.1 = 59
      · rw [if_pos h3] at h
        exact Or.inr ⟨h2, h3, h⟩
      · rw [if_neg h3] at h; cases h
  · rw [if_neg h1] at h; cases h
set_option maxHeartbeats 4000000 in
set_option maxRecDepth 100000 in
theorem M_readText1 {l : Launch} (hlt : l.stackTraces = false) {im : TI} {rm : TP} {lm : TL} {b : Nat → Nat} {bl : Nat} (hM : MM rm) (hT : TT b bl 0 (ui im 240 9 0)) {S : CS} (hRW : RW (im 241) S) (hW : WF S) (hv : (vt b bl (bl + 1) 0).1 = true) : Con l m_X5_readText 8 0 0 NN [pv (some 240), .int (1)] im rm lm (QI (fun x im2 => x = 1 ∧ im2 240 12 = nI (py b bl (bl + 1) 0 0 S).1 ∧ RW (im2 241) (py b bl (bl + 1) 0 0 S).2 ∧ fS im im2) rm lm) noX := by
  have hk0 := kdM
  have hks := kds
  obtain ⟨r0, r1, r3, r5, r6, r11⟩ := id hM
  refine Con.ofN (k := 1) (L0 := [some (pv (some 240)), some (.int (1)), none]) hlt (by decide +kernel) rfl rfl (by rw [en1 pv_cat, en1 rfl, en0]; exact Nat.le_of_ble_eq_true rfl) (by rw [en1 pv_cat, en1 rfl, en0]; rfl) ?_
  have loop : ∀ (n p k : Nat) (Sk : CS) (imk : TI), p ≤ bl → bl + 1 ≤ n + p → (vt b bl n p).1 = true → TT b bl (rdP b bl p).2.1 imk → tld (rdP b bl p).2.2 imk → imk 240 12 = nI k → RW (imk 241) Sk → WF Sk → fS im imk → py b bl (bl + 1) 0 0 S = py b bl n p k Sk → PW l m_X5_readText 8 0 0 NN 15 [some (pv (some 240)), some (.int 1), some (.int 1)] [] imk rm lm (QI (fun x im2 => x = 1 ∧ im2 240 12 = nI (py b bl (bl + 1) 0 0 S).1 ∧ RW (im2 241) (py b bl (bl + 1) 0 0 S).2 ∧ fS im im2) rm lm) noX := by
    intro n
    induction n using Nat.strongRecOn with
    | _ n ih =>
      intro p k Sk imk hpb hnb hv0 hT hld hk hRk hWk hq hf
      obtain ⟨n', rfl⟩ : ∃ n', n = n' + 1 := ⟨n - 1, by omega⟩
      have hv1 := hv0
      have hok := (vt_step hv1).1
      have hlt2 := (rdP_ok hok).1
      refine t_iload2 dX5_readText_15 ?_
      refine pw_if_eq 80 dX5_readText_16 (by decide) (fun h => absurd h (by decide)) (fun _ => ?_)
      refine t_iload1 dX5_readText_19 ?_
      refine pw_if_eq 32 dX5_readText_20 (by decide) (fun h => absurd h (by decide)) (fun _ => ?_)
      refine t_aload0 dX5_readText_23 ?_
      refine g_callV0I (M_does (l := l) hlt hM (i0 := imk) (S := Sk) (r := (rdP b bl p).2.2) ⟨hRk, fun _ _ => rfl⟩ hWk hld (rdP_ok hok).2) rfl ft5 rfl mc_X5_does ml_X5_152 mi_X5_does ms_X5_does in_X5 (okc_X5_does (by decide)) dX5_readText_24 (by assumption) (cat_le (Nat.le_of_ble_eq_true rfl)) (fun zx24 zim24 zh24 => ?_)
      refine pw_if_ne 32 dX5_readText_27 (by decide) (fun zc27 => ?_) (fun zc27 => ?_)
      · obtain ⟨S2, hdo, zx1, hRd⟩ := zh24.resolve_right (fun z => by rw [z.2.1] at zc27; exact zc27 rfl)
        have hW2 := hWk.do (rdP_ok hok).2 hdo
        have hT := hT.m hRd
        have hq := hq.m hRd
        have hkd : zim24 240 12 = nI k := by rw [hRd.2 240 (by decide)]; exact hk
        refine t_aload0 dX5_readText_32 ?_
        refine pw_dup dX5_readText_33 pv_cat ?_
        refine g_geti ft5 fl_X5_146 (j := 12) (by decide) dX5_readText_34 (by assumption) ?_
        refine pw_iconst (1) dX5_readText_37 (by decide) ?_
        refine pw_iadd dX5_readText_38 ?_
        refine g_puti ft5 fl_X5_146 (j := 12) (by decide) ⟨rfl, rfl⟩ dX5_readText_39 (by assumption) ?_
        have hT := hT.pt (x := zim24 240 12 + 1)
        have hq : fS im (ui zim24 240 12 (zim24 240 12 + 1)) := hq.q ((fQ.u ⟨fun _ _ _ => rfl, fun _ _ _ _ => rfl⟩))
        have hk2 : (ui zim24 240 12 (zim24 240 12 + 1)) 240 12 = nI (k + 1) := by rw [ui_at, if_pos rfl, hkd, nI_1]
        have hR2 : RW ((ui zim24 240 12 (zim24 240 12 + 1)) 241) S2 := by rw [ui_ne (by decide)]; exact hRd.1
        obtain ⟨⟨hl, hl6⟩, hx, hp, hpl⟩ := id hT
        refine t_aload0 dX5_readText_42 ?_
        refine g_geti ft5 fl_X5_127 (j := 9) (by decide) dX5_readText_43 (by assumption) ?_
        rw [hp]
        refine t_aload0 dX5_readText_46 ?_
        refine g_geti ft5 fl_X5_124 (j := 7) (by decide) dX5_readText_47 (by assumption) ?_
        rw [hl]
        refine pw_icmp_ne 55 dX5_readText_50 (by decide) (fun zc50 => ?_) (fun zc50 => ?_)
        · have hne : ¬ (rdP b bl p).2.1 = bl := fun z => zc50 (by rw [z])
          obtain ⟨_, hco, hvn⟩ := (vt_step hv1).2.resolve_left hne
          refine t_aload0 dX5_readText_55 ?_
          refine pw_bipush (59) dX5_readText_56 (by decide) ?_
          refine g_callV1I (M_takes (l := l) hlt hM hT (c := 59) (by decide)) rfl ft5 rfl mc_X5_takes ml_X5_143 mi_X5_takes ms_X5_takes in_X5 (okc_X5_takes (by decide)) dX5_readText_58 (by assumption) (cat_le (Nat.le_of_ble_eq_true rfl)) (fun zx58 zim58 zh58 => ?_)
          refine pw_if_eq 75 dX5_readText_61 (by decide) (fun zc61 => ?_) (fun zc61 => ?_)
          · refine pw_iconst (0) dX5_readText_75 (by decide) ?_
            refine t_istore2 dX5_readText_76 (by decide) okp_i ?_
            refine pw_goto 15 dX5_readText_77 (by decide) ?_
            exact absurd (zh58.1.elim (fun z => z.1) (fun z => absurd ⟨by omega, hco⟩ z.2.1)) (by rw [zc61]; decide)
          · have hT := (zh58.1.resolve_right (fun z => zc61 z.1)).2.2
            have hq := hq.q zh58.2.r.q
            have hk2 := (zh58.2.2 12 (by decide)).trans hk2
            have hR2 : RW (zim58 241) S2 := by rw [zh58.2.1 241 (by decide)]; exact hR2
            refine t_aload0 dX5_readText_64 ?_
            refine g_callV0I (M_readPart (l := l) hlt hM hT) rfl ft5 rfl mc_X5_readPart ml_X5_149 mi_X5_readPart ms_X5_readPart in_X5 (okc_X5_readPart (by decide)) dX5_readText_65 (by assumption) (cat_le (Nat.le_of_ble_eq_true rfl)) (fun zx65 zim65 zh65 => ?_)
            obtain ⟨zx65b, hT, hfr65, hld0⟩ := zh65
            refine pw_if_eq 75 dX5_readText_68 (by decide) (fun zc68 => ?_) (fun zc68 => ?_)
            · refine pw_iconst (0) dX5_readText_75 (by decide) ?_
              refine t_istore2 dX5_readText_76 (by decide) okp_i ?_
              refine pw_goto 15 dX5_readText_77 (by decide) ?_
              rw [if_pos (by have := vt_step (n := n' - 1) (by rw [show n' - 1 + 1 = n' by omega]; exact hvn); exact this.1)] at zx65b
              exact absurd (zx65b ▸ zc68) (by decide)
            · have hld := hld0 (if1 (zx65b ▸ zc68))
              refine pw_iconst (1) dX5_readText_71 (by decide) ?_
              refine pw_goto 76 dX5_readText_72 (by decide) ?_
              refine t_istore2 dX5_readText_76 (by decide) okp_i ?_
              refine pw_goto 15 dX5_readText_77 (by decide) ?_
              exact ih n' (by omega) ((rdP b bl p).2.1 + 1) (k + 1) S2 _ (by omega) (by omega) hvn hT hld (by rw [hfr65.2 12 (by decide) (by decide)]; exact hk2) (by rw [hfr65.1 241 (by decide) (by decide)]; exact hR2) (hW2) (hq.q hfr65.q) (by rw [hf, py, hdo]; dsimp only; rw [if_neg hne])
        · refine pw_iconst (1) dX5_readText_53 (by decide) ?_
          refine pw_zret dX5_readText_54 rfl ?_ ?_
          · first | rfl | exact bI_n
          · have ee := (nI_eq (by omega) (by omega)).mp (Classical.not_not.mp zc50)
            exact ⟨rfl, rfl, rfl, _, rfl, rfl, by rw [hf, py, hdo]; dsimp only; rw [if_pos ee]; exact hk2, by rw [hf, py, hdo]; dsimp only; rw [if_pos ee]; exact hR2, hq⟩
      · refine pw_iconst (1) dX5_readText_30 (by decide) ?_
        refine pw_zret dX5_readText_31 rfl ?_ ?_
        · first | rfl | exact bI_n
        · obtain ⟨hdo, hx0, hRd⟩ := zh24.resolve_left (fun z => by obtain ⟨_, _, z2, _⟩ := z; rw [z2] at zc27; exact absurd (Classical.not_not.mp zc27) (by decide))
          exact ⟨rfl, rfl, rfl, _, rfl, rfl, by rw [hf, py, hdo, hRd.2 240 (by decide)]; exact hk, by rw [hf, py, hdo]; exact hRd.1, hq.m hRd⟩
  refine t_aload0 dX5_readText_0 ?_
  refine pw_iconst (0) dX5_readText_1 (by decide) ?_
  refine g_puti ft5 fl_X5_127 (j := 9) (by decide) ⟨rfl, rfl⟩ dX5_readText_2 (by assumption) ?_
  refine t_aload0 dX5_readText_5 ?_
  refine pw_iconst (0) dX5_readText_6 (by decide) ?_
  refine g_puti ft5 fl_X5_146 (j := 12) (by decide) ⟨rfl, rfl⟩ dX5_readText_7 (by assumption) ?_
  have hT := hT.pt (x := 0)
  refine t_aload0 dX5_readText_10 ?_
  refine g_callV0I (M_readPart (l := l) hlt hM hT) rfl ft5 rfl mc_X5_readPart ml_X5_149 mi_X5_readPart ms_X5_readPart in_X5 (okc_X5_readPart (by decide)) dX5_readText_11 (by assumption) (cat_le (Nat.le_of_ble_eq_true rfl)) (fun zx11 zim11 zh11 => ?_)
  obtain ⟨zx11b, hT, hfr11, hld0⟩ := zh11
  refine t_istore2 dX5_readText_14 (by decide) okp_i ?_
  have hok := (vt_step hv).1
  rw [if_pos hok] at zx11b
  rw [zx11b]
  have hq0 : fQ im (ui (ui im 240 9 0) 240 12 0) := fQ.u ⟨fun o h1 h2 => ui_ne h1, fun j h1 _ _ => by rw [ui_at, if_neg h1]⟩
  exact loop (bl + 1) 0 0 S _ (Nat.zero_le _) (by omega) hv hT (hld0 hok) (by rw [hfr11.2 12 (by decide) (by decide), ui_at, if_pos rfl]; rfl) (by rw [hfr11.1 241 (by decide) (by decide), ui_ne (by decide), ui_ne (by decide)]; exact hRW) hW ((fS.q ⟨fun _ _ _ _ => rfl, fun _ _ _ _ => rfl⟩ hq0).q hfr11.q) rfl

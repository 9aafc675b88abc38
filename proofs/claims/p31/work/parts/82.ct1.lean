/-! Constructors: a mill, a creek -/
theorem n_null {l : Launch} {mt : MT} {d mc ms N pc : Nat} {L : List (Option Value)} {st : List Value} {im : TI} {rm : TP} {lm : TL} {Q : TQ} {X : TX} (hd : decode mt.2.1 pc = .ok (.aconst_null, 1)) (k : PW l mt d mc ms N (pc + 1) L (pv none :: st) im rm lm Q X) : PW l mt d mc ms N pc L st im rm lm Q X := pw_null hd k
theorem df0 : ∀ j, j < 13 → defaultValue (tyX0 j) = (if sty 0 j = 0 then .int 0 else if sty 0 j = 1 then .null else .long 0) := by decide +kernel
theorem df1 : ∀ j, j < 2 → defaultValue (tyX1 j) = (if sty 1 j = 0 then .int 0 else if sty 1 j = 1 then .null else .long 0) := by decide +kernel
theorem df2 : ∀ j, j < 16 → defaultValue (tyX2 j) = (if sty 2 j = 0 then .int 0 else if sty 2 j = 1 then .null else .long 0) := by decide +kernel
theorem df3 : ∀ j, j < 4 → defaultValue (tyX3 j) = (if sty 3 j = 0 then .int 0 else if sty 3 j = 1 then .null else .long 0) := by decide +kernel
theorem df4 : ∀ j, j < 8 → defaultValue (tyX4 j) = (if sty 4 j = 0 then .int 0 else if sty 4 j = 1 then .null else .long 0) := by decide +kernel
def f0 (w : Nat) : Int32 := if w = 0 then 200 else if w = 2 then 20 else if w = 4 then 11 else if w = 5 then 40 else if w = 6 then 10 else 0
def S0 : CS := (fun j => if j = 9 then 10 else if j = 10 then 20 else if j = 11 then 20 else 0, fun _ => f0, fun _ _ _ => 0)
/-- what the ids of a mill are -/
def mkD (a : Nat) : Prop := kd a = 2 ∧ (kd (a + 1) = 6 ∧ kd (a + 2) = 6 ∧ kd (a + 3) = 6 ∧ kd (a + 4) = 6) ∧ (al (a + 1) = 6 ∧ al (a + 2) = 6 ∧ al (a + 3) = 6 ∧ al (a + 4) = 6)
def keepB (c : Nat) (im i : TI) (rm r : TP) : Prop := ∀ k, k < c → i k = im k ∧ r k = rm k
def nwM (a m : Nat) (o : Option Nat) (im i : TI) (rm r : TP) : Prop := MA a m f0 (fun _ _ => 0) i ∧ isM r a ∧ r a 1 = o ∧ keepB a im i rm r
set_option maxHeartbeats 4000000 in
set_option maxRecDepth 100000 in
theorem K_Mill {l : Launch} (hlt : l.stackTraces = false) {im : TI} {rm : TP} {lm : TL} {a m : Nat} {o : Option Nat} (hD : mkD a) (ha : a < 240) (hF : FS (a + 1) im rm lm) (ho : ∀ k, o = some k → k < a + 1) : Con l m_X2_init 1 4 24 (a + 1) [pv (some a), .int (nI m), pv o] im rm lm (fun N' v i r q => N' = a + 5 ∧ v = none ∧ nwM a m o im i rm r ∧ q = lm ∧ FS (a + 5) i r q) noX := by
  obtain ⟨hka, ⟨h61, h62, h63, h64⟩, ⟨hl1, hl2, hl3, hl4⟩⟩ := hD
  have ho0 := ho
  have z1 := (hF.1 (a + 1) (Nat.le_refl _)).1
  have z2 := (hF.1 (a + 2) (by omega)).1
  have z3 := (hF.1 (a + 3) (by omega)).1
  have z4 := (hF.1 (a + 4) (by omega)).1
  refine Con.ofN (k := 0) (L0 := [some (pv (some a)), some (.int (nI m)), some (pv o)]) hlt (by decide +kernel) rfl rfl (by rw [en1 pv_cat, en1 rfl, en1 pv_cat, en0]; exact Nat.le_of_ble_eq_true rfl) (by rw [en1 pv_cat, en1 rfl, en1 pv_cat, en0]; rfl) ?_
  refine t_aload0 dX2_init_0 ?_
  refine pw_objInit oi_X2 (by omega) dX2_init_1 (Nat.zero_le _) ?_
  refine t_aload0 dX2_init_4 ?_
  refine pw_sipush (200) dX2_init_5 (by decide) ?_
  refine pw_puti ft2 fl_X2_9 (j := 2) (by decide) (by decide) (Or.inl rfl) ⟨rfl, rfl⟩ dX2_init_8 hka (by omega) ?_
  have hF := hF.ui (o := a) (k := 2) (v := (200)) (by omega)
  refine t_aload0 dX2_init_11 ?_
  refine pw_iconst (0) dX2_init_12 (by decide) ?_
  refine pw_puti ft2 fl_X2_15 (j := 3) (by decide) (by decide) (Or.inl rfl) ⟨rfl, rfl⟩ dX2_init_13 hka (by omega) ?_
  have hF := hF.ui (o := a) (k := 3) (v := (0)) (by omega)
  refine t_aload0 dX2_init_16 ?_
  refine pw_bipush (20) dX2_init_17 (by decide) ?_
  refine pw_puti ft2 fl_X2_18 (j := 4) (by decide) (by decide) (Or.inl rfl) ⟨rfl, rfl⟩ dX2_init_19 hka (by omega) ?_
  have hF := hF.ui (o := a) (k := 4) (v := (20)) (by omega)
  refine t_aload0 dX2_init_22 ?_
  refine pw_iconst (0) dX2_init_23 (by decide) ?_
  refine pw_puti ft2 fl_X2_21 (j := 5) (by decide) (by decide) (Or.inl rfl) ⟨rfl, rfl⟩ dX2_init_24 hka (by omega) ?_
  have hF := hF.ui (o := a) (k := 5) (v := (0)) (by omega)
  refine t_aload0 dX2_init_27 ?_
  refine pw_bipush (11) dX2_init_28 (by decide) ?_
  refine pw_puti ft2 fl_X2_24 (j := 6) (by decide) (by decide) (Or.inl rfl) ⟨rfl, rfl⟩ dX2_init_30 hka (by omega) ?_
  have hF := hF.ui (o := a) (k := 6) (v := (11)) (by omega)
  refine t_aload0 dX2_init_33 ?_
  refine pw_bipush (40) dX2_init_34 (by decide) ?_
  refine pw_puti ft2 fl_X2_27 (j := 7) (by decide) (by decide) (Or.inl rfl) ⟨rfl, rfl⟩ dX2_init_36 hka (by omega) ?_
  have hF := hF.ui (o := a) (k := 7) (v := (40)) (by omega)
  refine t_aload0 dX2_init_39 ?_
  refine pw_bipush (10) dX2_init_40 (by decide) ?_
  refine pw_puti ft2 fl_X2_30 (j := 8) (by decide) (by decide) (Or.inl rfl) ⟨rfl, rfl⟩ dX2_init_42 hka (by omega) ?_
  have hF := hF.ui (o := a) (k := 8) (v := (10)) (by omega)
  refine t_aload0 dX2_init_45 ?_
  refine pw_iconst (0) dX2_init_46 (by decide) ?_
  refine pw_puti ft2 fl_X2_33 (j := 9) (by decide) (by decide) (Or.inl rfl) ⟨rfl, rfl⟩ dX2_init_47 hka (by omega) ?_
  have hF := hF.ui (o := a) (k := 9) (v := (0)) (by omega)
  refine t_aload0 dX2_init_50 ?_
  refine pw_iconst (0) dX2_init_51 (by decide) ?_
  refine pw_puti ft2 fl_X2_36 (j := 10) (by decide) (by decide) (Or.inl rfl) ⟨rfl, rfl⟩ dX2_init_52 hka (by omega) ?_
  have hF := hF.ui (o := a) (k := 10) (v := (0)) (by omega)
  refine t_aload0 dX2_init_55 ?_
  refine pw_iconst (0) dX2_init_56 (by decide) ?_
  refine pw_puti ft2 fl_X2_39 (j := 11) (by decide) (by decide) (Or.inl rfl) ⟨rfl, rfl⟩ dX2_init_57 hka (by omega) ?_
  have hF := hF.ui (o := a) (k := 11) (v := (0)) (by omega)
  refine t_aload0 dX2_init_60 ?_
  refine pw_bipush (6) dX2_init_61 (by decide) ?_
  refine PW.room (mc' := 3 + 1) (ms' := 18 + al (a + 1)) (by decide) (by rw [hl1]; decide) ?_
  refine pw_newi dX2_init_63 h61 (by decide) (by rw [hl1]; decide) (by rw [hl1]; decide) (by omega) hF noXe (okL_s (okr (by omega)) (okL_s trivial (okL_s (oko (fun z hz => by have := ho z hz; omega)) okL_z))) (okS_c (okr (by omega)) okS_z) ?_
  have hF := hF.up (N2 := (a + 2)) (by omega)
  refine pw_putr (C2 := "") (o := (some (a + 1))) ft2 fl_X2_42 (j := 12) (by decide) (by decide) (Or.inr ⟨rfl, rfl⟩) (Or.inr ⟨_, rfl⟩) dX2_init_65 hka (by omega) ?_
  have hF := hF.ur (o := a) (k := 12) (v := (some (a + 1))) (by omega) (fun z hz => by cases hz; omega)
  refine t_aload0 dX2_init_68 ?_
  refine pw_bipush (6) dX2_init_69 (by decide) ?_
  refine PW.room (mc' := 2 + 1) (ms' := 12 + al (a + 2)) (by decide) (by rw [hl2]; decide) ?_
  refine pw_newi dX2_init_71 h62 (by decide) (by rw [hl2]; decide) (by rw [hl2]; decide) (by omega) hF noXe (okL_s (okr (by omega)) (okL_s trivial (okL_s (oko (fun z hz => by have := ho z hz; omega)) okL_z))) (okS_c (okr (by omega)) okS_z) ?_
  have hF := hF.up (N2 := (a + 3)) (by omega)
  refine pw_putr (C2 := "") (o := (some (a + 2))) ft2 fl_X2_46 (j := 13) (by decide) (by decide) (Or.inr ⟨rfl, rfl⟩) (Or.inr ⟨_, rfl⟩) dX2_init_73 hka (by omega) ?_
  have hF := hF.ur (o := a) (k := 13) (v := (some (a + 2))) (by omega) (fun z hz => by cases hz; omega)
  refine t_aload0 dX2_init_76 ?_
  refine pw_bipush (6) dX2_init_77 (by decide) ?_
  refine PW.room (mc' := 1 + 1) (ms' := 6 + al (a + 3)) (by decide) (by rw [hl3]; decide) ?_
  refine pw_newi dX2_init_79 h63 (by decide) (by rw [hl3]; decide) (by rw [hl3]; decide) (by omega) hF noXe (okL_s (okr (by omega)) (okL_s trivial (okL_s (oko (fun z hz => by have := ho z hz; omega)) okL_z))) (okS_c (okr (by omega)) okS_z) ?_
  have hF := hF.up (N2 := (a + 4)) (by omega)
  refine pw_putr (C2 := "") (o := (some (a + 3))) ft2 fl_X2_49 (j := 14) (by decide) (by decide) (Or.inr ⟨rfl, rfl⟩) (Or.inr ⟨_, rfl⟩) dX2_init_81 hka (by omega) ?_
  have hF := hF.ur (o := a) (k := 14) (v := (some (a + 3))) (by omega) (fun z hz => by cases hz; omega)
  refine t_aload0 dX2_init_84 ?_
  refine pw_bipush (6) dX2_init_85 (by decide) ?_
  refine PW.room (mc' := 0 + 1) (ms' := 0 + al (a + 4)) (by decide) (by rw [hl4]; decide) ?_
  refine pw_newi dX2_init_87 h64 (by decide) (by rw [hl4]; decide) (by rw [hl4]; decide) (by omega) hF noXe (okL_s (okr (by omega)) (okL_s trivial (okL_s (oko (fun z hz => by have := ho z hz; omega)) okL_z))) (okS_c (okr (by omega)) okS_z) ?_
  have hF := hF.up (N2 := (a + 5)) (by omega)
  refine pw_putr (C2 := "") (o := (some (a + 4))) ft2 fl_X2_52 (j := 15) (by decide) (by decide) (Or.inr ⟨rfl, rfl⟩) (Or.inr ⟨_, rfl⟩) dX2_init_89 hka (by omega) ?_
  have hF := hF.ur (o := a) (k := 15) (v := (some (a + 4))) (by omega) (fun z hz => by cases hz; omega)
  refine t_aload0 dX2_init_92 ?_
  refine t_iload1 dX2_init_93 ?_
  refine pw_puti ft2 fl_X2_55 (j := 0) (by decide) (by decide) (Or.inr ⟨rfl, rfl⟩) ⟨rfl, rfl⟩ dX2_init_94 hka (by omega) ?_
  have hF := hF.ui (o := a) (k := 0) (v := (nI m)) (by omega)
  refine t_aload0 dX2_init_97 ?_
  refine t_aload2 dX2_init_98 ?_
  refine pw_putr (o := o) ft2 fl_X2_58 (j := 1) (by decide) (by decide) (Or.inr ⟨rfl, rfl⟩) (Or.inl rfl) dX2_init_99 hka (by omega) ?_
  have hF := hF.ur (o := a) (k := 1) (v := o) (by omega) (fun z hz => by have := ho z hz; omega)
  refine pw_vret dX2_init_102 rfl ?_
  refine ⟨rfl, rfl, ⟨⟨?_, fun w hw => ?_, fun p hp => ?_⟩, ⟨hka, ⟨h61, h62, h63, h64⟩, ⟨hl1, hl2, hl3, hl4⟩, ?_, ?_, ?_, ?_⟩, ?_, fun k hk => ⟨?_, ?_⟩⟩, rfl, hF⟩
  · simp [ui_ap]
  · rcases (show w = 0 ∨ w = 1 ∨ w = 2 ∨ w = 3 ∨ w = 4 ∨ w = 5 ∨ w = 6 ∨ w = 7 ∨ w = 8 ∨ w = 9 by omega) with rfl | rfl | rfl | rfl | rfl | rfl | rfl | rfl | rfl | rfl <;> simp [ui_ap, f0]
  · simp [ui_ap, z1, z2, z3, z4]
  · simp [ur_ap]
  · simp [ur_ap]
  · simp [ur_ap]
  · simp [ur_ap]
  · simp [ur_ap]
  · funext p; simp [ui_ap, show k ≠ a by omega]
  · funext p; simp [ur_ap, show k ≠ a by omega]
def crD (c : Nat) : Prop := kd c = 0 ∧ ∀ m, m < 5 → mkD (mA c m)
def nwC (c : Nat) (im i : TI) (rm r : TP) : Prop := CR c S0 i ∧ isC r c ∧ keepB c im i rm r
theorem isM.cg {r r2 : TP} {a : Nat} (h : isM r a) (e : r2 a = r a) : isM r2 a := by
  obtain ⟨h1, h2, h3, h4, h5, h6, h7⟩ := h
  exact ⟨h1, h2, h3, by rw [e]; exact h4, by rw [e]; exact h5, by rw [e]; exact h6, by rw [e]; exact h7⟩
theorem crD_all : ∀ c ∈ crL, crD c := by
  have h : ∀ c ∈ crL, kd0 c = 0 ∧ ∀ m ∈ [0, 1, 2, 3, 4], kd0 (mA c m) = 2 ∧ (kd0 (mA c m + 1) = 6 ∧ kd0 (mA c m + 2) = 6 ∧ kd0 (mA c m + 3) = 6 ∧ kd0 (mA c m + 4) = 6) ∧ (al0 (mA c m + 1) = 6 ∧ al0 (mA c m + 2) = 6 ∧ al0 (mA c m + 3) = 6 ∧ al0 (mA c m + 4) = 6) := by decide +kernel
  intro c hc
  obtain ⟨h1, h2⟩ := h c hc
  refine ⟨by rw [kd_eq]; exact h1, fun m hm => ?_⟩
  unfold mkD
  rw [kd_eq, al_eq]
  exact h2 m (by simp; omega)
set_option maxHeartbeats 4000000 in
set_option maxRecDepth 100000 in
theorem K_Creek {l : Launch} (hlt : l.stackTraces = false) {im : TI} {rm : TP} {lm : TL} {c : Nat} (hD : crD c) (hc : c ≤ 211) (hF : FS (c + 1) im rm lm) : Con l m_X0_init 2 25 200 (c + 1) [pv (some c)] im rm lm (fun N' v i r q => N' = c + 26 ∧ v = none ∧ nwC c im i rm r ∧ q = lm ∧ FS (c + 26) i r q) noX := by
  have hkc := hD.1
  have hd0 : mkD (c + 21) := hD.2 0 (by decide)
  have hd1 : mkD (c + 16) := hD.2 1 (by decide)
  have hd2 : mkD (c + 11) := hD.2 2 (by decide)
  have hd3 : mkD (c + 6) := hD.2 3 (by decide)
  have hd4 : mkD (c + 1) := hD.2 4 (by decide)
  refine Con.ofN (k := 2) (L0 := [some (pv (some c)), none, none]) hlt (by decide +kernel) rfl rfl (by rw [en1 pv_cat, en0]; exact Nat.le_of_ble_eq_true rfl) (by rw [en1 pv_cat, en0]; rfl) ?_
  refine t_aload0 dX0_init_0 ?_
  refine pw_objInit oi_X0 (by omega) dX0_init_1 (Nat.zero_le _) ?_
  refine t_aload0 dX0_init_4 ?_
  refine pw_bipush (10) dX0_init_5 (by decide) ?_
  refine pw_puti ft0 fl_X0_9 (j := 1) (by decide) (by decide) (Or.inl rfl) ⟨rfl, rfl⟩ dX0_init_7 hkc (by omega) ?_
  have hF := hF.ui (o := c) (k := 1) (v := (10)) (by omega)
  refine t_aload0 dX0_init_10 ?_
  refine pw_bipush (20) dX0_init_11 (by decide) ?_
  refine pw_puti ft0 fl_X0_15 (j := 2) (by decide) (by decide) (Or.inl rfl) ⟨rfl, rfl⟩ dX0_init_13 hkc (by omega) ?_
  have hF := hF.ui (o := c) (k := 2) (v := (20)) (by omega)
  refine t_aload0 dX0_init_16 ?_
  refine pw_bipush (20) dX0_init_17 (by decide) ?_
  refine pw_puti ft0 fl_X0_18 (j := 3) (by decide) (by decide) (Or.inl rfl) ⟨rfl, rfl⟩ dX0_init_19 hkc (by omega) ?_
  have hF := hF.ui (o := c) (k := 3) (v := (20)) (by omega)
  refine t_aload0 dX0_init_22 ?_
  refine pw_iconst (0) dX0_init_23 (by decide) ?_
  refine pw_puti ft0 fl_X0_21 (j := 4) (by decide) (by decide) (Or.inl rfl) ⟨rfl, rfl⟩ dX0_init_24 hkc (by omega) ?_
  have hF := hF.ui (o := c) (k := 4) (v := (0)) (by omega)
  refine t_aload0 dX0_init_27 ?_
  refine pw_iconst (-1) dX0_init_28 (by decide) ?_
  refine pw_puti ft0 fl_X0_24 (j := 5) (by decide) (by decide) (Or.inl rfl) ⟨rfl, rfl⟩ dX0_init_29 hkc (by omega) ?_
  have hF := hF.ui (o := c) (k := 5) (v := (-1)) (by omega)
  refine t_aload0 dX0_init_32 ?_
  refine pw_iconst (0) dX0_init_33 (by decide) ?_
  refine pw_puti ft0 fl_X0_27 (j := 6) (by decide) (by decide) (Or.inl rfl) ⟨rfl, rfl⟩ dX0_init_34 hkc (by omega) ?_
  have hF := hF.ui (o := c) (k := 6) (v := (0)) (by omega)
  refine t_aload0 dX0_init_37 ?_
  refine pw_iconst (0) dX0_init_38 (by decide) ?_
  refine pw_puti ft0 fl_X0_30 (j := 7) (by decide) (by decide) (Or.inl rfl) ⟨rfl, rfl⟩ dX0_init_39 hkc (by omega) ?_
  have hF := hF.ui (o := c) (k := 7) (v := (0)) (by omega)
  refine t_aload0 dX0_init_42 ?_
  refine pw_iconst (0) dX0_init_43 (by decide) ?_
  refine pw_puti ft0 fl_X0_33 (j := 8) (by decide) (by decide) (Or.inl rfl) ⟨rfl, rfl⟩ dX0_init_44 hkc (by omega) ?_
  have hF := hF.ui (o := c) (k := 8) (v := (0)) (by omega)
  refine t_aload0 dX0_init_47 ?_
  refine pw_iconst (0) dX0_init_48 (by decide) ?_
  refine pw_puti ft0 fl_X0_36 (j := 9) (by decide) (by decide) (Or.inl rfl) ⟨rfl, rfl⟩ dX0_init_49 hkc (by omega) ?_
  have hF := hF.ui (o := c) (k := 9) (v := (0)) (by omega)
  refine t_aload0 dX0_init_52 ?_
  refine pw_iconst (0) dX0_init_53 (by decide) ?_
  refine pw_puti ft0 fl_X0_39 (j := 10) (by decide) (by decide) (Or.inl rfl) ⟨rfl, rfl⟩ dX0_init_54 hkc (by omega) ?_
  have hF := hF.ui (o := c) (k := 10) (v := (0)) (by omega)
  refine t_aload0 dX0_init_57 ?_
  refine pw_iconst (0) dX0_init_58 (by decide) ?_
  refine pw_puti ft0 fl_X0_42 (j := 11) (by decide) (by decide) (Or.inl rfl) ⟨rfl, rfl⟩ dX0_init_59 hkc (by omega) ?_
  have hF := hF.ui (o := c) (k := 11) (v := (0)) (by omega)
  refine t_aload0 dX0_init_62 ?_
  refine pw_iconst (0) dX0_init_63 (by decide) ?_
  refine pw_puti ft0 fl_X0_45 (j := 12) (by decide) (by decide) (Or.inl rfl) ⟨rfl, rfl⟩ dX0_init_64 hkc (by omega) ?_
  have hF := hF.ui (o := c) (k := 12) (v := (0)) (by omega)
  refine n_null dX0_init_67 ?_
  refine t_astore1 (x := none) dX0_init_68 (by decide) okp_r ?_
  refine pw_iconst (4) dX0_init_69 (by decide) ?_
  refine t_istore2 dX0_init_70 (by decide) okp_r ?_
  refine t_iload2 dX0_init_71 ?_
  refine pw_if_lt 91 dX0_init_72 (by decide) (fun h => absurd h (by decide)) (fun _ => ?_)
  refine PW.room (mc' := 24 + 1) (ms' := 184 + 16) (by decide) (by decide) ?_
  refine pw_new ft2 cl_X0_48 it_X2 in_X2 df2 dX0_init_75 hd4.1 (by omega) hF noXe (okL_s (okr (by omega)) (okL_s (show okV _ (pv none) from trivial) (okL_s trivial okL_z))) okS_z ?_
  have hF := hF.up (N2 := (c + 2)) (by omega)
  refine pw_dup dX0_init_78 rfl ?_
  refine t_iload2 dX0_init_79 ?_
  refine t_aload1 dX0_init_80 ?_
  refine PW.room (mc' := 4 + 20) (ms' := 24 + 160) (by decide) (by decide) ?_
  refine pw_callI (as := [.int (4), pv none]) (b := (c + 1)) (K_Mill (l := l) hlt (a := (c + 1)) (m := 4) (o := none) hd4 (by omega) hF (fun z hz => by cases hz)) rfl rfl rfl mc_X2_init ml_X0_50 mi_X2_init in_X2 (okc_X2_init (by decide)) dX0_init_81 (cat_le (Nat.le_of_ble_eq_true rfl)) (fun N' v i r q h => Or.inr ⟨by have := h.1; omega, (okL_s (okr (by omega)) (okL_s (show okV _ (pv none) from trivial) (okL_s trivial okL_z))), (okS_c (okr (by omega)) okS_z), noXe⟩) (fun _ _ _ _ h => h.elim) (fun zN zv81 zi81 zr81 zq81 zh81 => ?_)
  obtain ⟨rfl, rfl, hm4, rfl, hG⟩ := zh81; clear hF; have hF := hG; clear hG
  have hi4 := hm4.2.2.2
  refine t_astore1 (x := (some (c + 1))) dX0_init_84 (by decide) okp_r ?_
  refine t_iinc2 (-1) dX0_init_85 (by decide) (by decide) okp_r ?_
  rw [show ((4 : Int32) + (-1)) = 3 by decide]
  refine pw_goto 71 dX0_init_88 (by decide) ?_
  refine t_iload2 dX0_init_71 ?_
  refine pw_if_lt 91 dX0_init_72 (by decide) (fun h => absurd h (by decide)) (fun _ => ?_)
  refine PW.room (mc' := 19 + 1) (ms' := 144 + 16) (by decide) (by decide) ?_
  refine pw_new ft2 cl_X0_48 it_X2 in_X2 df2 dX0_init_75 hd3.1 (by omega) hF noXe (okL_s (okr (by omega)) (okL_s (okr (by omega)) (okL_s trivial okL_z))) okS_z ?_
  have hF := hF.up (N2 := (c + 7)) (by omega)
  refine pw_dup dX0_init_78 rfl ?_
  refine t_iload2 dX0_init_79 ?_
  refine t_aload1 dX0_init_80 ?_
  refine PW.room (mc' := 4 + 15) (ms' := 24 + 120) (by decide) (by decide) ?_
  refine pw_callI (as := [.int (3), pv (some (c + 1))]) (b := (c + 6)) (K_Mill (l := l) hlt (a := (c + 6)) (m := 3) (o := (some (c + 1))) hd3 (by omega) hF (fun z hz => by cases hz; omega)) rfl rfl rfl mc_X2_init ml_X0_50 mi_X2_init in_X2 (okc_X2_init (by decide)) dX0_init_81 (cat_le (Nat.le_of_ble_eq_true rfl)) (fun N' v i r q h => Or.inr ⟨by have := h.1; omega, (okL_s (okr (by omega)) (okL_s (okr (by omega)) (okL_s trivial okL_z))), (okS_c (okr (by omega)) okS_z), noXe⟩) (fun _ _ _ _ h => h.elim) (fun zN zv81 zi81 zr81 zq81 zh81 => ?_)
  obtain ⟨rfl, rfl, hm3, rfl, hG⟩ := zh81; clear hF; have hF := hG; clear hG
  have hi3 := hm3.2.2.2
  refine t_astore1 (x := (some (c + 6))) dX0_init_84 (by decide) okp_r ?_
  refine t_iinc2 (-1) dX0_init_85 (by decide) (by decide) okp_r ?_
  rw [show ((3 : Int32) + (-1)) = 2 by decide]
  refine pw_goto 71 dX0_init_88 (by decide) ?_
  refine t_iload2 dX0_init_71 ?_
  refine pw_if_lt 91 dX0_init_72 (by decide) (fun h => absurd h (by decide)) (fun _ => ?_)
  refine PW.room (mc' := 14 + 1) (ms' := 104 + 16) (by decide) (by decide) ?_
  refine pw_new ft2 cl_X0_48 it_X2 in_X2 df2 dX0_init_75 hd2.1 (by omega) hF noXe (okL_s (okr (by omega)) (okL_s (okr (by omega)) (okL_s trivial okL_z))) okS_z ?_
  have hF := hF.up (N2 := (c + 12)) (by omega)
  refine pw_dup dX0_init_78 rfl ?_
  refine t_iload2 dX0_init_79 ?_
  refine t_aload1 dX0_init_80 ?_
  refine PW.room (mc' := 4 + 10) (ms' := 24 + 80) (by decide) (by decide) ?_
  refine pw_callI (as := [.int (2), pv (some (c + 6))]) (b := (c + 11)) (K_Mill (l := l) hlt (a := (c + 11)) (m := 2) (o := (some (c + 6))) hd2 (by omega) hF (fun z hz => by cases hz; omega)) rfl rfl rfl mc_X2_init ml_X0_50 mi_X2_init in_X2 (okc_X2_init (by decide)) dX0_init_81 (cat_le (Nat.le_of_ble_eq_true rfl)) (fun N' v i r q h => Or.inr ⟨by have := h.1; omega, (okL_s (okr (by omega)) (okL_s (okr (by omega)) (okL_s trivial okL_z))), (okS_c (okr (by omega)) okS_z), noXe⟩) (fun _ _ _ _ h => h.elim) (fun zN zv81 zi81 zr81 zq81 zh81 => ?_)
  obtain ⟨rfl, rfl, hm2, rfl, hG⟩ := zh81; clear hF; have hF := hG; clear hG
  have hi2 := hm2.2.2.2
  refine t_astore1 (x := (some (c + 11))) dX0_init_84 (by decide) okp_r ?_
  refine t_iinc2 (-1) dX0_init_85 (by decide) (by decide) okp_r ?_
  rw [show ((2 : Int32) + (-1)) = 1 by decide]
  refine pw_goto 71 dX0_init_88 (by decide) ?_
  refine t_iload2 dX0_init_71 ?_
  refine pw_if_lt 91 dX0_init_72 (by decide) (fun h => absurd h (by decide)) (fun _ => ?_)
  refine PW.room (mc' := 9 + 1) (ms' := 64 + 16) (by decide) (by decide) ?_
  refine pw_new ft2 cl_X0_48 it_X2 in_X2 df2 dX0_init_75 hd1.1 (by omega) hF noXe (okL_s (okr (by omega)) (okL_s (okr (by omega)) (okL_s trivial okL_z))) okS_z ?_
  have hF := hF.up (N2 := (c + 17)) (by omega)
  refine pw_dup dX0_init_78 rfl ?_
  refine t_iload2 dX0_init_79 ?_
  refine t_aload1 dX0_init_80 ?_
  refine PW.room (mc' := 4 + 5) (ms' := 24 + 40) (by decide) (by decide) ?_
  refine pw_callI (as := [.int (1), pv (some (c + 11))]) (b := (c + 16)) (K_Mill (l := l) hlt (a := (c + 16)) (m := 1) (o := (some (c + 11))) hd1 (by omega) hF (fun z hz => by cases hz; omega)) rfl rfl rfl mc_X2_init ml_X0_50 mi_X2_init in_X2 (okc_X2_init (by decide)) dX0_init_81 (cat_le (Nat.le_of_ble_eq_true rfl)) (fun N' v i r q h => Or.inr ⟨by have := h.1; omega, (okL_s (okr (by omega)) (okL_s (okr (by omega)) (okL_s trivial okL_z))), (okS_c (okr (by omega)) okS_z), noXe⟩) (fun _ _ _ _ h => h.elim) (fun zN zv81 zi81 zr81 zq81 zh81 => ?_)
  obtain ⟨rfl, rfl, hm1, rfl, hG⟩ := zh81; clear hF; have hF := hG; clear hG
  have hi1 := hm1.2.2.2
  refine t_astore1 (x := (some (c + 16))) dX0_init_84 (by decide) okp_r ?_
  refine t_iinc2 (-1) dX0_init_85 (by decide) (by decide) okp_r ?_
  rw [show ((1 : Int32) + (-1)) = 0 by decide]
  refine pw_goto 71 dX0_init_88 (by decide) ?_
  refine t_iload2 dX0_init_71 ?_
  refine pw_if_lt 91 dX0_init_72 (by decide) (fun h => absurd h (by decide)) (fun _ => ?_)
  refine PW.room (mc' := 4 + 1) (ms' := 24 + 16) (by decide) (by decide) ?_
  refine pw_new ft2 cl_X0_48 it_X2 in_X2 df2 dX0_init_75 hd0.1 (by omega) hF noXe (okL_s (okr (by omega)) (okL_s (okr (by omega)) (okL_s trivial okL_z))) okS_z ?_
  have hF := hF.up (N2 := (c + 22)) (by omega)
  refine pw_dup dX0_init_78 rfl ?_
  refine t_iload2 dX0_init_79 ?_
  refine t_aload1 dX0_init_80 ?_
  refine PW.room (mc' := 4 + 0) (ms' := 24 + 0) (by decide) (by decide) ?_
  refine pw_callI (as := [.int (0), pv (some (c + 16))]) (b := (c + 21)) (K_Mill (l := l) hlt (a := (c + 21)) (m := 0) (o := (some (c + 16))) hd0 (by omega) hF (fun z hz => by cases hz; omega)) rfl rfl rfl mc_X2_init ml_X0_50 mi_X2_init in_X2 (okc_X2_init (by decide)) dX0_init_81 (cat_le (Nat.le_of_ble_eq_true rfl)) (fun N' v i r q h => Or.inr ⟨by have := h.1; omega, (okL_s (okr (by omega)) (okL_s (okr (by omega)) (okL_s trivial okL_z))), (okS_c (okr (by omega)) okS_z), noXe⟩) (fun _ _ _ _ h => h.elim) (fun zN zv81 zi81 zr81 zq81 zh81 => ?_)
  obtain ⟨rfl, rfl, hm0, rfl, hG⟩ := zh81; clear hF; have hF := hG; clear hG
  have hi0 := hm0.2.2.2
  refine t_astore1 (x := (some (c + 21))) dX0_init_84 (by decide) okp_r ?_
  refine t_iinc2 (-1) dX0_init_85 (by decide) (by decide) okp_r ?_
  rw [show ((0 : Int32) + (-1)) = -1 by decide]
  refine pw_goto 71 dX0_init_88 (by decide) ?_
  refine t_iload2 dX0_init_71 ?_
  refine pw_if_lt 91 dX0_init_72 (by decide) (fun _ => ?_) (fun h => absurd (by decide) h)
  refine t_aload0 dX0_init_91 ?_
  refine t_aload1 dX0_init_92 ?_
  refine pw_putr (o := (some (c + 21))) ft0 fl_X0_53 (j := 0) (by decide) (by decide) (Or.inr ⟨rfl, rfl⟩) (Or.inl rfl) dX0_init_93 hkc (by omega) ?_
  have hF := hF.ur (o := c) (k := 0) (v := (some (c + 21))) (by omega) (fun z hz => by cases hz; omega)
  refine pw_vret dX0_init_96 rfl ?_
  refine ⟨rfl, rfl, ⟨⟨⟨?_, ?_, ?_, ?_, ?_, fun j h6 h12 => ?_⟩, fun m hm => ?_⟩, ⟨hkc, ?_, fun m hm => ?_, fun m hm => ?_⟩, fun k hk => ⟨?_, ?_⟩⟩, rfl, hF⟩
  · rw [(hi0 c (by omega)).1, (hi1 c (by omega)).1, (hi2 c (by omega)).1, (hi3 c (by omega)).1, (hi4 c (by omega)).1]; simp [ui_ap, S0]
  · rw [(hi0 c (by omega)).1, (hi1 c (by omega)).1, (hi2 c (by omega)).1, (hi3 c (by omega)).1, (hi4 c (by omega)).1]; simp [ui_ap, S0]
  · rw [(hi0 c (by omega)).1, (hi1 c (by omega)).1, (hi2 c (by omega)).1, (hi3 c (by omega)).1, (hi4 c (by omega)).1]; simp [ui_ap, S0]
  · rw [(hi0 c (by omega)).1, (hi1 c (by omega)).1, (hi2 c (by omega)).1, (hi3 c (by omega)).1, (hi4 c (by omega)).1]; simp [ui_ap, S0]
  · rw [(hi0 c (by omega)).1, (hi1 c (by omega)).1, (hi2 c (by omega)).1, (hi3 c (by omega)).1, (hi4 c (by omega)).1]; simp [ui_ap, S0]
  · rw [(hi0 c (by omega)).1, (hi1 c (by omega)).1, (hi2 c (by omega)).1, (hi3 c (by omega)).1, (hi4 c (by omega)).1]; rcases (show j = 6 ∨ j = 7 ∨ j = 8 ∨ j = 9 ∨ j = 10 ∨ j = 11 ∨ j = 12 by omega) with rfl | rfl | rfl | rfl | rfl | rfl | rfl <;> simp [ui_ap, S0]
  · rcases (show m = 0 ∨ m = 1 ∨ m = 2 ∨ m = 3 ∨ m = 4 by omega) with rfl | rfl | rfl | rfl | rfl
    · exact hm0.1
    · exact hm1.1.keep (fun o h1 h2 => by have h2 : o ≤ c + 16 + 4 := h2; rw [(hi0 o (by omega)).1])
    · exact hm2.1.keep (fun o h1 h2 => by have h2 : o ≤ c + 11 + 4 := h2; rw [(hi0 o (by omega)).1, (hi1 o (by omega)).1])
    · exact hm3.1.keep (fun o h1 h2 => by have h2 : o ≤ c + 6 + 4 := h2; rw [(hi0 o (by omega)).1, (hi1 o (by omega)).1, (hi2 o (by omega)).1])
    · exact hm4.1.keep (fun o h1 h2 => by have h2 : o ≤ c + 1 + 4 := h2; rw [(hi0 o (by omega)).1, (hi1 o (by omega)).1, (hi2 o (by omega)).1, (hi3 o (by omega)).1])
  · rw [ur_ap, if_pos ⟨rfl, rfl⟩]; rfl
  · rcases (show m = 0 ∨ m = 1 ∨ m = 2 ∨ m = 3 ∨ m = 4 by omega) with rfl | rfl | rfl | rfl | rfl
    · exact hm0.2.1.cg (by show ur _ c 0 _ (c + 21) = _; rw [ur_ne (by omega)])
    · exact hm1.2.1.cg (by show ur _ c 0 _ (c + 16) = _; rw [ur_ne (by omega)]; rw [(hi0 (c + 16) (by omega)).2])
    · exact hm2.2.1.cg (by show ur _ c 0 _ (c + 11) = _; rw [ur_ne (by omega)]; rw [(hi0 (c + 11) (by omega)).2, (hi1 (c + 11) (by omega)).2])
    · exact hm3.2.1.cg (by show ur _ c 0 _ (c + 6) = _; rw [ur_ne (by omega)]; rw [(hi0 (c + 6) (by omega)).2, (hi1 (c + 6) (by omega)).2, (hi2 (c + 6) (by omega)).2])
    · exact hm4.2.1.cg (by show ur _ c 0 _ (c + 1) = _; rw [ur_ne (by omega)]; rw [(hi0 (c + 1) (by omega)).2, (hi1 (c + 1) (by omega)).2, (hi2 (c + 1) (by omega)).2, (hi3 (c + 1) (by omega)).2])
  · rcases (show m = 0 ∨ m = 1 ∨ m = 2 ∨ m = 3 ∨ m = 4 by omega) with rfl | rfl | rfl | rfl | rfl
    · show ur _ c 0 _ (c + 21) 1 = _; rw [ur_ne (by omega)]; exact hm0.2.2.1
    · show ur _ c 0 _ (c + 16) 1 = _; rw [ur_ne (by omega), (hi0 (c + 16) (by omega)).2]; exact hm1.2.2.1
    · show ur _ c 0 _ (c + 11) 1 = _; rw [ur_ne (by omega), (hi0 (c + 11) (by omega)).2, (hi1 (c + 11) (by omega)).2]; exact hm2.2.2.1
    · show ur _ c 0 _ (c + 6) 1 = _; rw [ur_ne (by omega), (hi0 (c + 6) (by omega)).2, (hi1 (c + 6) (by omega)).2, (hi2 (c + 6) (by omega)).2]; exact hm3.2.2.1
    · show ur _ c 0 _ (c + 1) 1 = _; rw [ur_ne (by omega), (hi0 (c + 1) (by omega)).2, (hi1 (c + 1) (by omega)).2, (hi2 (c + 1) (by omega)).2, (hi3 (c + 1) (by omega)).2]; exact hm4.2.2.1
  · rw [(hi0 k (by omega)).1, (hi1 k (by omega)).1, (hi2 k (by omega)).1, (hi3 k (by omega)).1, (hi4 k (by omega)).1]; funext p; simp [ui_ap, show k ≠ c by omega]
  · rw [ur_ne (by omega), (hi0 k (by omega)).2, (hi1 k (by omega)).2, (hi2 k (by omega)).2, (hi3 k (by omega)).2, (hi4 k (by omega)).2]

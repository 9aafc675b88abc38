/-! TideMills$Creek: mills and sacks that are looked for, sums -/
def maO (x : Int32) : Option Nat := fdN (fun m => nI m = x) 5 0
theorem maO_nI {m : Nat} (h : m < 5) : maO (nI m) = some m := by
  rcases (show m = 0 ∨ m = 1 ∨ m = 2 ∨ m = 3 ∨ m = 4 by omega) with rfl | rfl | rfl | rfl | rfl <;> rfl
theorem maO_some {x : Int32} {m : Nat} (h : maO x = some m) : m < 5 ∧ x = nI m := by
  have := fdN_some 5 0 m h
  exact ⟨by omega, this.2.2.symm⟩
theorem maO_none {x : Int32} (h : maO x = none) : ∀ m, m < 5 → x ≠ nI m := fun m hm e => fdN_none 5 0 h m (Nat.zero_le _) (by omega) e.symm
set_option maxHeartbeats 4000000 in
set_option maxRecDepth 100000 in
theorem C_millAt {l : Launch} (hlt : l.stackTraces = false) {im : TI} {rm : TP} {lm : TL} {c : Nat} {S : CS} (hC : isC rm c) (hR : CR c S im) {x : Int32} : Con l m_X0_millAt 1 0 0 NN [pv (some c), .int (x)] im rm lm (QP (pv (gm c (maO x))) im rm lm) noX := by
  have hkc := hC.1
  refine Con.ofN (k := 1) (L0 := [some (pv (some c)), some (.int (x)), none]) hlt (by decide +kernel) rfl rfl (by rw [en1 pv_cat, en1 rfl, en0]; exact Nat.le_of_ble_eq_true rfl) (by rw [en1 pv_cat, en1 rfl, en0]; rfl) ?_
  have loop : ∀ (n m : Nat) , n = 5 - m → maO x = fdN (fun m => nI m = x) n m → PW l m_X0_millAt 1 0 0 NN 5 [some (pv (some c)), some (.int x), some (pv (mo c m))] [] im rm lm (QP (pv (gm c (maO x))) im rm lm) noX := by
    intro n
    induction n using Nat.strongRecOn with
    | _ n ih =>
      intro m  hn hf
      refine t_aload2 dX0_millAt_5 ?_
      refine pw_ifnull 27 dX0_millAt_6 (by decide) (fun zc6 => ?_) (fun zy6 zc6 => ?_)
      · have zm5 := mo_none zc6
        have zn : n = 0 := by omega
        subst zn
        refine g_null dX0_millAt_27 ?_
        refine pw_aret dX0_millAt_28 rfl ?_
        exact ⟨rfl, by rw [hf]; rfl, rfl, rfl, rfl⟩
      · obtain ⟨zhm, rfl⟩ := mo_some zc6
        rw [mo_of zhm]
        have hkm := ck_of hC zhm
        have hM := hC.2.2.1 m zhm
        obtain ⟨n', rfl⟩ : ∃ n', n = n' + 1 := ⟨n - 1, by omega⟩
        refine t_aload2 dX0_millAt_9 ?_
        refine g_geti ft2 fl_X0_64 (j := 0) (by decide) dX0_millAt_10 (by assumption) ?_
        refine t_iload1 dX0_millAt_13 ?_
        refine pw_icmp_ne 19 dX0_millAt_14 (by decide) (fun zc14 => ?_) (fun zc14 => ?_)
        · refine t_aload2 dX0_millAt_19 ?_
          refine g_getr ft2 fl_X0_61 (j := 1) (by decide) dX0_millAt_20 (by assumption) (by first | assumption | exact hC.2.2.2 _ zhm) ?_
          refine t_astore2 dX0_millAt_23 (by decide) okp_i ?_
          refine pw_goto 5 dX0_millAt_24 (by decide) ?_
          exact ih n' (by omega) (m + 1) (by omega) (by rw [hf, fdN, if_neg (by rw [← (hR.2 m zhm).1]; exact zc14)])
        · refine t_aload2 dX0_millAt_17 ?_
          refine pw_aret dX0_millAt_18 rfl ?_
          exact ⟨rfl, by rw [hf, fdN, if_pos (by rw [← (hR.2 m zhm).1]; exact Classical.not_not.mp zc14)]; rfl, rfl, rfl, rfl⟩
  refine t_aload0 dX0_millAt_0 ?_
  refine g_getr ft0 fl_X0_53 (j := 0) (by decide) dX0_millAt_1 (by assumption) (hC.2.1) ?_
  refine t_astore2 dX0_millAt_4 (by decide) okp_i ?_
  exact loop 5 0 rfl rfl
theorem place_of {c m : Nat} {S : CS} {im : TI} {s : Int32} (hR : CR c S im) (hm : m < 5) (hI : CI S) : fdN (fun j => im (mA c m + 1) j = s) (cnt S m) 0 = poS S m s := by
  refine fdN_congr _ _ fun j _ h2 => ?_
  have := (hI.c hm).1
  rw [((hR.2 m hm).2.2 j (by omega)).1]
theorem poS_lt {S : CS} {m p : Nat} {s : Int32} (hI : CI S) (hm : m < 5) (h : poS S m s = some p) : p < cnt S m ∧ p < 6 ∧ S.2.2 m p 0 = s := by
  have h1 := fdN_some _ _ _ h
  have h2 := (hI.c hm).1
  exact ⟨by omega, by omega, h1.2.2⟩
theorem poS_one {S : CS} {m : Nat} {s : Int32} (hI : CI S) (hm : m < 5) : oI (poS S m s) = -1 ↔ poS S m s = none := oI_none fun p h => by have := poS_lt hI hm h; omega
theorem C_place {l : Launch} (hlt : l.stackTraces = false) {im : TI} {rm : TP} {lm : TL} {c m : Nat} {S : CS} {s : Int32} (hC : isC rm c) (hR : CR c S im) (hI : CI S) (hm : m < 5) : Con l m_X2_placeOf 0 0 0 NN [pv (some (mA c m)), .int s] im rm lm (QP (.int (oI (poS S m s))) im rm lm) noX := by
  have h := C_placeOf (l := l) (im := im) (rm := rm) (lm := lm) (c := cnt S m) (s := s) hlt (hC.2.2.1 m hm) (by rw [w11 hR hm]; exact (hI.c hm).2) (hI.c hm).1
  rw [place_of hR hm hI] at h
  exact h
def moS (S : CS) (s : Int32) : Option Nat := fdN (fun m => ¬ poS S m s = none) 5 0
theorem moS_lt {S : CS} {s : Int32} {m : Nat} (h : moS S s = some m) : m < 5 ∧ ¬ poS S m s = none := by
  have := fdN_some 5 0 m h
  exact ⟨by omega, this.2.2⟩
set_option maxHeartbeats 4000000 in
set_option maxRecDepth 100000 in
theorem C_millOfSack {l : Launch} (hlt : l.stackTraces = false) {im : TI} {rm : TP} {lm : TL} {c : Nat} {S : CS} (hC : isC rm c) (hR : CR c S im) {s : Int32} (hI : CI S) : Con l m_X0_millOfSack 1 0 0 NN [pv (some c), .int (s)] im rm lm (QP (pv (gm c (moS S s))) im rm lm) noX := by
  have hkc := hC.1
  refine Con.ofN (k := 1) (L0 := [some (pv (some c)), some (.int (s)), none]) hlt (by decide +kernel) rfl rfl (by rw [en1 pv_cat, en1 rfl, en0]; exact Nat.le_of_ble_eq_true rfl) (by rw [en1 pv_cat, en1 rfl, en0]; rfl) ?_
  have loop : ∀ (n m : Nat) , n = 5 - m → moS S s = fdN (fun m => ¬ poS S m s = none) n m → PW l m_X0_millOfSack 1 0 0 NN 5 [some (pv (some c)), some (.int s), some (pv (mo c m))] [] im rm lm (QP (pv (gm c (moS S s))) im rm lm) noX := by
    intro n
    induction n using Nat.strongRecOn with
    | _ n ih =>
      intro m  hn hf
      refine t_aload2 dX0_millOfSack_5 ?_
      refine pw_ifnull 28 dX0_millOfSack_6 (by decide) (fun zc6 => ?_) (fun zy6 zc6 => ?_)
      · have zm5 := mo_none zc6
        have zn : n = 0 := by omega
        subst zn
        refine g_null dX0_millOfSack_28 ?_
        refine pw_aret dX0_millOfSack_29 rfl ?_
        exact ⟨rfl, by rw [hf]; rfl, rfl, rfl, rfl⟩
      · obtain ⟨zhm, rfl⟩ := mo_some zc6
        rw [mo_of zhm]
        have hkm := ck_of hC zhm
        have hM := hC.2.2.1 m zhm
        obtain ⟨n', rfl⟩ : ∃ n', n = n' + 1 := ⟨n - 1, by omega⟩
        refine t_aload2 dX0_millOfSack_9 ?_
        refine t_iload1 dX0_millOfSack_10 ?_
        refine g_callV1P (C_place (l := l) hlt hC hR hI zhm) rfl ft2 rfl mc_X2_placeOf ml_X0_67 mi_X2_placeOf ms_X2_placeOf in_X2 (okc_X2_placeOf (by decide)) dX0_millOfSack_11 (by assumption) (cat_le (Nat.le_of_ble_eq_true rfl)) ?_
        refine pw_iconst (-1) dX0_millOfSack_14 (by decide) ?_
        refine pw_icmp_eq 20 dX0_millOfSack_15 (by decide) (fun zc15 => ?_) (fun zc15 => ?_)
        · refine t_aload2 dX0_millOfSack_20 ?_
          refine g_getr ft2 fl_X0_61 (j := 1) (by decide) dX0_millOfSack_21 (by assumption) (by first | assumption | exact hC.2.2.2 _ zhm) ?_
          refine t_astore2 dX0_millOfSack_24 (by decide) okp_i ?_
          refine pw_goto 5 dX0_millOfSack_25 (by decide) ?_
          exact ih n' (by omega) (m + 1) (by omega) (by rw [hf, fdN, if_neg (fun z => z ((poS_one hI zhm).mp zc15))])
        · refine t_aload2 dX0_millOfSack_18 ?_
          refine pw_aret dX0_millOfSack_19 rfl ?_
          exact ⟨rfl, by rw [hf, fdN, if_pos (fun z => zc15 ((poS_one hI zhm).mpr z))]; rfl, rfl, rfl, rfl⟩
  refine t_aload0 dX0_millOfSack_0 ?_
  refine g_getr ft0 fl_X0_53 (j := 0) (by decide) dX0_millOfSack_1 (by assumption) (hC.2.1) ?_
  refine t_astore2 dX0_millOfSack_4 (by decide) okp_i ?_
  exact loop 5 0 rfl rfl
abbrev chP (S : CS) (m : Nat) : Prop := ∀ o, o < 5 → ¬ o = m → rsF S o = 0 → ¬ ahF S o m
set_option maxHeartbeats 4000000 in
set_option maxRecDepth 100000 in
theorem C_isAhead {l : Launch} (hlt : l.stackTraces = false) {im : TI} {rm : TP} {lm : TL} {c : Nat} {S : CS} (hC : isC rm c) (hR : CR c S im) {w : Nat} (hw : w < 5) : Con l m_X0_isAheadOfAllOthers 3 0 0 NN [pv (some c), pv (some (mA c w))] im rm lm (QP (.int (bI (chP S w))) im rm lm) noX := by
  have hkc := hC.1
  refine Con.ofN (k := 1) (L0 := [some (pv (some c)), some (pv (some (mA c w))), none]) hlt (by decide +kernel) rfl rfl (by rw [en1 pv_cat, en1 pv_cat, en0]; exact Nat.le_of_ble_eq_true rfl) (by rw [en1 pv_cat, en1 pv_cat, en0]; rfl) ?_
  have loop : ∀ (n m : Nat) , n = 5 - m → (∀ o, o < m → ¬ o = w → rsF S o = 0 → ¬ ahF S o w) → PW l m_X0_isAheadOfAllOthers 3 0 0 NN 5 [some (pv (some c)), some (pv (some (mA c w))), some (pv (mo c m))] [] im rm lm (QP (.int (bI (chP S w))) im rm lm) noX := by
    intro n
    induction n using Nat.strongRecOn with
    | _ n ih =>
      intro m  hn hf
      refine t_aload2 dX0_isAheadOfAllOthers_5 ?_
      refine pw_ifnull 41 dX0_isAheadOfAllOthers_6 (by decide) (fun zc6 => ?_) (fun zy6 zc6 => ?_)
      · have zm5 := mo_none zc6
        have zn : n = 0 := by omega
        subst zn
        refine pw_iconst (1) dX0_isAheadOfAllOthers_41 (by decide) ?_
        refine pw_zret dX0_isAheadOfAllOthers_42 rfl ?_ ?_
        · first | rfl | exact bI_n
        · refine ⟨rfl, ?_, rfl, rfl, rfl⟩
          rw [bI_t]
          exact fun o h1 => hf o (by omega)
      · obtain ⟨zhm, rfl⟩ := mo_some zc6
        rw [mo_of zhm]
        have hkm := ck_of hC zhm
        have hM := hC.2.2.1 m zhm
        obtain ⟨n', rfl⟩ : ∃ n', n = n' + 1 := ⟨n - 1, by omega⟩
        refine t_aload2 dX0_isAheadOfAllOthers_9 ?_
        refine t_aload1 dX0_isAheadOfAllOthers_10 ?_
        refine g_acmp_eq 33 (fun a b h1 h2 => by cases h1; cases h2; exact ⟨kd_lt hkm (by decide), kd_lt (ck_of hC hw) (by decide)⟩) dX0_isAheadOfAllOthers_11 (by decide) (fun zc11 => ?_) (fun zc11 => ?_)
        · refine t_aload2 dX0_isAheadOfAllOthers_33 ?_
          refine g_getr ft2 fl_X0_61 (j := 1) (by decide) dX0_isAheadOfAllOthers_34 (by assumption) (by first | assumption | exact hC.2.2.2 _ zhm) ?_
          refine t_astore2 dX0_isAheadOfAllOthers_37 (by decide) okp_r ?_
          refine pw_goto 5 dX0_isAheadOfAllOthers_38 (by decide) ?_
          refine ih n' (by omega) (m + 1) (by omega) (fun o h1 h2 h3 => ?_)
          rcases Nat.lt_or_ge o m with z | z
          · exact hf o z h2 h3
          · have zom : o = m := by omega
            subst zom
            have zz : mA c o = mA c w := Option.some.inj zc11
            exact absurd (by unfold mA at zz; omega) h2
        · refine t_aload0 dX0_isAheadOfAllOthers_14 ?_
          refine t_aload2 dX0_isAheadOfAllOthers_15 ?_
          refine g_callV1P (C_reason (l := l) hlt hC hR zhm) rfl ft0 rfl mc_X0_reasonToRest ml_X0_105 mi_X0_reasonToRest ms_X0_reasonToRest in_X0 (okc_X0_reasonToRest (by decide)) dX0_isAheadOfAllOthers_16 (by assumption) (cat_le (Nat.le_of_ble_eq_true rfl)) ?_
          refine pw_if_ne 33 dX0_isAheadOfAllOthers_19 (by decide) (fun zc19 => ?_) (fun zc19 => ?_)
          · refine t_aload2 dX0_isAheadOfAllOthers_33 ?_
            refine g_getr ft2 fl_X0_61 (j := 1) (by decide) dX0_isAheadOfAllOthers_34 (by assumption) (by first | assumption | exact hC.2.2.2 _ zhm) ?_
            refine t_astore2 dX0_isAheadOfAllOthers_37 (by decide) okp_r ?_
            refine pw_goto 5 dX0_isAheadOfAllOthers_38 (by decide) ?_
            refine ih n' (by omega) (m + 1) (by omega) (fun o h1 h2 h3 => ?_)
            rcases Nat.lt_or_ge o m with z | z
            · exact hf o z h2 h3
            · have zom : o = m := by omega
              subst zom
              exact absurd h3 zc19
          · refine t_aload0 dX0_isAheadOfAllOthers_22 ?_
            refine t_aload2 dX0_isAheadOfAllOthers_23 ?_
            refine t_aload1 dX0_isAheadOfAllOthers_24 ?_
            refine g_callV2P (C_ahead (l := l) hlt hC hR zhm hw) rfl ft0 rfl mc_X0_turnsAheadOf ml_X0_109 mi_X0_turnsAheadOf ms_X0_turnsAheadOf in_X0 (okc_X0_turnsAheadOf (by decide)) dX0_isAheadOfAllOthers_25 (by assumption) (cat_le (Nat.le_of_ble_eq_true rfl)) ?_
            refine pw_if_eq 33 dX0_isAheadOfAllOthers_28 (by decide) (fun zc28 => ?_) (fun zc28 => ?_)
            · refine t_aload2 dX0_isAheadOfAllOthers_33 ?_
              refine g_getr ft2 fl_X0_61 (j := 1) (by decide) dX0_isAheadOfAllOthers_34 (by assumption) (by first | assumption | exact hC.2.2.2 _ zhm) ?_
              refine t_astore2 dX0_isAheadOfAllOthers_37 (by decide) okp_r ?_
              refine pw_goto 5 dX0_isAheadOfAllOthers_38 (by decide) ?_
              refine ih n' (by omega) (m + 1) (by omega) (fun o h1 h2 h3 => ?_)
              rcases Nat.lt_or_ge o m with z | z
              · exact hf o z h2 h3
              · have zom : o = m := by omega
                subst zom
                exact bI_0.mp zc28
            · refine pw_iconst (0) dX0_isAheadOfAllOthers_31 (by decide) ?_
              refine pw_zret dX0_isAheadOfAllOthers_32 rfl ?_ ?_
              · first | rfl | exact bI_n
              · refine ⟨rfl, ?_, rfl, rfl, rfl⟩
                rw [bI_f]
                intro z
                exact zc28 (bI_f (z m zhm (fun e => zc11 (by rw [e])) (Classical.not_not.mp zc19)))
  refine t_aload0 dX0_isAheadOfAllOthers_0 ?_
  refine g_getr ft0 fl_X0_53 (j := 0) (by decide) dX0_isAheadOfAllOthers_1 (by assumption) (hC.2.1) ?_
  refine t_astore2 dX0_isAheadOfAllOthers_4 (by decide) okp_r ?_
  exact loop 5 0 rfl (fun o h => absurd h (Nat.not_lt_zero _))
def chS (S : CS) : Option Nat := fdN (fun m => rsF S m = 0 ∧ chP S m) 5 0
set_option maxHeartbeats 4000000 in
set_option maxRecDepth 100000 in
theorem C_aheadOfAll {l : Launch} (hlt : l.stackTraces = false) {im : TI} {rm : TP} {lm : TL} {c : Nat} {S : CS} (hC : isC rm c) (hR : CR c S im) : Con l m_X0_millAheadOfAll 4 0 0 NN [pv (some c)] im rm lm (QP (pv (gm c (chS S))) im rm lm) noX := by
  have hkc := hC.1
  refine Con.ofN (k := 1) (L0 := [some (pv (some c)), none]) hlt (by decide +kernel) rfl rfl (by rw [en1 pv_cat, en0]; exact Nat.le_of_ble_eq_true rfl) (by rw [en1 pv_cat, en0]; rfl) ?_
  have loop : ∀ (n m : Nat) , n = 5 - m → chS S = fdN (fun m => rsF S m = 0 ∧ chP S m) n m → PW l m_X0_millAheadOfAll 4 0 0 NN 5 [some (pv (some c)), some (pv (mo c m))] [] im rm lm (QP (pv (gm c (chS S))) im rm lm) noX := by
    intro n
    induction n using Nat.strongRecOn with
    | _ n ih =>
      intro m  hn hf
      refine t_aload1 dX0_millAheadOfAll_5 ?_
      refine pw_ifnull 35 dX0_millAheadOfAll_6 (by decide) (fun zc6 => ?_) (fun zy6 zc6 => ?_)
      · have zm5 := mo_none zc6
        have zn : n = 0 := by omega
        subst zn
        refine g_null dX0_millAheadOfAll_35 ?_
        refine pw_aret dX0_millAheadOfAll_36 rfl ?_
        exact ⟨rfl, by rw [hf]; rfl, rfl, rfl, rfl⟩
      · obtain ⟨zhm, rfl⟩ := mo_some zc6
        rw [mo_of zhm]
        have hkm := ck_of hC zhm
        have hM := hC.2.2.1 m zhm
        obtain ⟨n', rfl⟩ : ∃ n', n = n' + 1 := ⟨n - 1, by omega⟩
        refine t_aload0 dX0_millAheadOfAll_9 ?_
        refine t_aload1 dX0_millAheadOfAll_10 ?_
        refine g_callV1P (C_reason (l := l) hlt hC hR zhm) rfl ft0 rfl mc_X0_reasonToRest ml_X0_105 mi_X0_reasonToRest ms_X0_reasonToRest in_X0 (okc_X0_reasonToRest (by decide)) dX0_millAheadOfAll_11 (by assumption) (cat_le (Nat.le_of_ble_eq_true rfl)) ?_
        refine pw_if_ne 27 dX0_millAheadOfAll_14 (by decide) (fun zc14 => ?_) (fun zc14 => ?_)
        · refine t_aload1 dX0_millAheadOfAll_27 ?_
          refine g_getr ft2 fl_X0_61 (j := 1) (by decide) dX0_millAheadOfAll_28 (by assumption) (by first | assumption | exact hC.2.2.2 _ zhm) ?_
          refine t_astore1 dX0_millAheadOfAll_31 (by decide) okp_r ?_
          refine pw_goto 5 dX0_millAheadOfAll_32 (by decide) ?_
          exact ih n' (by omega) (m + 1) (by omega) (by rw [hf, fdN, if_neg (fun z => zc14 z.1)])
        · refine t_aload0 dX0_millAheadOfAll_17 ?_
          refine t_aload1 dX0_millAheadOfAll_18 ?_
          refine g_callV1P (C_isAhead (l := l) hlt hC hR zhm) rfl ft0 rfl mc_X0_isAheadOfAllOthers ml_X0_113 mi_X0_isAheadOfAllOthers ms_X0_isAheadOfAllOthers in_X0 (okc_X0_isAheadOfAllOthers (by decide)) dX0_millAheadOfAll_19 (by assumption) (cat_le (Nat.le_of_ble_eq_true rfl)) ?_
          refine pw_if_eq 27 dX0_millAheadOfAll_22 (by decide) (fun zc22 => ?_) (fun zc22 => ?_)
          · refine t_aload1 dX0_millAheadOfAll_27 ?_
            refine g_getr ft2 fl_X0_61 (j := 1) (by decide) dX0_millAheadOfAll_28 (by assumption) (by first | assumption | exact hC.2.2.2 _ zhm) ?_
            refine t_astore1 dX0_millAheadOfAll_31 (by decide) okp_r ?_
            refine pw_goto 5 dX0_millAheadOfAll_32 (by decide) ?_
            exact ih n' (by omega) (m + 1) (by omega) (by rw [hf, fdN, if_neg (fun z => (bI_0.mp zc22) z.2)])
          · refine t_aload1 dX0_millAheadOfAll_25 ?_
            refine pw_aret dX0_millAheadOfAll_26 rfl ?_
            exact ⟨rfl, by rw [hf, fdN, if_pos ⟨Classical.not_not.mp zc14, Classical.not_not.mp (fun z => zc22 (bI_f z))⟩]; rfl, rfl, rfl, rfl⟩
  refine t_aload0 dX0_millAheadOfAll_0 ?_
  refine g_getr ft0 fl_X0_53 (j := 0) (by decide) dX0_millAheadOfAll_1 (by assumption) (hC.2.1) ?_
  refine t_astore1 dX0_millAheadOfAll_4 (by decide) okp_r ?_
  exact loop 5 0 rfl rfl
/-- a sum over n mills from m on, onto x -/
def smN (g : Nat → Int32) : Nat → Nat → Int32 → Int32
  | 0, _, x => x
  | n + 1, m, x => smN g n (m + 1) (x + g m)
set_option maxHeartbeats 4000000 in
set_option maxRecDepth 100000 in
theorem C_water {l : Launch} (hlt : l.stackTraces = false) {im : TI} {rm : TP} {lm : TL} {c : Nat} {S : CS} (hC : isC rm c) (hR : CR c S im) : Con l m_X0_waterInPonds 1 0 0 NN [pv (some c)] im rm lm (QP (.int (smN (fun m => S.2.1 m 1) 5 0 0)) im rm lm) noX := by
  have hkc := hC.1
  refine Con.ofN (k := 2) (L0 := [some (pv (some c)), none, none]) hlt (by decide +kernel) rfl rfl (by rw [en1 pv_cat, en0]; exact Nat.le_of_ble_eq_true rfl) (by rw [en1 pv_cat, en0]; rfl) ?_
  have loop : ∀ (n m : Nat) (x : Int32), n = 5 - m → smN (fun m => S.2.1 m 1) 5 0 0 = smN (fun m => S.2.1 m 1) n m x → PW l m_X0_waterInPonds 1 0 0 NN 7 [some (pv (some c)), some (.int x), some (pv (mo c m))] [] im rm lm (QP (.int (smN (fun m => S.2.1 m 1) 5 0 0)) im rm lm) noX := by
    intro n
    induction n using Nat.strongRecOn with
    | _ n ih =>
      intro m x hn hf
      refine t_aload2 dX0_waterInPonds_7 ?_
      refine pw_ifnull 26 dX0_waterInPonds_8 (by decide) (fun zc8 => ?_) (fun zy8 zc8 => ?_)
      · have zm5 := mo_none zc8
        have zn : n = 0 := by omega
        subst zn
        refine t_iload1 dX0_waterInPonds_26 ?_
        refine pw_iret dX0_waterInPonds_27 rfl ?_
        exact ⟨rfl, by rw [hf]; rfl, rfl, rfl, rfl⟩
      · obtain ⟨zhm, rfl⟩ := mo_some zc8
        rw [mo_of zhm]
        have hkm := ck_of hC zhm
        have hM := hC.2.2.1 m zhm
        obtain ⟨n', rfl⟩ : ∃ n', n = n' + 1 := ⟨n - 1, by omega⟩
        refine t_iload1 dX0_waterInPonds_11 ?_
        refine t_aload2 dX0_waterInPonds_12 ?_
        refine g_geti ft2 fl_X0_78 (j := 3) (by decide) dX0_waterInPonds_13 (by assumption) ?_
        refine pw_iadd dX0_waterInPonds_16 ?_
        refine t_istore1 dX0_waterInPonds_17 (by decide) okp_r ?_
        refine t_aload2 dX0_waterInPonds_18 ?_
        refine g_getr ft2 fl_X0_61 (j := 1) (by decide) dX0_waterInPonds_19 (by assumption) (by first | assumption | exact hC.2.2.2 _ zhm) ?_
        refine t_astore2 dX0_waterInPonds_22 (by decide) okp_i ?_
        refine pw_goto 7 dX0_waterInPonds_23 (by decide) ?_
        rw [(hR.2 m zhm).2.1 1 (by decide)]
        exact ih n' (by omega) (m + 1) _ (by omega) (by rw [hf, smN])
  refine pw_iconst (0) dX0_waterInPonds_0 (by decide) ?_
  refine t_istore1 dX0_waterInPonds_1 (by decide) okp_r ?_
  refine t_aload0 dX0_waterInPonds_2 ?_
  refine g_getr ft0 fl_X0_53 (j := 0) (by decide) dX0_waterInPonds_3 (by assumption) (hC.2.1) ?_
  refine t_astore2 dX0_waterInPonds_6 (by decide) okp_i ?_
  exact loop 5 0 0 rfl rfl
set_option maxHeartbeats 4000000 in
set_option maxRecDepth 100000 in
theorem C_atMills {l : Launch} (hlt : l.stackTraces = false) {im : TI} {rm : TP} {lm : TL} {c : Nat} {S : CS} (hC : isC rm c) (hR : CR c S im) : Con l m_X0_sacksAtMills 1 0 0 NN [pv (some c)] im rm lm (QP (.int (smN (fun m => S.2.1 m 9) 5 0 0)) im rm lm) noX := by
  have hkc := hC.1
  refine Con.ofN (k := 2) (L0 := [some (pv (some c)), none, none]) hlt (by decide +kernel) rfl rfl (by rw [en1 pv_cat, en0]; exact Nat.le_of_ble_eq_true rfl) (by rw [en1 pv_cat, en0]; rfl) ?_
  have loop : ∀ (n m : Nat) (x : Int32), n = 5 - m → smN (fun m => S.2.1 m 9) 5 0 0 = smN (fun m => S.2.1 m 9) n m x → PW l m_X0_sacksAtMills 1 0 0 NN 7 [some (pv (some c)), some (.int x), some (pv (mo c m))] [] im rm lm (QP (.int (smN (fun m => S.2.1 m 9) 5 0 0)) im rm lm) noX := by
    intro n
    induction n using Nat.strongRecOn with
    | _ n ih =>
      intro m x hn hf
      refine t_aload2 dX0_sacksAtMills_7 ?_
      refine pw_ifnull 26 dX0_sacksAtMills_8 (by decide) (fun zc8 => ?_) (fun zy8 zc8 => ?_)
      · have zm5 := mo_none zc8
        have zn : n = 0 := by omega
        subst zn
        refine t_iload1 dX0_sacksAtMills_26 ?_
        refine pw_iret dX0_sacksAtMills_27 rfl ?_
        exact ⟨rfl, by rw [hf]; rfl, rfl, rfl, rfl⟩
      · obtain ⟨zhm, rfl⟩ := mo_some zc8
        rw [mo_of zhm]
        have hkm := ck_of hC zhm
        have hM := hC.2.2.1 m zhm
        obtain ⟨n', rfl⟩ : ∃ n', n = n' + 1 := ⟨n - 1, by omega⟩
        refine t_iload1 dX0_sacksAtMills_11 ?_
        refine t_aload2 dX0_sacksAtMills_12 ?_
        refine g_geti ft2 fl_X0_81 (j := 11) (by decide) dX0_sacksAtMills_13 (by assumption) ?_
        refine pw_iadd dX0_sacksAtMills_16 ?_
        refine t_istore1 dX0_sacksAtMills_17 (by decide) okp_r ?_
        refine t_aload2 dX0_sacksAtMills_18 ?_
        refine g_getr ft2 fl_X0_61 (j := 1) (by decide) dX0_sacksAtMills_19 (by assumption) (by first | assumption | exact hC.2.2.2 _ zhm) ?_
        refine t_astore2 dX0_sacksAtMills_22 (by decide) okp_i ?_
        refine pw_goto 7 dX0_sacksAtMills_23 (by decide) ?_
        rw [(hR.2 m zhm).2.1 9 (by decide)]
        exact ih n' (by omega) (m + 1) _ (by omega) (by rw [hf, smN])
  refine pw_iconst (0) dX0_sacksAtMills_0 (by decide) ?_
  refine t_istore1 dX0_sacksAtMills_1 (by decide) okp_r ?_
  refine t_aload0 dX0_sacksAtMills_2 ?_
  refine g_getr ft0 fl_X0_53 (j := 0) (by decide) dX0_sacksAtMills_3 (by assumption) (hC.2.1) ?_
  refine t_astore2 dX0_sacksAtMills_6 (by decide) okp_i ?_
  exact loop 5 0 0 rfl rfl

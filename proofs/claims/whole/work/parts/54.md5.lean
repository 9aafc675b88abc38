/-! TideMillsModel: an hour, hours, gears, sacks that come -/
theorem nI_m1 {q : Nat} (h : q < 2 ^ 31) : ¬ nI q = -1 := fun e => by
  have h1 := nI_pos h
  rw [e] at h1
  exact absurd (by decide) h1
theorem tmS_nm {S : CS} : upG (upG S 1 (-1 + 1)) 2 ((upG S 1 (-1 + 1)).1 2 + 1) = tmS S none := rfl
theorem lwS_CW {S : CS} (h : CW S) (n m : Nat) : CW (lwS n m S) := ⟨h.1.keep fun _ _ => lwS_f9 n m S, h.2.1.keep fun a w _ hw => lwS_f (by omega) n m S, h.2.2.keep (lwS_g (by decide) n m S) fun a _ => lwS_f (by decide) n m S⟩
theorem CW.g0 {S : CS} {x : Int32} (h : CW S) : CW (upG S 0 x) := ⟨h.1.keep fun _ _ => rfl, h.2.1.keep fun _ _ _ _ => rfl, h.2.2.keep rfl fun _ _ => rfl⟩
set_option maxHeartbeats 4000000 in
set_option maxRecDepth 100000 in
theorem M_hour {l : Launch} (hlt : l.stackTraces = false) {im : TI} {rm : TP} {lm : TL} {i0 : TI} {S : CS} (hM : MM rm) (hR : MS i0 S im) (hW : CW S) : Con l m_X5_hour 5 0 0 NN [pv (some 240)] im rm lm (QV (fun im2 => MS i0 (hoS S) im2) rm lm) noX := by
  have hk0 := kdM
  have hks := kds
  obtain ⟨r0, r1, r3, r5, r6, r11⟩ := id hM
  refine Con.ofN (k := 1) (L0 := [some (pv (some 240)), none]) hlt (by decide +kernel) rfl rfl (by rw [en1 pv_cat, en0]; exact Nat.le_of_ble_eq_true rfl) (by rw [en1 pv_cat, en0]; rfl) ?_
  have finN : ∀ (S2 : CS) (imk : TI) (ho : bhN S2 none 5 0 none = none), MS i0 S2 imk → CW S2 → hoS S = tmS S2 (bhN S2 none 5 0 none) → PW l m_X5_hour 5 0 0 NN 28 [some (pv (some 240)), none] [] imk rm lm (QV (fun im2 => MS i0 (hoS S) im2) rm lm) noX := by
    intro S2 imk ho hR hW2 hf
    refine t_aload0 dX5_hour_28 ?_
    refine pw_iconst (0) dX5_hour_29 (by decide) ?_
    refine g_callV1P (M_ranked (l := l) hlt hM hR hW2.1 hW2.2.1) rfl ft5 rfl mc_X5_ranked ml_X5_85 mi_X5_ranked ms_X5_ranked in_X5 (okc_X5_ranked (by decide)) dX5_hour_30 (by assumption) (cat_le (Nat.le_of_ble_eq_true rfl)) ?_
    rw [rk0, ho, show oI none = -1 from rfl]
    refine t_istore1 dX5_hour_33 (by decide) okp_r ?_
    refine t_aload0 dX5_hour_34 ?_
    refine g_getr ft5 fl_X5_7 (j := 0) (by decide) dX5_hour_35 (by assumption) (by assumption) ?_
    refine pw_iconst (1) dX5_hour_38 (by decide) ?_
    refine t_iload1 dX5_hour_39 ?_
    refine pw_iconst (1) dX5_hour_40 (by decide) ?_
    refine pw_iadd dX5_hour_41 ?_
    refine m_stG (j := 1) dX5_hour_42 hR rfl (by decide) (fun zi42 hR => ?_)
    refine t_iload1 dX5_hour_43 ?_
    refine pw_iconst (-1) dX5_hour_44 (by decide) ?_
    refine pw_icmp_ne 61 dX5_hour_45 (by decide) (fun h => absurd h (by decide)) (fun _ => ?_)
    refine t_aload0 dX5_hour_48 ?_
    refine g_getr ft5 fl_X5_7 (j := 0) (by decide) dX5_hour_49 (by assumption) (by assumption) ?_
    refine pw_iconst (2) dX5_hour_52 (by decide) ?_
    refine pw_dup2 dX5_hour_53 rfl pv_cat ?_
    refine m_ldG (j := 2) dX5_hour_54 hR rfl (by decide) ?_
    refine pw_iconst (1) dX5_hour_55 (by decide) ?_
    refine pw_iadd dX5_hour_56 ?_
    refine m_stG (j := 2) dX5_hour_57 hR rfl (by decide) (fun zi57 hR => ?_)
    refine pw_goto 66 dX5_hour_58 (by decide) ?_
    refine pw_vret dX5_hour_66 rfl ?_
    exact ⟨rfl, rfl, rfl, rfl, hR.eq (by rw [hf, ho]; exact tmS_nm)⟩
  have finS : ∀ (S2 : CS) (imk : TI) (q : Nat) (hq5 : q < 5) (ho : bhN S2 none 5 0 none = some q), MS i0 S2 imk → CW S2 → hoS S = tmS S2 (bhN S2 none 5 0 none) → PW l m_X5_hour 5 0 0 NN 28 [some (pv (some 240)), none] [] imk rm lm (QV (fun im2 => MS i0 (hoS S) im2) rm lm) noX := by
    intro S2 imk q hq5 ho hR hW2 hf
    refine t_aload0 dX5_hour_28 ?_
    refine pw_iconst (0) dX5_hour_29 (by decide) ?_
    refine g_callV1P (M_ranked (l := l) hlt hM hR hW2.1 hW2.2.1) rfl ft5 rfl mc_X5_ranked ml_X5_85 mi_X5_ranked ms_X5_ranked in_X5 (okc_X5_ranked (by decide)) dX5_hour_30 (by assumption) (cat_le (Nat.le_of_ble_eq_true rfl)) ?_
    rw [rk0, ho, show oI (some q) = nI q from rfl]
    refine t_istore1 dX5_hour_33 (by decide) okp_r ?_
    refine t_aload0 dX5_hour_34 ?_
    refine g_getr ft5 fl_X5_7 (j := 0) (by decide) dX5_hour_35 (by assumption) (by assumption) ?_
    refine pw_iconst (1) dX5_hour_38 (by decide) ?_
    refine t_iload1 dX5_hour_39 ?_
    refine pw_iconst (1) dX5_hour_40 (by decide) ?_
    refine pw_iadd dX5_hour_41 ?_
    refine m_stG (j := 1) dX5_hour_42 hR rfl (by decide) (fun zi42 hR => ?_)
    refine t_iload1 dX5_hour_43 ?_
    refine pw_iconst (-1) dX5_hour_44 (by decide) ?_
    refine pw_icmp_ne 61 dX5_hour_45 (by decide) (fun zc45 => ?_) (fun zc45 => ?_)
    · refine t_aload0 dX5_hour_61 ?_
      refine t_iload1 dX5_hour_62 ?_
      refine g_callV1V (M_turn (l := l) hlt hM hR (hW2.1.keep fun _ _ => rfl) (hW2.2.1.keep fun _ _ _ _ => rfl) (m := q) hq5) rfl ft5 rfl mc_X5_turn ml_X5_88 mi_X5_turn ms_X5_turn in_X5 (okc_X5_turn (by decide)) dX5_hour_63 (by assumption) (cat_le (Nat.le_of_ble_eq_true rfl)) (fun zim63 zh63 => ?_)
      have hR := zh63
      refine pw_vret dX5_hour_66 rfl ?_
      exact ⟨rfl, rfl, rfl, rfl, hR.eq (by rw [hf, ho]; exact tmS_s.symm)⟩
    · exact absurd (Classical.not_not.mp zc45) (nI_m1 (by omega))
  have loop : ∀ (n j : Nat) (Sk : CS) (imk : TI), j + n = 5 → MS i0 Sk imk → CW Sk → lwS 5 0 (upG S 0 (S.1 0 + 1)) = lwS n j Sk → PW l m_X5_hour 5 0 0 NN 12 [some (pv (some 240)), some (.int (nI j))] [] imk rm lm (QV (fun im2 => MS i0 (hoS S) im2) rm lm) noX := by
    intro n
    induction n using Nat.strongRecOn with
    | _ n ih =>
      intro j Sk imk hj hR hk hf
      refine t_iload1 dX5_hour_12 ?_
      refine pw_iconst (5) dX5_hour_13 (by decide) ?_
      refine pw_icmp_ge 28 dX5_hour_14 (by decide) (fun zc14 => ?_) (fun zc14 => ?_)
      · have zj : 5 ≤ j := (nI_leI (a := 5) (by decide) (by omega)).mp zc14
        have zn : n = 0 := by omega
        subst zn
        have hf2 : hoS S = tmS Sk (bhN Sk none 5 0 none) := by
          show tmS (lwS 5 0 (upG S 0 (S.1 0 + 1))) (bhN (lwS 5 0 (upG S 0 (S.1 0 + 1))) none 5 0 none) = _
          rw [hf]; rfl
        refine PW.sub (L' := [some (pv (some 240)), none]) (s_e (s_n s_z)) ?_
        rcases ho : bhN Sk none 5 0 none with _ | q
        · exact finN Sk imk ho hR hk hf2
        · exact finS Sk imk q (bhN_lt 5 0 none (by omega) (fun _ z => by cases z) q ho) ho hR hk hf2
      · have zj : j < 5 := (nI_ltI (b := 5) (by omega) (by decide)).mp (Int32.not_le.mp zc14)
        obtain ⟨n', rfl⟩ : ∃ n', n = n' + 1 := ⟨n - 1, by omega⟩
        refine t_aload0 dX5_hour_17 ?_
        refine t_iload1 dX5_hour_18 ?_
        refine g_callV1V (M_fill (l := l) hlt hM hR hk.2.2 zj) rfl ft5 rfl mc_X5_fill ml_X5_81 mi_X5_fill ms_X5_fill in_X5 (okc_X5_fill (by decide)) dX5_hour_19 (by assumption) (cat_le (Nat.le_of_ble_eq_true rfl)) (fun zim19 zh19 => ?_)
        have hR := zh19
        refine t_iinc1 (1) dX5_hour_22 (by decide) (by decide) okp_r ?_
        refine pw_goto 12 dX5_hour_25 (by decide) ?_
        rw [nI_1]
        exact ih n' (by omega) (j + 1) (liS Sk j) _ (by omega) hR (lwS_CW hk 1 j) (by rw [hf]; rfl)
  refine t_aload0 dX5_hour_0 ?_
  refine g_getr ft5 fl_X5_7 (j := 0) (by decide) dX5_hour_1 (by assumption) (by assumption) ?_
  refine pw_iconst (0) dX5_hour_4 (by decide) ?_
  refine pw_dup2 dX5_hour_5 rfl pv_cat ?_
  refine m_ldG (j := 0) dX5_hour_6 hR rfl (by decide) ?_
  refine pw_iconst (1) dX5_hour_7 (by decide) ?_
  refine pw_iadd dX5_hour_8 ?_
  refine m_stG (j := 0) dX5_hour_9 hR rfl (by decide) (fun zi9 hR => ?_)
  refine pw_iconst (0) dX5_hour_10 (by decide) ?_
  refine t_istore1 dX5_hour_11 (by decide) okp_r ?_
  exact loop 5 0 _ _ rfl hR hW.g0 rfl
set_option maxHeartbeats 4000000 in
set_option maxRecDepth 100000 in
theorem M_hours {l : Launch} (hlt : l.stackTraces = false) {im : TI} {rm : TP} {lm : TL} {i0 : TI} {S : CS} (hM : MM rm) (hR : MS i0 S im) (hW : CW S) {N : Nat} (hN : N < 2 ^ 31) : Con l m_X5_hours 6 0 0 NN [pv (some 240), .int (nI N)] im rm lm (QI (fun x im2 => x = (hsS N S).1 6 - S.1 6 ∧ MS i0 (hsS N S) im2) rm lm) noX := by
  have hk0 := kdM
  have hks := kds
  obtain ⟨r0, r1, r3, r5, r6, r11⟩ := id hM
  refine Con.ofN (k := 2) (L0 := [some (pv (some 240)), some (.int (nI N)), none, none]) hlt (by decide +kernel) rfl rfl (by rw [en1 pv_cat, en1 rfl, en0]; exact Nat.le_of_ble_eq_true rfl) (by rw [en1 pv_cat, en1 rfl, en0]; rfl) ?_
  have loop : ∀ (z j : Nat) (imk : TI), j + z = N → MS i0 (hsS j S) imk → PW l m_X5_hours 6 0 0 NN 10 [some (pv (some 240)), some (.int (nI N)), some (.int (S.1 6)), some (.int (nI j))] [] imk rm lm (QI (fun x im2 => x = (hsS N S).1 6 - S.1 6 ∧ MS i0 (hsS N S) im2) rm lm) noX := by
    intro z
    induction z using Nat.strongRecOn with
    | _ z ih =>
      intro j imk hj hR
      refine t_iload3 dX5_hours_10 ?_
      refine t_iload1 dX5_hours_11 ?_
      refine pw_icmp_ge 25 dX5_hours_12 (by decide) (fun zc12 => ?_) (fun zc12 => ?_)
      · have zj : N ≤ j := (nI_leI hN (by omega)).mp zc12
        have ej : j = N := by omega
        subst ej
        refine t_aload0 dX5_hours_25 ?_
        refine g_getr ft5 fl_X5_7 (j := 0) (by decide) dX5_hours_26 (by assumption) (by assumption) ?_
        refine pw_bipush (6) dX5_hours_29 (by decide) ?_
        refine m_ldG (j := 6) dX5_hours_31 hR rfl (by decide) ?_
        refine t_iload2 dX5_hours_32 ?_
        refine pw_isub dX5_hours_33 ?_
        refine pw_iret dX5_hours_34 rfl ?_
        exact ⟨rfl, rfl, rfl, _, rfl, rfl, hR⟩
      · have zj : j < N := (nI_ltI (by omega) hN).mp (Int32.not_le.mp zc12)
        refine t_aload0 dX5_hours_15 ?_
        refine g_callV0V (M_hour (l := l) hlt hM hR (hW.hours j)) rfl ft5 rfl mc_X5_hour ml_X5_91 mi_X5_hour ms_X5_hour in_X5 (okc_X5_hour (by decide)) dX5_hours_16 (by assumption) (cat_le (Nat.le_of_ble_eq_true rfl)) (fun zim16 zh16 => ?_)
        have hR := zh16
        skip
        refine t_iinc3 (1) dX5_hours_19 (by decide) (by decide) okp_i ?_
        refine pw_goto 10 dX5_hours_22 (by decide) ?_
        rw [nI_1]
        exact ih (z - 1) (by omega) (j + 1) _ (by omega) (by rw [hsS_succ]; exact hR)
  refine t_aload0 dX5_hours_0 ?_
  refine g_getr ft5 fl_X5_7 (j := 0) (by decide) dX5_hours_1 (by assumption) (by assumption) ?_
  refine pw_bipush (6) dX5_hours_4 (by decide) ?_
  refine m_ldG (j := 6) dX5_hours_6 hR rfl (by decide) ?_
  refine t_istore2 dX5_hours_7 (by decide) okp_i ?_
  refine pw_iconst (0) dX5_hours_8 (by decide) ?_
  refine t_istore3 dX5_hours_9 (by decide) okp_i ?_
  exact loop N 0 im (by omega) hR
set_option maxHeartbeats 4000000 in
set_option maxRecDepth 100000 in
theorem M_gears {l : Launch} (hlt : l.stackTraces = false) {im : TI} {rm : TP} {lm : TL} {i0 : TI} {S : CS} (hM : MM rm) (hR : MS i0 S im) {m : Nat} {a b : Int32} (hm : m < 5) (hb : ¬ b = 0) : Con l m_X5_gears 1 0 0 NN [pv (some 240), .int (nI m), .int (a), .int (b)] im rm lm (QI (fun x im2 => x = 100 * a / b ∧ MS i0 (upF (upF S m 5 a) m 6 b) im2) rm lm) noX := by
  have hk0 := kdM
  have hks := kds
  obtain ⟨r0, r1, r3, r5, r6, r11⟩ := id hM
  refine Con.ofN (k := 0) (L0 := [some (pv (some 240)), some (.int (nI m)), some (.int (a)), some (.int (b))]) hlt (by decide +kernel) rfl rfl (by rw [en1 pv_cat, en1 rfl, en1 rfl, en1 rfl, en0]; exact Nat.le_of_ble_eq_true rfl) (by rw [en1 pv_cat, en1 rfl, en1 rfl, en1 rfl, en0]; rfl) ?_
  refine t_aload0 dX5_gears_0 ?_
  refine t_iload1 dX5_gears_1 ?_
  refine pw_iconst (5) dX5_gears_2 (by decide) ?_
  refine t_iload2 dX5_gears_3 ?_
  refine g_callV3V (M_put (l := l) hlt hM hR (m := m) (w := 5) hm (by decide)) rfl ft5 rfl mc_X5_put ml_X5_28 mi_X5_put ms_X5_put in_X5 (okc_X5_put (by decide)) dX5_gears_4 (by assumption) (cat_le (Nat.le_of_ble_eq_true rfl)) (fun zim4 zh4 => ?_)
  have hR := zh4
  refine t_aload0 dX5_gears_7 ?_
  refine t_iload1 dX5_gears_8 ?_
  refine pw_bipush (6) dX5_gears_9 (by decide) ?_
  refine t_iload3 dX5_gears_11 ?_
  refine g_callV3V (M_put (l := l) hlt hM hR (m := m) (w := 6) hm (by decide)) rfl ft5 rfl mc_X5_put ml_X5_28 mi_X5_put ms_X5_put in_X5 (okc_X5_put (by decide)) dX5_gears_12 (by assumption) (cat_le (Nat.le_of_ble_eq_true rfl)) (fun zim12 zh12 => ?_)
  have hR := zh12
  refine pw_bipush (100) dX5_gears_15 (by decide) ?_
  refine t_iload2 dX5_gears_17 ?_
  refine pw_imul dX5_gears_18 ?_
  refine t_iload3 dX5_gears_19 ?_
  refine pw_idiv dX5_gears_20 hb ?_
  refine pw_iret dX5_gears_21 rfl ?_
  exact ⟨rfl, rfl, rfl, _, rfl, rfl, hR⟩
set_option maxHeartbeats 4000000 in
set_option maxRecDepth 100000 in
theorem M_hasRoom {l : Launch} (hlt : l.stackTraces = false) {im : TI} {rm : TP} {lm : TL} {i0 : TI} {S : CS} (hM : MM rm) (hR : MS i0 S im) {m : Nat} (hm : m < 5) : Con l m_X5_hasRoom 1 0 0 NN [pv (some 240), .int (nI m)] im rm lm (QP (.int (bI (hrP S m))) im rm lm) noX := by
  have hk0 := kdM
  have hks := kds
  obtain ⟨r0, r1, r3, r5, r6, r11⟩ := id hM
  refine Con.ofN (k := 0) (L0 := [some (pv (some 240)), some (.int (nI m))]) hlt (by decide +kernel) rfl rfl (by rw [en1 pv_cat, en1 rfl, en0]; exact Nat.le_of_ble_eq_true rfl) (by rw [en1 pv_cat, en1 rfl, en0]; rfl) ?_
  refine t_aload0 dX5_hasRoom_0 ?_
  refine t_iload1 dX5_hasRoom_1 ?_
  refine pw_bipush (9) dX5_hasRoom_2 (by decide) ?_
  refine g_callV2P (M_of (l := l) hlt hM hR (m := m) (w := 9) hm (by decide)) rfl ft5 rfl mc_X5_of ml_X5_47 mi_X5_of ms_X5_of in_X5 (okc_X5_of (by decide)) dX5_hasRoom_4 (by assumption) (cat_le (Nat.le_of_ble_eq_true rfl)) ?_
  refine pw_bipush (6) dX5_hasRoom_7 (by decide) ?_
  refine pw_icmp_ge 28 dX5_hasRoom_9 (by decide) (fun zc9 => ?_) (fun zc9 => ?_)
  · refine pw_iconst (0) dX5_hasRoom_28 (by decide) ?_
    refine pw_zret dX5_hasRoom_29 rfl ?_ ?_
    · first | rfl | exact bI_n
    · exact ⟨rfl, by rw [bI_f (fun z => Int32.not_lt.mpr zc9 z.1)], rfl, rfl, rfl⟩
  · refine t_aload0 dX5_hasRoom_12 ?_
    refine g_getr ft5 fl_X5_7 (j := 0) (by decide) dX5_hasRoom_13 (by assumption) (by assumption) ?_
    refine pw_iconst (5) dX5_hasRoom_16 (by decide) ?_
    refine m_ldG (j := 5) dX5_hasRoom_17 hR rfl (by decide) ?_
    refine pw_sipush (999) dX5_hasRoom_18 (by decide) ?_
    refine pw_icmp_ge 28 dX5_hasRoom_21 (by decide) (fun zc21 => ?_) (fun zc21 => ?_)
    · refine pw_iconst (0) dX5_hasRoom_28 (by decide) ?_
      refine pw_zret dX5_hasRoom_29 rfl ?_ ?_
      · first | rfl | exact bI_n
      · exact ⟨rfl, by rw [bI_f (fun z => Int32.not_lt.mpr zc21 z.2)], rfl, rfl, rfl⟩
    · refine pw_iconst (1) dX5_hasRoom_24 (by decide) ?_
      refine pw_goto 29 dX5_hasRoom_25 (by decide) ?_
      refine pw_zret dX5_hasRoom_29 rfl ?_ ?_
      · first | rfl | exact bI_n
      · exact ⟨rfl, by rw [bI_t ⟨Int32.not_le.mp zc9, Int32.not_le.mp zc21⟩], rfl, rfl, rfl⟩
set_option maxHeartbeats 4000000 in
set_option maxRecDepth 100000 in
theorem M_come {l : Launch} (hlt : l.stackTraces = false) {im : TI} {rm : TP} {lm : TL} {i0 : TI} {S : CS} (hM : MM rm) (hR : MS i0 S im) (hI : CI S) {m : Nat} {h due : Int32} (hm : m < 5) (hn6 : cnt S m < 6) (hk : bkN S m due (S.1 5) (cnt S m) = plS S m (S.1 5) due) : Con l m_X5_come 2 0 0 NN [pv (some 240), .int (nI m), .int (h), .int (due)] im rm lm (QI (fun x im2 => x = S.1 5 ∧ MS i0 (brS S m h due) im2) rm lm) noX := by
  have hk0 := kdM
  have hks := kds
  obtain ⟨r0, r1, r3, r5, r6, r11⟩ := id hM
  refine Con.ofN (k := 1) (L0 := [some (pv (some 240)), some (.int (nI m)), some (.int (h)), some (.int (due)), none]) hlt (by decide +kernel) rfl rfl (by rw [en1 pv_cat, en1 rfl, en1 rfl, en1 rfl, en0]; exact Nat.le_of_ble_eq_true rfl) (by rw [en1 pv_cat, en1 rfl, en1 rfl, en1 rfl, en0]; rfl) ?_
  refine t_aload0 dX5_come_0 ?_
  refine t_iload1 dX5_come_1 ?_
  refine t_aload0 dX5_come_2 ?_
  refine g_getr ft5 fl_X5_7 (j := 0) (by decide) dX5_come_3 (by assumption) (by assumption) ?_
  refine pw_iconst (5) dX5_come_6 (by decide) ?_
  refine m_ldG (j := 5) dX5_come_7 hR rfl (by decide) ?_
  refine t_iload2 dX5_come_8 ?_
  refine t_iload2 dX5_come_9 ?_
  refine t_iload3 dX5_come_10 ?_
  refine g_callV5I (M_insert (l := l) hlt hM hR hm (hI.c hm).2 hn6) rfl ft5 rfl mc_X5_insert ml_X5_111 mi_X5_insert ms_X5_insert in_X5 (okc_X5_insert (by decide)) dX5_come_11 (by assumption) (cat_le (Nat.le_of_ble_eq_true rfl)) (fun zx11 zim11 zh11 => ?_)
  obtain ⟨zx, hR⟩ := zh11
  rw [hk] at hR
  refine t_istore4 dX5_come_14 (by decide) okp_i ?_
  refine t_aload0 dX5_come_16 ?_
  refine g_getr ft5 fl_X5_7 (j := 0) (by decide) dX5_come_17 (by assumption) (by assumption) ?_
  refine pw_iconst (5) dX5_come_20 (by decide) ?_
  refine pw_dup2 dX5_come_21 rfl pv_cat ?_
  refine m_ldG (j := 5) dX5_come_22 hR rfl (by decide) ?_
  refine t_iload4 dX5_come_23 ?_
  refine pw_if_ge 32 dX5_come_25 (by decide) (fun zc25 => ?_) (fun zc25 => ?_)
  · refine pw_iconst (1) dX5_come_32 (by decide) ?_
    refine pw_iadd dX5_come_33 ?_
    refine m_stG (j := 5) dX5_come_34 hR rfl (by decide) (fun zi34 hR => ?_)
    refine t_aload0 dX5_come_35 ?_
    refine g_getr ft5 fl_X5_7 (j := 0) (by decide) dX5_come_36 (by assumption) (by assumption) ?_
    refine pw_iconst (5) dX5_come_39 (by decide) ?_
    refine m_ldG (j := 5) dX5_come_40 hR rfl (by decide) ?_
    refine pw_iconst (1) dX5_come_41 (by decide) ?_
    refine pw_isub dX5_come_42 ?_
    refine pw_iret dX5_come_43 rfl ?_
    exact ⟨rfl, rfl, rfl, _, rfl, i32_as _, hR⟩
  · exact absurd (by rw [zx]; exact nI_pos' (by have := bkN_le (S := S) (m := m) (due := due) (s := S.1 5) (cnt S m); omega)) zc25

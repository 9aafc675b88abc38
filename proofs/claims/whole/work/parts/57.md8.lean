/-! TideMillsModel: what would be -/
def MB (i0 : TI) (S : CS) (im : TI) : Prop := RW (im 241) S ∧ ∀ o, o ≠ 241 → o ≠ 244 → im o = i0 o
theorem MB.s {i0 im : TI} {S : CS} (h : MB i0 S im) : MS im S im := ⟨h.1, fun _ _ => rfl⟩
def bfM (im : TI) : TI := cpM im 241 0 244 0 182
theorem bf_s {im : TI} {S : CS} (h : RW (im 241) S) : MS (bfM im) S (bfM im) := ⟨by unfold bfM; rw [cp_ne (by decide)]; exact h, fun _ _ => rfl⟩
theorem bf_at {im im2 : TI} {S S2 : CS} (h : RW (im 241) S) (g : MS (bfM im) S2 im2) {j : Nat} (hj : j < 182) : im2 244 j = im 241 j := by
  rw [g.2 244 (by decide)]
  have := cp_at (im := im) (a := 241) (f := 0) (b := 244) (t := 0) hj
  rw [Nat.zero_add] at this
  exact this
theorem bf_G {im im2 : TI} {S S2 : CS} (h : RW (im 241) S) (g : MS (bfM im) S2 im2) {j : Nat} (hj : j < 12) : im2 244 j = S.1 j := (bf_at h g (by omega)).trans (h.1 j hj)
theorem bf_back {i0 im im2 : TI} {S S2 : CS} (h : MB i0 S im) (g : MS (bfM im) S2 im2) : MB i0 S (cpM im2 244 0 241 0 182) := by
  refine ⟨h.1.congr fun j hj => ?_, fun o h1 h2 => ?_⟩
  · have := cp_at (im := im2) (a := 244) (f := 0) (b := 241) (t := 0) hj
    rw [Nat.zero_add] at this
    rw [this]
    exact bf_at h.1 g hj
  · rw [cp_ne h1, g.2 o h1]
    unfold bfM
    rw [cp_ne h2]
    exact h.2 o h1 h2
/-- the row put back, to go on with -/
theorem bf_again {im im2 : TI} {S S2 : CS} (h : RW (im 241) S) (g : MS (bfM im) S2 im2) : MS (bfM im) S (cpM im2 244 0 241 0 182) := by
  refine ⟨(bf_back (i0 := im) ⟨h, fun _ _ _ => rfl⟩ g).1, fun o ho => ?_⟩
  rw [cp_ne ho, g.2 o ho]
set_option maxHeartbeats 4000000 in
set_option maxRecDepth 100000 in
theorem M_would0 {l : Launch} (hlt : l.stackTraces = false) {im : TI} {rm : TP} {lm : TL} {i0 : TI} {S : CS} (hM : MM rm) (hB : MB i0 S im) (hW : CW S) {N : Nat} (hN : N < 2 ^ 31) : Con l m_X5_wouldBring 6 0 0 NN [pv (some 240), .int (nI N), .int (0)] im rm lm (QI (fun x im2 => x = (hsS N S).1 6 - S.1 6 ∧ MB i0 S im2) rm lm) noX := by
  have hk0 := kdM
  have hks := kds
  obtain ⟨r0, r1, r3, r5, r6, r11⟩ := id hM
  have hkb := kdb
  refine Con.ofN (k := 2) (L0 := [some (pv (some 240)), some (.int (nI N)), some (.int (0)), none, none]) hlt (by decide +kernel) rfl rfl (by rw [en1 pv_cat, en1 rfl, en1 rfl, en0]; exact Nat.le_of_ble_eq_true rfl) (by rw [en1 pv_cat, en1 rfl, en1 rfl, en0]; rfl) ?_
  have loop : ∀ (z j : Nat) (imk : TI), j + z = N → MS (bfM im) (hsS j S) imk → PW l m_X5_wouldBring 6 0 0 NN 46 [some (pv (some 240)), some (.int (nI N)), some (.int 0), some (.int 6), some (.int (nI j))] [] imk rm lm (QI (fun x im2 => x = (hsS N S).1 6 - S.1 6 ∧ MB i0 S im2) rm lm) noX := by
    intro z
    induction z using Nat.strongRecOn with
    | _ z ih =>
      intro j imk hj hR
      refine t_iload4 dX5_wouldBring_46 ?_
      refine t_iload1 dX5_wouldBring_48 ?_
      refine pw_icmp_ge 62 dX5_wouldBring_49 (by decide) (fun zc49 => ?_) (fun zc49 => ?_)
      · have zj : N ≤ j := (nI_leI hN (by omega)).mp zc49
        have ej : j = N := by omega
        subst ej
        refine t_aload0 dX5_wouldBring_62 ?_
        refine g_getr ft5 fl_X5_7 (j := 0) (by decide) dX5_wouldBring_63 (by assumption) (by assumption) ?_
        refine t_iload3 dX5_wouldBring_66 ?_
        refine m_ldG (j := 6) dX5_wouldBring_67 hR rfl (by decide) ?_
        refine t_aload0 dX5_wouldBring_68 ?_
        refine g_getr ft5 fl_X5_19 (j := 5) (by decide) dX5_wouldBring_69 (by assumption) (by assumption) ?_
        refine t_iload3 dX5_wouldBring_72 ?_
        refine g_iald dX5_wouldBring_73 (by assumption) (by rw [alb]; exact vin_nI (n := 182) (p := 6) (by decide) (by decide)) ?_
        rw [show imk 244 (6 : Int32).toNatClampNeg = S.1 6 from bf_G hB.1 hR (j := 6) (by decide)]
        refine pw_isub dX5_wouldBring_74 ?_
        refine t_istore4 dX5_wouldBring_75 (by decide) okp_i ?_
        refine t_aload0 dX5_wouldBring_77 ?_
        refine g_getr ft5 fl_X5_19 (j := 5) (by decide) dX5_wouldBring_78 (by assumption) (by assumption) ?_
        refine pw_iconst (0) dX5_wouldBring_81 (by decide) ?_
        refine t_aload0 dX5_wouldBring_82 ?_
        refine g_getr ft5 fl_X5_7 (j := 0) (by decide) dX5_wouldBring_83 (by assumption) (by assumption) ?_
        refine pw_iconst (0) dX5_wouldBring_86 (by decide) ?_
        refine g_callS4V (M_copy (l := l) hlt (a := 244) (f := 0) (b := 241) (t := 0) kdb kds (by rw [alb]; decide) (by rw [als]; decide) (by rw [alb]; decide) (by rw [als]; decide) (by decide)) rfl mc_X5_copy ml_X5_43 mi_X5_copy in_X5 (okc_X5_copy (by decide)) dX5_wouldBring_87 (Nat.zero_le _) (fun zim87 zh87 => ?_)
        rw [show zim87 = cpM imk 244 0 241 0 182 from zh87]
        refine t_iload4 dX5_wouldBring_90 ?_
        refine pw_iret dX5_wouldBring_92 rfl ?_
        exact ⟨rfl, rfl, rfl, _, rfl, rfl, bf_back hB hR⟩
      · have zj : j < N := (nI_ltI (by omega) hN).mp (Int32.not_le.mp zc49)
        refine t_aload0 dX5_wouldBring_52 ?_
        refine g_callV0V (M_hour (l := l) hlt hM hR (hW.hours j)) rfl ft5 rfl mc_X5_hour ml_X5_91 mi_X5_hour ms_X5_hour in_X5 (okc_X5_hour (by decide)) dX5_wouldBring_53 (by assumption) (cat_le (Nat.le_of_ble_eq_true rfl)) (fun zim53 zh53 => ?_)
        have hR := zh53
        refine t_iinc4 (1) dX5_wouldBring_56 (by decide) (by decide) okp_i ?_
        refine pw_goto 46 dX5_wouldBring_59 (by decide) ?_
        rw [nI_1]
        exact ih (z - 1) (by omega) (j + 1) _ (by omega) (by rw [hsS_succ]; exact hR)
  refine t_iload2 dX5_wouldBring_0 ?_
  refine pw_if_ne 9 dX5_wouldBring_1 (by decide) (fun h => absurd h (by decide)) (fun _ => ?_)
  refine pw_bipush (6) dX5_wouldBring_4 (by decide) ?_
  refine pw_goto 29 dX5_wouldBring_6 (by decide) ?_
  refine t_istore3 dX5_wouldBring_29 (by decide) okp_i ?_
  refine t_aload0 dX5_wouldBring_30 ?_
  refine g_getr ft5 fl_X5_7 (j := 0) (by decide) dX5_wouldBring_31 (by assumption) (by assumption) ?_
  refine pw_iconst (0) dX5_wouldBring_34 (by decide) ?_
  refine t_aload0 dX5_wouldBring_35 ?_
  refine g_getr ft5 fl_X5_19 (j := 5) (by decide) dX5_wouldBring_36 (by assumption) (by assumption) ?_
  refine pw_iconst (0) dX5_wouldBring_39 (by decide) ?_
  refine g_callS4V (M_copy (l := l) hlt (a := 241) (f := 0) (b := 244) (t := 0) kds kdb (by rw [als]; decide) (by rw [alb]; decide) (by rw [als]; decide) (by rw [alb]; decide) (by decide)) rfl mc_X5_copy ml_X5_43 mi_X5_copy in_X5 (okc_X5_copy (by decide)) dX5_wouldBring_40 (Nat.zero_le _) (fun zim40 zh40 => ?_)
  rw [show zim40 = bfM im from zh40]
  refine pw_iconst (0) dX5_wouldBring_43 (by decide) ?_
  refine t_istore4 dX5_wouldBring_44 (by decide) okp_i ?_
  exact loop N 0 _ (by omega) (bf_s hB.1)
set_option maxHeartbeats 4000000 in
set_option maxRecDepth 100000 in
theorem M_would1 {l : Launch} (hlt : l.stackTraces = false) {im : TI} {rm : TP} {lm : TL} {i0 : TI} {S : CS} (hM : MM rm) (hB : MB i0 S im) (hW : CW S) {N : Nat} (hN : N < 2 ^ 31) : Con l m_X5_wouldBring 6 0 0 NN [pv (some 240), .int (nI N), .int (1)] im rm lm (QI (fun x im2 => x = (hsS N S).1 7 - S.1 7 ∧ MB i0 S im2) rm lm) noX := by
  have hk0 := kdM
  have hks := kds
  obtain ⟨r0, r1, r3, r5, r6, r11⟩ := id hM
  have hkb := kdb
  refine Con.ofN (k := 2) (L0 := [some (pv (some 240)), some (.int (nI N)), some (.int (1)), none, none]) hlt (by decide +kernel) rfl rfl (by rw [en1 pv_cat, en1 rfl, en1 rfl, en0]; exact Nat.le_of_ble_eq_true rfl) (by rw [en1 pv_cat, en1 rfl, en1 rfl, en0]; rfl) ?_
  have loop : ∀ (z j : Nat) (imk : TI), j + z = N → MS (bfM im) (hsS j S) imk → PW l m_X5_wouldBring 6 0 0 NN 46 [some (pv (some 240)), some (.int (nI N)), some (.int 1), some (.int 7), some (.int (nI j))] [] imk rm lm (QI (fun x im2 => x = (hsS N S).1 7 - S.1 7 ∧ MB i0 S im2) rm lm) noX := by
    intro z
    induction z using Nat.strongRecOn with
    | _ z ih =>
      intro j imk hj hR
      refine t_iload4 dX5_wouldBring_46 ?_
      refine t_iload1 dX5_wouldBring_48 ?_
      refine pw_icmp_ge 62 dX5_wouldBring_49 (by decide) (fun zc49 => ?_) (fun zc49 => ?_)
      · have zj : N ≤ j := (nI_leI hN (by omega)).mp zc49
        have ej : j = N := by omega
        subst ej
        refine t_aload0 dX5_wouldBring_62 ?_
        refine g_getr ft5 fl_X5_7 (j := 0) (by decide) dX5_wouldBring_63 (by assumption) (by assumption) ?_
        refine t_iload3 dX5_wouldBring_66 ?_
        refine m_ldG (j := 7) dX5_wouldBring_67 hR rfl (by decide) ?_
        refine t_aload0 dX5_wouldBring_68 ?_
        refine g_getr ft5 fl_X5_19 (j := 5) (by decide) dX5_wouldBring_69 (by assumption) (by assumption) ?_
        refine t_iload3 dX5_wouldBring_72 ?_
        refine g_iald dX5_wouldBring_73 (by assumption) (by rw [alb]; exact vin_nI (n := 182) (p := 7) (by decide) (by decide)) ?_
        rw [show imk 244 (7 : Int32).toNatClampNeg = S.1 7 from bf_G hB.1 hR (j := 7) (by decide)]
        refine pw_isub dX5_wouldBring_74 ?_
        refine t_istore4 dX5_wouldBring_75 (by decide) okp_i ?_
        refine t_aload0 dX5_wouldBring_77 ?_
        refine g_getr ft5 fl_X5_19 (j := 5) (by decide) dX5_wouldBring_78 (by assumption) (by assumption) ?_
        refine pw_iconst (0) dX5_wouldBring_81 (by decide) ?_
        refine t_aload0 dX5_wouldBring_82 ?_
        refine g_getr ft5 fl_X5_7 (j := 0) (by decide) dX5_wouldBring_83 (by assumption) (by assumption) ?_
        refine pw_iconst (0) dX5_wouldBring_86 (by decide) ?_
        refine g_callS4V (M_copy (l := l) hlt (a := 244) (f := 0) (b := 241) (t := 0) kdb kds (by rw [alb]; decide) (by rw [als]; decide) (by rw [alb]; decide) (by rw [als]; decide) (by decide)) rfl mc_X5_copy ml_X5_43 mi_X5_copy in_X5 (okc_X5_copy (by decide)) dX5_wouldBring_87 (Nat.zero_le _) (fun zim87 zh87 => ?_)
        rw [show zim87 = cpM imk 244 0 241 0 182 from zh87]
        refine t_iload4 dX5_wouldBring_90 ?_
        refine pw_iret dX5_wouldBring_92 rfl ?_
        exact ⟨rfl, rfl, rfl, _, rfl, rfl, bf_back hB hR⟩
      · have zj : j < N := (nI_ltI (by omega) hN).mp (Int32.not_le.mp zc49)
        refine t_aload0 dX5_wouldBring_52 ?_
        refine g_callV0V (M_hour (l := l) hlt hM hR (hW.hours j)) rfl ft5 rfl mc_X5_hour ml_X5_91 mi_X5_hour ms_X5_hour in_X5 (okc_X5_hour (by decide)) dX5_wouldBring_53 (by assumption) (cat_le (Nat.le_of_ble_eq_true rfl)) (fun zim53 zh53 => ?_)
        have hR := zh53
        refine t_iinc4 (1) dX5_wouldBring_56 (by decide) (by decide) okp_i ?_
        refine pw_goto 46 dX5_wouldBring_59 (by decide) ?_
        rw [nI_1]
        exact ih (z - 1) (by omega) (j + 1) _ (by omega) (by rw [hsS_succ]; exact hR)
  refine t_iload2 dX5_wouldBring_0 ?_
  refine pw_if_ne 9 dX5_wouldBring_1 (by decide) (fun _ => ?_) (fun h => absurd (by decide) h)
  refine t_iload2 dX5_wouldBring_9 ?_
  refine pw_iconst (1) dX5_wouldBring_10 (by decide) ?_
  refine pw_icmp_ne 19 dX5_wouldBring_11 (by decide) (fun h => absurd h (by decide)) (fun _ => ?_)
  refine pw_bipush (7) dX5_wouldBring_14 (by decide) ?_
  refine pw_goto 29 dX5_wouldBring_16 (by decide) ?_
  refine t_istore3 dX5_wouldBring_29 (by decide) okp_i ?_
  refine t_aload0 dX5_wouldBring_30 ?_
  refine g_getr ft5 fl_X5_7 (j := 0) (by decide) dX5_wouldBring_31 (by assumption) (by assumption) ?_
  refine pw_iconst (0) dX5_wouldBring_34 (by decide) ?_
  refine t_aload0 dX5_wouldBring_35 ?_
  refine g_getr ft5 fl_X5_19 (j := 5) (by decide) dX5_wouldBring_36 (by assumption) (by assumption) ?_
  refine pw_iconst (0) dX5_wouldBring_39 (by decide) ?_
  refine g_callS4V (M_copy (l := l) hlt (a := 241) (f := 0) (b := 244) (t := 0) kds kdb (by rw [als]; decide) (by rw [alb]; decide) (by rw [als]; decide) (by rw [alb]; decide) (by decide)) rfl mc_X5_copy ml_X5_43 mi_X5_copy in_X5 (okc_X5_copy (by decide)) dX5_wouldBring_40 (Nat.zero_le _) (fun zim40 zh40 => ?_)
  rw [show zim40 = bfM im from zh40]
  refine pw_iconst (0) dX5_wouldBring_43 (by decide) ?_
  refine t_istore4 dX5_wouldBring_44 (by decide) okp_i ?_
  exact loop N 0 _ (by omega) (bf_s hB.1)
set_option maxHeartbeats 4000000 in
set_option maxRecDepth 100000 in
theorem M_would2 {l : Launch} (hlt : l.stackTraces = false) {im : TI} {rm : TP} {lm : TL} {i0 : TI} {S : CS} (hM : MM rm) (hB : MB i0 S im) (hW : CW S) {N : Nat} (hN : N < 2 ^ 31) : Con l m_X5_wouldBring 6 0 0 NN [pv (some 240), .int (nI N), .int (2)] im rm lm (QI (fun x im2 => x = (hsS N S).1 2 - S.1 2 ∧ MB i0 S im2) rm lm) noX := by
  have hk0 := kdM
  have hks := kds
  obtain ⟨r0, r1, r3, r5, r6, r11⟩ := id hM
  have hkb := kdb
  refine Con.ofN (k := 2) (L0 := [some (pv (some 240)), some (.int (nI N)), some (.int (2)), none, none]) hlt (by decide +kernel) rfl rfl (by rw [en1 pv_cat, en1 rfl, en1 rfl, en0]; exact Nat.le_of_ble_eq_true rfl) (by rw [en1 pv_cat, en1 rfl, en1 rfl, en0]; rfl) ?_
  have loop : ∀ (z j : Nat) (imk : TI), j + z = N → MS (bfM im) (hsS j S) imk → PW l m_X5_wouldBring 6 0 0 NN 46 [some (pv (some 240)), some (.int (nI N)), some (.int 2), some (.int 2), some (.int (nI j))] [] imk rm lm (QI (fun x im2 => x = (hsS N S).1 2 - S.1 2 ∧ MB i0 S im2) rm lm) noX := by
    intro z
    induction z using Nat.strongRecOn with
    | _ z ih =>
      intro j imk hj hR
      refine t_iload4 dX5_wouldBring_46 ?_
      refine t_iload1 dX5_wouldBring_48 ?_
      refine pw_icmp_ge 62 dX5_wouldBring_49 (by decide) (fun zc49 => ?_) (fun zc49 => ?_)
      · have zj : N ≤ j := (nI_leI hN (by omega)).mp zc49
        have ej : j = N := by omega
        subst ej
        refine t_aload0 dX5_wouldBring_62 ?_
        refine g_getr ft5 fl_X5_7 (j := 0) (by decide) dX5_wouldBring_63 (by assumption) (by assumption) ?_
        refine t_iload3 dX5_wouldBring_66 ?_
        refine m_ldG (j := 2) dX5_wouldBring_67 hR rfl (by decide) ?_
        refine t_aload0 dX5_wouldBring_68 ?_
        refine g_getr ft5 fl_X5_19 (j := 5) (by decide) dX5_wouldBring_69 (by assumption) (by assumption) ?_
        refine t_iload3 dX5_wouldBring_72 ?_
        refine g_iald dX5_wouldBring_73 (by assumption) (by rw [alb]; exact vin_nI (n := 182) (p := 2) (by decide) (by decide)) ?_
        rw [show imk 244 (2 : Int32).toNatClampNeg = S.1 2 from bf_G hB.1 hR (j := 2) (by decide)]
        refine pw_isub dX5_wouldBring_74 ?_
        refine t_istore4 dX5_wouldBring_75 (by decide) okp_i ?_
        refine t_aload0 dX5_wouldBring_77 ?_
        refine g_getr ft5 fl_X5_19 (j := 5) (by decide) dX5_wouldBring_78 (by assumption) (by assumption) ?_
        refine pw_iconst (0) dX5_wouldBring_81 (by decide) ?_
        refine t_aload0 dX5_wouldBring_82 ?_
        refine g_getr ft5 fl_X5_7 (j := 0) (by decide) dX5_wouldBring_83 (by assumption) (by assumption) ?_
        refine pw_iconst (0) dX5_wouldBring_86 (by decide) ?_
        refine g_callS4V (M_copy (l := l) hlt (a := 244) (f := 0) (b := 241) (t := 0) kdb kds (by rw [alb]; decide) (by rw [als]; decide) (by rw [alb]; decide) (by rw [als]; decide) (by decide)) rfl mc_X5_copy ml_X5_43 mi_X5_copy in_X5 (okc_X5_copy (by decide)) dX5_wouldBring_87 (Nat.zero_le _) (fun zim87 zh87 => ?_)
        rw [show zim87 = cpM imk 244 0 241 0 182 from zh87]
        refine t_iload4 dX5_wouldBring_90 ?_
        refine pw_iret dX5_wouldBring_92 rfl ?_
        exact ⟨rfl, rfl, rfl, _, rfl, rfl, bf_back hB hR⟩
      · have zj : j < N := (nI_ltI (by omega) hN).mp (Int32.not_le.mp zc49)
        refine t_aload0 dX5_wouldBring_52 ?_
        refine g_callV0V (M_hour (l := l) hlt hM hR (hW.hours j)) rfl ft5 rfl mc_X5_hour ml_X5_91 mi_X5_hour ms_X5_hour in_X5 (okc_X5_hour (by decide)) dX5_wouldBring_53 (by assumption) (cat_le (Nat.le_of_ble_eq_true rfl)) (fun zim53 zh53 => ?_)
        have hR := zh53
        refine t_iinc4 (1) dX5_wouldBring_56 (by decide) (by decide) okp_i ?_
        refine pw_goto 46 dX5_wouldBring_59 (by decide) ?_
        rw [nI_1]
        exact ih (z - 1) (by omega) (j + 1) _ (by omega) (by rw [hsS_succ]; exact hR)
  refine t_iload2 dX5_wouldBring_0 ?_
  refine pw_if_ne 9 dX5_wouldBring_1 (by decide) (fun _ => ?_) (fun h => absurd (by decide) h)
  refine t_iload2 dX5_wouldBring_9 ?_
  refine pw_iconst (1) dX5_wouldBring_10 (by decide) ?_
  refine pw_icmp_ne 19 dX5_wouldBring_11 (by decide) (fun _ => ?_) (fun h => absurd (by decide) h)
  refine t_iload2 dX5_wouldBring_19 ?_
  refine pw_iconst (2) dX5_wouldBring_20 (by decide) ?_
  refine pw_icmp_ne 28 dX5_wouldBring_21 (by decide) (fun h => absurd h (by decide)) (fun _ => ?_)
  refine pw_iconst (2) dX5_wouldBring_24 (by decide) ?_
  refine pw_goto 29 dX5_wouldBring_25 (by decide) ?_
  refine t_istore3 dX5_wouldBring_29 (by decide) okp_i ?_
  refine t_aload0 dX5_wouldBring_30 ?_
  refine g_getr ft5 fl_X5_7 (j := 0) (by decide) dX5_wouldBring_31 (by assumption) (by assumption) ?_
  refine pw_iconst (0) dX5_wouldBring_34 (by decide) ?_
  refine t_aload0 dX5_wouldBring_35 ?_
  refine g_getr ft5 fl_X5_19 (j := 5) (by decide) dX5_wouldBring_36 (by assumption) (by assumption) ?_
  refine pw_iconst (0) dX5_wouldBring_39 (by decide) ?_
  refine g_callS4V (M_copy (l := l) hlt (a := 241) (f := 0) (b := 244) (t := 0) kds kdb (by rw [als]; decide) (by rw [alb]; decide) (by rw [als]; decide) (by rw [alb]; decide) (by decide)) rfl mc_X5_copy ml_X5_43 mi_X5_copy in_X5 (okc_X5_copy (by decide)) dX5_wouldBring_40 (Nat.zero_le _) (fun zim40 zh40 => ?_)
  rw [show zim40 = bfM im from zh40]
  refine pw_iconst (0) dX5_wouldBring_43 (by decide) ?_
  refine t_istore4 dX5_wouldBring_44 (by decide) okp_i ?_
  exact loop N 0 _ (by omega) (bf_s hB.1)
set_option maxHeartbeats 4000000 in
set_option maxRecDepth 100000 in
theorem M_would3 {l : Launch} (hlt : l.stackTraces = false) {im : TI} {rm : TP} {lm : TL} {i0 : TI} {S : CS} (hM : MM rm) (hB : MB i0 S im) (hW : CW S) {N : Nat} (hN : N < 2 ^ 31) : Con l m_X5_wouldBring 6 0 0 NN [pv (some 240), .int (nI N), .int (3)] im rm lm (QI (fun x im2 => x = (hsS N S).1 4 - S.1 4 ∧ MB i0 S im2) rm lm) noX := by
  have hk0 := kdM
  have hks := kds
  obtain ⟨r0, r1, r3, r5, r6, r11⟩ := id hM
  have hkb := kdb
  refine Con.ofN (k := 2) (L0 := [some (pv (some 240)), some (.int (nI N)), some (.int (3)), none, none]) hlt (by decide +kernel) rfl rfl (by rw [en1 pv_cat, en1 rfl, en1 rfl, en0]; exact Nat.le_of_ble_eq_true rfl) (by rw [en1 pv_cat, en1 rfl, en1 rfl, en0]; rfl) ?_
  have loop : ∀ (z j : Nat) (imk : TI), j + z = N → MS (bfM im) (hsS j S) imk → PW l m_X5_wouldBring 6 0 0 NN 46 [some (pv (some 240)), some (.int (nI N)), some (.int 3), some (.int 4), some (.int (nI j))] [] imk rm lm (QI (fun x im2 => x = (hsS N S).1 4 - S.1 4 ∧ MB i0 S im2) rm lm) noX := by
    intro z
    induction z using Nat.strongRecOn with
    | _ z ih =>
      intro j imk hj hR
      refine t_iload4 dX5_wouldBring_46 ?_
      refine t_iload1 dX5_wouldBring_48 ?_
      refine pw_icmp_ge 62 dX5_wouldBring_49 (by decide) (fun zc49 => ?_) (fun zc49 => ?_)
      · have zj : N ≤ j := (nI_leI hN (by omega)).mp zc49
        have ej : j = N := by omega
        subst ej
        refine t_aload0 dX5_wouldBring_62 ?_
        refine g_getr ft5 fl_X5_7 (j := 0) (by decide) dX5_wouldBring_63 (by assumption) (by assumption) ?_
        refine t_iload3 dX5_wouldBring_66 ?_
        refine m_ldG (j := 4) dX5_wouldBring_67 hR rfl (by decide) ?_
        refine t_aload0 dX5_wouldBring_68 ?_
        refine g_getr ft5 fl_X5_19 (j := 5) (by decide) dX5_wouldBring_69 (by assumption) (by assumption) ?_
        refine t_iload3 dX5_wouldBring_72 ?_
        refine g_iald dX5_wouldBring_73 (by assumption) (by rw [alb]; exact vin_nI (n := 182) (p := 4) (by decide) (by decide)) ?_
        rw [show imk 244 (4 : Int32).toNatClampNeg = S.1 4 from bf_G hB.1 hR (j := 4) (by decide)]
        refine pw_isub dX5_wouldBring_74 ?_
        refine t_istore4 dX5_wouldBring_75 (by decide) okp_i ?_
        refine t_aload0 dX5_wouldBring_77 ?_
        refine g_getr ft5 fl_X5_19 (j := 5) (by decide) dX5_wouldBring_78 (by assumption) (by assumption) ?_
        refine pw_iconst (0) dX5_wouldBring_81 (by decide) ?_
        refine t_aload0 dX5_wouldBring_82 ?_
        refine g_getr ft5 fl_X5_7 (j := 0) (by decide) dX5_wouldBring_83 (by assumption) (by assumption) ?_
        refine pw_iconst (0) dX5_wouldBring_86 (by decide) ?_
        refine g_callS4V (M_copy (l := l) hlt (a := 244) (f := 0) (b := 241) (t := 0) kdb kds (by rw [alb]; decide) (by rw [als]; decide) (by rw [alb]; decide) (by rw [als]; decide) (by decide)) rfl mc_X5_copy ml_X5_43 mi_X5_copy in_X5 (okc_X5_copy (by decide)) dX5_wouldBring_87 (Nat.zero_le _) (fun zim87 zh87 => ?_)
        rw [show zim87 = cpM imk 244 0 241 0 182 from zh87]
        refine t_iload4 dX5_wouldBring_90 ?_
        refine pw_iret dX5_wouldBring_92 rfl ?_
        exact ⟨rfl, rfl, rfl, _, rfl, rfl, bf_back hB hR⟩
      · have zj : j < N := (nI_ltI (by omega) hN).mp (Int32.not_le.mp zc49)
        refine t_aload0 dX5_wouldBring_52 ?_
        refine g_callV0V (M_hour (l := l) hlt hM hR (hW.hours j)) rfl ft5 rfl mc_X5_hour ml_X5_91 mi_X5_hour ms_X5_hour in_X5 (okc_X5_hour (by decide)) dX5_wouldBring_53 (by assumption) (cat_le (Nat.le_of_ble_eq_true rfl)) (fun zim53 zh53 => ?_)
        have hR := zh53
        refine t_iinc4 (1) dX5_wouldBring_56 (by decide) (by decide) okp_i ?_
        refine pw_goto 46 dX5_wouldBring_59 (by decide) ?_
        rw [nI_1]
        exact ih (z - 1) (by omega) (j + 1) _ (by omega) (by rw [hsS_succ]; exact hR)
  refine t_iload2 dX5_wouldBring_0 ?_
  refine pw_if_ne 9 dX5_wouldBring_1 (by decide) (fun _ => ?_) (fun h => absurd (by decide) h)
  refine t_iload2 dX5_wouldBring_9 ?_
  refine pw_iconst (1) dX5_wouldBring_10 (by decide) ?_
  refine pw_icmp_ne 19 dX5_wouldBring_11 (by decide) (fun _ => ?_) (fun h => absurd (by decide) h)
  refine t_iload2 dX5_wouldBring_19 ?_
  refine pw_iconst (2) dX5_wouldBring_20 (by decide) ?_
  refine pw_icmp_ne 28 dX5_wouldBring_21 (by decide) (fun _ => ?_) (fun h => absurd (by decide) h)
  refine pw_iconst (4) dX5_wouldBring_28 (by decide) ?_
  refine t_istore3 dX5_wouldBring_29 (by decide) okp_i ?_
  refine t_aload0 dX5_wouldBring_30 ?_
  refine g_getr ft5 fl_X5_7 (j := 0) (by decide) dX5_wouldBring_31 (by assumption) (by assumption) ?_
  refine pw_iconst (0) dX5_wouldBring_34 (by decide) ?_
  refine t_aload0 dX5_wouldBring_35 ?_
  refine g_getr ft5 fl_X5_19 (j := 5) (by decide) dX5_wouldBring_36 (by assumption) (by assumption) ?_
  refine pw_iconst (0) dX5_wouldBring_39 (by decide) ?_
  refine g_callS4V (M_copy (l := l) hlt (a := 241) (f := 0) (b := 244) (t := 0) kds kdb (by rw [als]; decide) (by rw [alb]; decide) (by rw [als]; decide) (by rw [alb]; decide) (by decide)) rfl mc_X5_copy ml_X5_43 mi_X5_copy in_X5 (okc_X5_copy (by decide)) dX5_wouldBring_40 (Nat.zero_le _) (fun zim40 zh40 => ?_)
  rw [show zim40 = bfM im from zh40]
  refine pw_iconst (0) dX5_wouldBring_43 (by decide) ?_
  refine t_istore4 dX5_wouldBring_44 (by decide) okp_i ?_
  exact loop N 0 _ (by omega) (bf_s hB.1)
def gmS (S : CS) (x : Int32) : Option Nat := if whS S x = none then none else fdN (fun h => whS (hsS h S) x = none) 201 0
theorem whS_lt {S : CS} {x : Int32} {k : Nat} (h : whS S x = some k) : k < 30 ∧ nI (k % 6) < S.2.1 (k / 6) 9 ∧ S.2.2 (k / 6) (k % 6) 0 = x := by
  obtain ⟨h1, h2, h3⟩ := fdN_some _ _ _ h
  exact ⟨by omega, h3.1, h3.2⟩
theorem whS_one {S : CS} {x : Int32} : oI (whS S x) = -1 ↔ whS S x = none := oI_none fun p h => by have := (whS_lt h).1; omega
set_option maxHeartbeats 4000000 in
set_option maxRecDepth 100000 in
theorem M_ground {l : Launch} (hlt : l.stackTraces = false) {im : TI} {rm : TP} {lm : TL} {i0 : TI} {S : CS} (hM : MM rm) (hB : MB i0 S im) (hW : CW S) {x : Int32} : Con l m_X5_groundBehind 6 0 0 NN [pv (some 240), .int (x)] im rm lm (QI (fun y im2 => y = oI (gmS S x) ∧ MB i0 S im2) rm lm) noX := by
  have hk0 := kdM
  have hks := kds
  obtain ⟨r0, r1, r3, r5, r6, r11⟩ := id hM
  have hkb := kdb
  refine Con.ofN (k := 2) (L0 := [some (pv (some 240)), some (.int (x)), none, none]) hlt (by decide +kernel) rfl rfl (by rw [en1 pv_cat, en1 rfl, en0]; exact Nat.le_of_ble_eq_true rfl) (by rw [en1 pv_cat, en1 rfl, en0]; rfl) ?_
  have hR := hB.s
  refine t_aload0 dX5_groundBehind_0 ?_
  refine t_iload1 dX5_groundBehind_1 ?_
  refine g_callV1P (M_whereIs (l := l) hlt hM hR) rfl ft5 rfl mc_X5_whereIs ml_X5_121 mi_X5_whereIs ms_X5_whereIs in_X5 (okc_X5_whereIs (by decide)) dX5_groundBehind_2 (by assumption) (cat_le (Nat.le_of_ble_eq_true rfl)) ?_
  refine pw_iconst (-1) dX5_groundBehind_5 (by decide) ?_
  refine pw_icmp_ne 11 dX5_groundBehind_6 (by decide) (fun zc6 => ?_) (fun zc6 => ?_)
  · have hw0 : ¬ whS S x = none := fun z => zc6 (whS_one.mpr z)
    have fin : ∀ (j : Nat) (imk : TI), MS (bfM im) (hsS j S) imk → fdN (fun h => whS (hsS h S) x = none) 201 0 = (if whS (hsS j S) x = none then some j else none) → PW l m_X5_groundBehind 6 0 0 NN 52 [some (pv (some 240)), some (.int x), some (.int (nI j)), none] [] imk rm lm (QI (fun y im2 => y = oI (gmS S x) ∧ MB i0 S im2) rm lm) noX := by
      intro j imk hR hf
      refine t_aload0 dX5_groundBehind_52 ?_
      refine t_iload1 dX5_groundBehind_53 ?_
      refine g_callV1P (M_whereIs (l := l) hlt hM hR) rfl ft5 rfl mc_X5_whereIs ml_X5_121 mi_X5_whereIs ms_X5_whereIs in_X5 (okc_X5_whereIs (by decide)) dX5_groundBehind_54 (by assumption) (cat_le (Nat.le_of_ble_eq_true rfl)) ?_
      refine pw_iconst (-1) dX5_groundBehind_57 (by decide) ?_
      refine pw_icmp_ne 65 dX5_groundBehind_58 (by decide) (fun zc58 => ?_) (fun zc58 => ?_)
      · refine pw_iconst (0) dX5_groundBehind_65 (by decide) ?_
        refine t_istore3 dX5_groundBehind_66 (by decide) okp_i ?_
        refine t_aload0 dX5_groundBehind_67 ?_
        refine g_getr ft5 fl_X5_19 (j := 5) (by decide) dX5_groundBehind_68 (by assumption) (by assumption) ?_
        refine pw_iconst (0) dX5_groundBehind_71 (by decide) ?_
        refine t_aload0 dX5_groundBehind_72 ?_
        refine g_getr ft5 fl_X5_7 (j := 0) (by decide) dX5_groundBehind_73 (by assumption) (by assumption) ?_
        refine pw_iconst (0) dX5_groundBehind_76 (by decide) ?_
        refine g_callS4V (M_copy (l := l) hlt (a := 244) (f := 0) (b := 241) (t := 0) kdb kds (by rw [alb]; decide) (by rw [als]; decide) (by rw [alb]; decide) (by rw [als]; decide) (by decide)) rfl mc_X5_copy ml_X5_43 mi_X5_copy in_X5 (okc_X5_copy (by decide)) dX5_groundBehind_77 (Nat.zero_le _) (fun zim77 zh77 => ?_)
        rw [show zim77 = cpM imk 244 0 241 0 182 from zh77]
        refine t_iload3 dX5_groundBehind_80 ?_
        refine pw_if_eq 88 dX5_groundBehind_81 (by decide) (fun _ => ?_) (fun h => absurd (by decide) h)
        refine pw_iconst (-1) dX5_groundBehind_88 (by decide) ?_
        refine pw_iret dX5_groundBehind_89 rfl ?_
        exact ⟨rfl, rfl, rfl, _, rfl, by rw [gmS, if_neg hw0, hf, if_neg (fun z => zc58 (whS_one.mpr z))]; rfl, bf_back hB hR⟩
      · refine pw_iconst (1) dX5_groundBehind_61 (by decide) ?_
        refine pw_goto 66 dX5_groundBehind_62 (by decide) ?_
        refine t_istore3 dX5_groundBehind_66 (by decide) okp_i ?_
        refine t_aload0 dX5_groundBehind_67 ?_
        refine g_getr ft5 fl_X5_19 (j := 5) (by decide) dX5_groundBehind_68 (by assumption) (by assumption) ?_
        refine pw_iconst (0) dX5_groundBehind_71 (by decide) ?_
        refine t_aload0 dX5_groundBehind_72 ?_
        refine g_getr ft5 fl_X5_7 (j := 0) (by decide) dX5_groundBehind_73 (by assumption) (by assumption) ?_
        refine pw_iconst (0) dX5_groundBehind_76 (by decide) ?_
        refine g_callS4V (M_copy (l := l) hlt (a := 244) (f := 0) (b := 241) (t := 0) kdb kds (by rw [alb]; decide) (by rw [als]; decide) (by rw [alb]; decide) (by rw [als]; decide) (by decide)) rfl mc_X5_copy ml_X5_43 mi_X5_copy in_X5 (okc_X5_copy (by decide)) dX5_groundBehind_77 (Nat.zero_le _) (fun zim77 zh77 => ?_)
        rw [show zim77 = cpM imk 244 0 241 0 182 from zh77]
        refine t_iload3 dX5_groundBehind_80 ?_
        refine pw_if_eq 88 dX5_groundBehind_81 (by decide) (fun h => absurd h (by decide)) (fun _ => ?_)
        refine t_iload2 dX5_groundBehind_84 ?_
        refine pw_goto 89 dX5_groundBehind_85 (by decide) ?_
        refine pw_iret dX5_groundBehind_89 rfl ?_
        exact ⟨rfl, rfl, rfl, _, rfl, by rw [gmS, if_neg hw0, hf, if_pos (whS_one.mp (Classical.not_not.mp zc58))]; rfl, bf_back hB hR⟩
    have loop : ∀ (n j : Nat) (imk : TI), j + n = 200 → MS (bfM im) (hsS j S) imk → fdN (fun h => whS (hsS h S) x = none) 201 0 = fdN (fun h => whS (hsS h S) x = none) (n + 1) j → PW l m_X5_groundBehind 6 0 0 NN 26 [some (pv (some 240)), some (.int x), some (.int (nI j)), none] [] imk rm lm (QI (fun y im2 => y = oI (gmS S x) ∧ MB i0 S im2) rm lm) noX := by
      intro n
      induction n using Nat.strongRecOn with
      | _ n ih =>
        intro j imk hj hR hf
        refine t_iload2 dX5_groundBehind_26 ?_
        refine pw_sipush (200) dX5_groundBehind_27 (by decide) ?_
        refine pw_icmp_ge 52 dX5_groundBehind_30 (by decide) (fun zc30 => ?_) (fun zc30 => ?_)
        · have zj : 200 ≤ j := (nI_leI (a := 200) (by decide) (by omega)).mp zc30
          have zn : n = 0 := by omega
          subst zn
          exact fin j imk hR (by rw [hf, fdN]; split <;> rfl)
        · have zj : j < 200 := (nI_ltI (b := 200) (by omega) (by decide)).mp (Int32.not_le.mp zc30)
          obtain ⟨n', rfl⟩ : ∃ n', n = n' + 1 := ⟨n - 1, by omega⟩
          refine t_aload0 dX5_groundBehind_33 ?_
          refine t_iload1 dX5_groundBehind_34 ?_
          refine g_callV1P (M_whereIs (l := l) hlt hM hR) rfl ft5 rfl mc_X5_whereIs ml_X5_121 mi_X5_whereIs ms_X5_whereIs in_X5 (okc_X5_whereIs (by decide)) dX5_groundBehind_35 (by assumption) (cat_le (Nat.le_of_ble_eq_true rfl)) ?_
          refine pw_iconst (-1) dX5_groundBehind_38 (by decide) ?_
          refine pw_icmp_eq 52 dX5_groundBehind_39 (by decide) (fun zc39 => ?_) (fun zc39 => ?_)
          · exact fin j imk hR (by rw [hf, fdN]; rw [if_pos (whS_one.mp zc39), if_pos (whS_one.mp zc39)])
          · refine t_aload0 dX5_groundBehind_42 ?_
            refine g_callV0V (M_hour (l := l) hlt hM hR (hW.hours j)) rfl ft5 rfl mc_X5_hour ml_X5_91 mi_X5_hour ms_X5_hour in_X5 (okc_X5_hour (by decide)) dX5_groundBehind_43 (by assumption) (cat_le (Nat.le_of_ble_eq_true rfl)) (fun zim43 zh43 => ?_)
            have hR := zh43
            refine t_iinc2 (1) dX5_groundBehind_46 (by decide) (by decide) okp_i ?_
            refine pw_goto 26 dX5_groundBehind_49 (by decide) ?_
            rw [nI_1]
            exact ih n' (by omega) (j + 1) _ (by omega) (by rw [hsS_succ]; exact hR) (by rw [hf, fdN, if_neg (fun z => zc39 (whS_one.mpr z))])
    refine t_aload0 dX5_groundBehind_11 ?_
    refine g_getr ft5 fl_X5_7 (j := 0) (by decide) dX5_groundBehind_12 (by assumption) (by assumption) ?_
    refine pw_iconst (0) dX5_groundBehind_15 (by decide) ?_
    refine t_aload0 dX5_groundBehind_16 ?_
    refine g_getr ft5 fl_X5_19 (j := 5) (by decide) dX5_groundBehind_17 (by assumption) (by assumption) ?_
    refine pw_iconst (0) dX5_groundBehind_20 (by decide) ?_
    refine g_callS4V (M_copy (l := l) hlt (a := 241) (f := 0) (b := 244) (t := 0) kds kdb (by rw [als]; decide) (by rw [alb]; decide) (by rw [als]; decide) (by rw [alb]; decide) (by decide)) rfl mc_X5_copy ml_X5_43 mi_X5_copy in_X5 (okc_X5_copy (by decide)) dX5_groundBehind_21 (Nat.zero_le _) (fun zim21 zh21 => ?_)
    rw [show zim21 = bfM im from zh21]
    refine pw_iconst (0) dX5_groundBehind_24 (by decide) ?_
    refine t_istore2 dX5_groundBehind_25 (by decide) okp_i ?_
    exact loop 200 0 _ rfl (bf_s hB.1) rfl
  · refine pw_iconst (-1) dX5_groundBehind_9 (by decide) ?_
    refine pw_iret dX5_groundBehind_10 rfl ?_
    exact ⟨rfl, rfl, rfl, _, rfl, by rw [gmS, if_pos (whS_one.mp (Classical.not_not.mp zc6))]; rfl, hB⟩
def lfM (S : CS) (m j : Nat) : Int32 := rmT (hsS 24 (upF S m 6 (nI (60 - 4 * j))))
def bmN (S : CS) (m : Nat) : Nat → Nat → Int32 → Int32 → Int32
  | 0, _, best, _ => best
  | n + 1, j, best, least => if best = 0 ∨ lfM S m j < least then bmN S m n (j + 1) (nI (60 - 4 * j)) (lfM S m j) else bmN S m n (j + 1) best least
theorem CW.stone {S : CS} {m j : Nat} (h : CW S) (hj : j < 14) : CW (upF S m 6 (nI (60 - 4 * j))) := by
  refine ⟨h.1.keep fun a _ => ?_, fun a ha => ?_, h.2.2.keep rfl fun a _ => ?_⟩
  · unfold upF; dsimp only; rw [if_neg (by omega)]
  · unfold upF; dsimp only
    rw [if_neg (by omega)]
    refine ⟨(h.2.1 a ha).1, ?_⟩
    by_cases e : a = m
    · rw [if_pos ⟨e, rfl⟩]; exact (nI_ltI (a := 0) (by decide) (by omega)).mpr (by omega)
    · rw [if_neg (fun z => e z.1)]; exact (h.2.1 a ha).2
  · unfold upF; dsimp only; rw [if_neg (by omega)]
theorem tee {j : Nat} (h : j < 14) : nI (60 - 4 * j) + -4 = nI (60 - 4 * (j + 1)) := by
  rcases (show j = 0 ∨ j = 1 ∨ j = 2 ∨ j = 3 ∨ j = 4 ∨ j = 5 ∨ j = 6 ∨ j = 7 ∨ j = 8 ∨ j = 9 ∨ j = 10 ∨ j = 11 ∨ j = 12 ∨ j = 13 by omega) with rfl | rfl | rfl | rfl | rfl | rfl | rfl | rfl | rfl | rfl | rfl | rfl | rfl | rfl <;> rfl
set_option maxHeartbeats 4000000 in
set_option maxRecDepth 100000 in
theorem M_best {l : Launch} (hlt : l.stackTraces = false) {im : TI} {rm : TP} {lm : TL} {i0 : TI} {S : CS} (hM : MM rm) (hB : MB i0 S im) (hW : CW S) {m : Nat} (hm : m < 5) : Con l m_X5_bestFor 6 0 0 NN [pv (some 240), .int (nI m)] im rm lm (QI (fun y im2 => y = bmN S m 14 0 0 0 ∧ MB i0 S im2) rm lm) noX := by
  have hk0 := kdM
  have hks := kds
  obtain ⟨r0, r1, r3, r5, r6, r11⟩ := id hM
  have hkb := kdb
  refine Con.ofN (k := 5) (L0 := [some (pv (some 240)), some (.int (nI m)), none, none, none, none, none]) hlt (by decide +kernel) rfl rfl (by rw [en1 pv_cat, en1 rfl, en0]; exact Nat.le_of_ble_eq_true rfl) (by rw [en1 pv_cat, en1 rfl, en0]; rfl) ?_
  have loop : ∀ (n j : Nat) (best least : Int32) (imk : TI), j + n = 14 → MS (bfM im) S imk → bmN S m 14 0 0 0 = bmN S m n j best least → PW l m_X5_bestFor 6 0 0 NN 21 [some (pv (some 240)), some (.int (nI m)), some (.int best), some (.int least), some (.int (nI (60 - 4 * j))), none, none] [] imk rm lm (QI (fun y im2 => y = bmN S m 14 0 0 0 ∧ MB i0 S im2) rm lm) noX := by
    intro n
    induction n using Nat.strongRecOn with
    | _ n ih =>
      intro j best least imk hj hR hf
      refine t_iload4 dX5_bestFor_21 ?_
      refine pw_bipush (8) dX5_bestFor_23 (by decide) ?_
      refine pw_icmp_lt 123 dX5_bestFor_25 (by decide) (fun zc25 => ?_) (fun zc25 => ?_)
      · have zj : 60 - 4 * j < 8 := (nI_ltI (b := 8) (by omega) (by decide)).mp zc25
        have zn : n = 0 := by omega
        subst zn
        refine t_iload2 dX5_bestFor_123 ?_
        refine pw_iret dX5_bestFor_124 rfl ?_
        exact ⟨rfl, rfl, rfl, _, rfl, by rw [hf]; rfl, hR.1, fun o h1 h2 => by rw [hR.2 o h1]; unfold bfM; rw [cp_ne h2]; exact hB.2 o h1 h2⟩
      · have zj : j < 14 := by have := (nI_leI (a := 8) (by decide) (by omega)).mp (Int32.not_lt.mp zc25); omega
        obtain ⟨n', rfl⟩ : ∃ n', n = n' + 1 := ⟨n - 1, by omega⟩
        have hWm := hW.stone (m := m) zj
        obtain ⟨H, hH⟩ : ∃ H : Nat, H = 24 := ⟨_, rfl⟩
        have inner : ∀ (z k : Nat) (imk : TI), k + z = 24 → MS (bfM im) (hsS k (upF S m 6 (nI (60 - 4 * j)))) imk → PW l m_X5_bestFor 6 0 0 NN 40 [some (pv (some 240)), some (.int (nI m)), some (.int best), some (.int least), some (.int (nI (60 - 4 * j))), some (.int (nI k)), none] [] imk rm lm (QI (fun y im2 => y = bmN S m 14 0 0 0 ∧ MB i0 S im2) rm lm) noX := by
          intro z
          induction z using Nat.strongRecOn with
          | _ z ihk =>
            intro k imk hk hR
            refine t_iload5 dX5_bestFor_40 ?_
            refine pw_bipush (24) dX5_bestFor_42 (by decide) ?_
            refine pw_icmp_ge 57 dX5_bestFor_44 (by decide) (fun zc44 => ?_) (fun zc44 => ?_)
            · have zk : 24 ≤ k := (nI_leI (a := 24) (by decide) (by omega)).mp zc44
              have ek : k = H := by omega
              subst ek
              refine t_aload0 dX5_bestFor_57 ?_
              refine g_callV0P (M_rests (l := l) hlt hM hR (hWm.hours k).1) rfl ft5 rfl mc_X5_rests ml_X5_181 mi_X5_rests ms_X5_rests in_X5 (okc_X5_rests (by decide)) dX5_bestFor_58 hk0 (cat_le (Nat.le_of_ble_eq_true rfl)) ?_
              rw [show rmT (hsS k (upF S m 6 (nI (60 - 4 * j)))) = lfM S m j from by rw [hH]; rfl]
              refine t_istore5 dX5_bestFor_61 (by decide) okp_i ?_
              refine t_iload2 dX5_bestFor_63 ?_
              refine pw_if_eq 73 dX5_bestFor_64 (by decide) (fun zc64 => ?_) (fun zc64 => ?_)
              · refine pw_iconst (1) dX5_bestFor_73 (by decide) ?_
                refine pw_goto 78 dX5_bestFor_74 (by decide) ?_
                refine t_istore6 dX5_bestFor_78 (by decide) okp_i ?_
                refine t_iload6 dX5_bestFor_80 ?_
                refine pw_if_eq 90 dX5_bestFor_82 (by decide) (fun h => absurd h (by decide)) (fun _ => ?_)
                refine t_iload4 dX5_bestFor_85 ?_
                refine pw_goto 91 dX5_bestFor_87 (by decide) ?_
                refine t_istore2 dX5_bestFor_91 (by decide) okp_i ?_
                refine t_iload6 dX5_bestFor_92 ?_
                refine pw_if_eq 102 dX5_bestFor_94 (by decide) (fun h => absurd h (by decide)) (fun _ => ?_)
                refine t_iload5 dX5_bestFor_97 ?_
                refine pw_goto 103 dX5_bestFor_99 (by decide) ?_
                refine t_istore3 dX5_bestFor_103 (by decide) okp_i ?_
                refine t_aload0 dX5_bestFor_104 ?_
                refine g_getr ft5 fl_X5_19 (j := 5) (by decide) dX5_bestFor_105 hk0 (by first | exact r0 | exact r5) ?_
                refine pw_iconst (0) dX5_bestFor_108 (by decide) ?_
                refine t_aload0 dX5_bestFor_109 ?_
                refine g_getr ft5 fl_X5_7 (j := 0) (by decide) dX5_bestFor_110 hk0 (by first | exact r0 | exact r5) ?_
                refine pw_iconst (0) dX5_bestFor_113 (by decide) ?_
                refine g_callS4V (M_copy (l := l) hlt (a := 244) (f := 0) (b := 241) (t := 0) kdb kds (by rw [alb]; decide) (by rw [als]; decide) (by rw [alb]; decide) (by rw [als]; decide) (by decide)) rfl mc_X5_copy ml_X5_43 mi_X5_copy in_X5 (okc_X5_copy (by decide)) dX5_bestFor_114 (Nat.zero_le _) (fun zim114 zh114 => ?_)
                rw [show zim114 = cpM imk 244 0 241 0 182 from zh114]
                refine t_iinc4 (-4) dX5_bestFor_117 (by decide) (by decide) okp_i ?_
                refine pw_goto 21 dX5_bestFor_120 (by decide) ?_
                rw [tee zj]
                refine PW.sub (L' := [some (pv (some 240)), some (.int (nI m)), some (.int (nI (60 - 4 * j))), some (.int (lfM S m j)), some (.int (nI (60 - 4 * (j + 1)))), none, none]) (s_e (s_e (s_e (s_e (s_e (s_n (s_n s_z))))))) ?_
                exact ih n' (by omega) (j + 1) _ _ _ (by omega) (bf_again hB.1 hR) (by rw [hf, bmN, if_pos (Or.inl zc64)])
              · refine t_iload5 dX5_bestFor_67 ?_
                refine t_iload3 dX5_bestFor_69 ?_
                refine pw_icmp_ge 77 dX5_bestFor_70 (by decide) (fun zc70 => ?_) (fun zc70 => ?_)
                · refine pw_iconst (0) dX5_bestFor_77 (by decide) ?_
                  refine t_istore6 dX5_bestFor_78 (by decide) okp_i ?_
                  refine t_iload6 dX5_bestFor_80 ?_
                  refine pw_if_eq 90 dX5_bestFor_82 (by decide) (fun _ => ?_) (fun h => absurd (by decide) h)
                  refine t_iload2 dX5_bestFor_90 ?_
                  refine t_istore2 dX5_bestFor_91 (by decide) okp_i ?_
                  refine t_iload6 dX5_bestFor_92 ?_
                  refine pw_if_eq 102 dX5_bestFor_94 (by decide) (fun _ => ?_) (fun h => absurd (by decide) h)
                  refine t_iload3 dX5_bestFor_102 ?_
                  refine t_istore3 dX5_bestFor_103 (by decide) okp_i ?_
                  refine t_aload0 dX5_bestFor_104 ?_
                  refine g_getr ft5 fl_X5_19 (j := 5) (by decide) dX5_bestFor_105 hk0 (by first | exact r0 | exact r5) ?_
                  refine pw_iconst (0) dX5_bestFor_108 (by decide) ?_
                  refine t_aload0 dX5_bestFor_109 ?_
                  refine g_getr ft5 fl_X5_7 (j := 0) (by decide) dX5_bestFor_110 hk0 (by first | exact r0 | exact r5) ?_
                  refine pw_iconst (0) dX5_bestFor_113 (by decide) ?_
                  refine g_callS4V (M_copy (l := l) hlt (a := 244) (f := 0) (b := 241) (t := 0) kdb kds (by rw [alb]; decide) (by rw [als]; decide) (by rw [alb]; decide) (by rw [als]; decide) (by decide)) rfl mc_X5_copy ml_X5_43 mi_X5_copy in_X5 (okc_X5_copy (by decide)) dX5_bestFor_114 (Nat.zero_le _) (fun zim114 zh114 => ?_)
                  rw [show zim114 = cpM imk 244 0 241 0 182 from zh114]
                  refine t_iinc4 (-4) dX5_bestFor_117 (by decide) (by decide) okp_i ?_
                  refine pw_goto 21 dX5_bestFor_120 (by decide) ?_
                  rw [tee zj]
                  refine PW.sub (L' := [some (pv (some 240)), some (.int (nI m)), some (.int best), some (.int least), some (.int (nI (60 - 4 * (j + 1)))), none, none]) (s_e (s_e (s_e (s_e (s_e (s_n (s_n s_z))))))) ?_
                  exact ih n' (by omega) (j + 1) _ _ _ (by omega) (bf_again hB.1 hR) (by rw [hf, bmN, if_neg (fun z => z.elim zc64 (fun y => Int32.not_lt.mpr zc70 y))])
                · refine pw_iconst (1) dX5_bestFor_73 (by decide) ?_
                  refine pw_goto 78 dX5_bestFor_74 (by decide) ?_
                  refine t_istore6 dX5_bestFor_78 (by decide) okp_i ?_
                  refine t_iload6 dX5_bestFor_80 ?_
                  refine pw_if_eq 90 dX5_bestFor_82 (by decide) (fun h => absurd h (by decide)) (fun _ => ?_)
                  refine t_iload4 dX5_bestFor_85 ?_
                  refine pw_goto 91 dX5_bestFor_87 (by decide) ?_
                  refine t_istore2 dX5_bestFor_91 (by decide) okp_i ?_
                  refine t_iload6 dX5_bestFor_92 ?_
                  refine pw_if_eq 102 dX5_bestFor_94 (by decide) (fun h => absurd h (by decide)) (fun _ => ?_)
                  refine t_iload5 dX5_bestFor_97 ?_
                  refine pw_goto 103 dX5_bestFor_99 (by decide) ?_
                  refine t_istore3 dX5_bestFor_103 (by decide) okp_i ?_
                  refine t_aload0 dX5_bestFor_104 ?_
                  refine g_getr ft5 fl_X5_19 (j := 5) (by decide) dX5_bestFor_105 hk0 (by first | exact r0 | exact r5) ?_
                  refine pw_iconst (0) dX5_bestFor_108 (by decide) ?_
                  refine t_aload0 dX5_bestFor_109 ?_
                  refine g_getr ft5 fl_X5_7 (j := 0) (by decide) dX5_bestFor_110 hk0 (by first | exact r0 | exact r5) ?_
                  refine pw_iconst (0) dX5_bestFor_113 (by decide) ?_
                  refine g_callS4V (M_copy (l := l) hlt (a := 244) (f := 0) (b := 241) (t := 0) kdb kds (by rw [alb]; decide) (by rw [als]; decide) (by rw [alb]; decide) (by rw [als]; decide) (by decide)) rfl mc_X5_copy ml_X5_43 mi_X5_copy in_X5 (okc_X5_copy (by decide)) dX5_bestFor_114 (Nat.zero_le _) (fun zim114 zh114 => ?_)
                  rw [show zim114 = cpM imk 244 0 241 0 182 from zh114]
                  refine t_iinc4 (-4) dX5_bestFor_117 (by decide) (by decide) okp_i ?_
                  refine pw_goto 21 dX5_bestFor_120 (by decide) ?_
                  rw [tee zj]
                  refine PW.sub (L' := [some (pv (some 240)), some (.int (nI m)), some (.int (nI (60 - 4 * j))), some (.int (lfM S m j)), some (.int (nI (60 - 4 * (j + 1)))), none, none]) (s_e (s_e (s_e (s_e (s_e (s_n (s_n s_z))))))) ?_
                  exact ih n' (by omega) (j + 1) _ _ _ (by omega) (bf_again hB.1 hR) (by rw [hf, bmN, if_pos (Or.inr (Int32.not_le.mp zc70))])
            · have zk : k < 24 := (nI_ltI (b := 24) (by omega) (by decide)).mp (Int32.not_le.mp zc44)
              refine t_aload0 dX5_bestFor_47 ?_
              refine g_callV0V (M_hour (l := l) hlt hM hR (hWm.hours k)) rfl ft5 rfl mc_X5_hour ml_X5_91 mi_X5_hour ms_X5_hour in_X5 (okc_X5_hour (by decide)) dX5_bestFor_48 hk0 (cat_le (Nat.le_of_ble_eq_true rfl)) (fun zim48 zh48 => ?_)
              have hR := zh48
              refine t_iinc5 (1) dX5_bestFor_51 (by decide) (by decide) okp_i ?_
              refine pw_goto 40 dX5_bestFor_54 (by decide) ?_
              rw [nI_1]
              exact ihk (z - 1) (by omega) (k + 1) _ (by omega) (by rw [hsS_succ]; exact hR)
        refine t_aload0 dX5_bestFor_28 ?_
        refine t_iload1 dX5_bestFor_29 ?_
        refine pw_bipush (6) dX5_bestFor_30 (by decide) ?_
        refine t_iload4 dX5_bestFor_32 ?_
        refine g_callV3V (M_put (l := l) hlt hM hR (m := m) (w := 6) hm (by decide)) rfl ft5 rfl mc_X5_put ml_X5_28 mi_X5_put ms_X5_put in_X5 (okc_X5_put (by decide)) dX5_bestFor_34 hk0 (cat_le (Nat.le_of_ble_eq_true rfl)) (fun zim34 zh34 => ?_)
        have hR := zh34
        refine pw_iconst (0) dX5_bestFor_37 (by decide) ?_
        refine t_istore5 dX5_bestFor_38 (by decide) okp_i ?_
        refine PW.sub (L' := [some (pv (some 240)), some (.int (nI m)), some (.int best), some (.int least), some (.int (nI (60 - 4 * j))), some (.int (nI 0)), none]) (s_e (s_e (s_e (s_e (s_e (s_e (s_n s_z))))))) ?_
        exact inner 24 0 _ rfl hR
  refine pw_iconst (0) dX5_bestFor_0 (by decide) ?_
  refine t_istore2 dX5_bestFor_1 (by decide) okp_i ?_
  refine pw_iconst (0) dX5_bestFor_2 (by decide) ?_
  refine t_istore3 dX5_bestFor_3 (by decide) okp_i ?_
  refine t_aload0 dX5_bestFor_4 ?_
  refine g_getr ft5 fl_X5_7 (j := 0) (by decide) dX5_bestFor_5 hk0 (by first | exact r0 | exact r5) ?_
  refine pw_iconst (0) dX5_bestFor_8 (by decide) ?_
  refine t_aload0 dX5_bestFor_9 ?_
  refine g_getr ft5 fl_X5_19 (j := 5) (by decide) dX5_bestFor_10 hk0 (by first | exact r0 | exact r5) ?_
  refine pw_iconst (0) dX5_bestFor_13 (by decide) ?_
  refine g_callS4V (M_copy (l := l) hlt (a := 241) (f := 0) (b := 244) (t := 0) kds kdb (by rw [als]; decide) (by rw [alb]; decide) (by rw [als]; decide) (by rw [alb]; decide) (by decide)) rfl mc_X5_copy ml_X5_43 mi_X5_copy in_X5 (okc_X5_copy (by decide)) dX5_bestFor_14 (Nat.zero_le _) (fun zim14 zh14 => ?_)
  rw [show zim14 = bfM im from zh14]
  refine pw_bipush (60) dX5_bestFor_17 (by decide) ?_
  refine t_istore4 dX5_bestFor_19 (by decide) okp_i ?_
  exact loop 14 0 0 0 _ rfl (bf_s hB.1) rfl

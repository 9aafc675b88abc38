/-! The law: what is left, sacks at a mill, a mill -/
set_option maxHeartbeats 4000000 in
set_option maxRecDepth 100000 in
theorem H_rests {l : Launch} (hlt : l.stackTraces = false) {im : TI} {rm : TP} {lm : TL} {Z : TI × TP} {S : CS} {n : Nat} {T : Nat → CS} {sn : Option CS} {bl : Nat} {B : Nat → Int32} (hTS : TS Z S n T sn bl B im rm) (hW : WF S) : Con l m_L_rests 9 0 0 NN [pv (some 0)] im rm lm (QP (.int (rtS S)) im rm lm) noX := by
  refine Con.ofN (k := 3) (L0 := [some (pv (some 0)), none, none, none]) hlt (by decide +kernel) rfl rfl (by rw [en1 pv_cat, en0]; exact Nat.le_of_ble_eq_true rfl) (by rw [en1 pv_cat, en0]; rfl) ?_
  have hI := hW.1.1
  have outer : ∀ (k m : Nat) (x : Int32) (z3 : Option Value), m + k = 5 → PW l m_L_rests 9 0 0 NN 4 [some (pv (some 0)), some (.int x), some (.int (nI m)), z3] [] im rm lm (QP (.int (rtN S k m x)) im rm lm) noX := by
    intro k
    induction k with
    | zero =>
      intro m x z3 hk
      refine t_iload2 dL_rests_4 ?_
      refine pw_iconst (5) dL_rests_5 (by decide) ?_
      refine pw_icmp_ge 48 dL_rests_6 (by decide) (fun _ => ?_) (fun zz => absurd (show (5 : Int32) ≤ nI m from nI_le (a := 5) (by omega) (by omega)) zz)
      refine t_iload1 dL_rests_48 ?_
      refine pw_iret dL_rests_49 rfl ?_
      exact ⟨rfl, rfl, rfl, rfl, rfl⟩
    | succ k ih =>
      intro m x z3 hk
      have hm : m < 5 := by omega
      have hc := hI.c hm
      have inner : ∀ (j p : Nat) (y : Int32), p + j = cnt S m → PW l m_L_rests 9 0 0 NN 11 [some (pv (some 0)), some (.int y), some (.int (nI m)), some (.int (nI p))] [] im rm lm (QP (.int (rtN S k (m + 1) (smN (fun p => S.2.2 m p 2) j p y))) im rm lm) noX := by
        intro j
        induction j with
        | zero =>
          intro p y hj
          refine t_iload3 dL_rests_11 ?_
          refine t_aload0 dL_rests_12 ?_
          refine t_iload2 dL_rests_13 ?_
          refine pw_bipush (7) dL_rests_14 (by decide) ?_
          refine g_callV2P (Q_mill (l := l) hlt hTS (m := m) (x := nI m) (a := 7) (v := 7) hm rfl rfl (by decide) (y := nI (cnt S m)) hc.2) rfl ft4 rfl mc_X4_mill ml_L_10 mi_X4_mill ms_X4_mill in_X4 (okc_X4_mill (by decide)) dL_rests_16 kdT (cat_le (Nat.le_of_ble_eq_true rfl)) ?_
          refine pw_icmp_ge 42 dL_rests_19 (by decide) (fun _ => ?_) (fun zz => absurd (nI_le (b := p) (by omega) (by omega)) zz)
          refine t_iinc2 (1) dL_rests_42 (by decide) (by exact Nat.le_of_ble_eq_true rfl) okp_i ?_
          refine pw_goto 4 dL_rests_45 (by decide) ?_
          rw [nI_1]
          exact ih (m + 1) y _ (by omega)
        | succ j ihj =>
          intro p y hj
          refine t_iload3 dL_rests_11 ?_
          refine t_aload0 dL_rests_12 ?_
          refine t_iload2 dL_rests_13 ?_
          refine pw_bipush (7) dL_rests_14 (by decide) ?_
          refine g_callV2P (Q_mill (l := l) hlt hTS (m := m) (x := nI m) (a := 7) (v := 7) hm rfl rfl (by decide) (y := nI (cnt S m)) hc.2) rfl ft4 rfl mc_X4_mill ml_L_10 mi_X4_mill ms_X4_mill in_X4 (okc_X4_mill (by decide)) dL_rests_16 kdT (cat_le (Nat.le_of_ble_eq_true rfl)) ?_
          refine pw_icmp_ge 42 dL_rests_19 (by decide) (fun zz => absurd zz (nI_ge (b := cnt S m) (a := p) (by omega) (by omega))) (fun _ => ?_)
          refine t_iload1 dL_rests_22 ?_
          refine t_aload0 dL_rests_23 ?_
          refine t_aload0 dL_rests_24 ?_
          refine t_iload2 dL_rests_25 ?_
          refine t_iload3 dL_rests_26 ?_
          refine g_callV2P (Q_sackAt (l := l) hlt hTS (m := m) (p := p) (x := nI m) (a := nI (p)) hm rfl rfl (by omega) (y := S.2.2 m p 0) (if_pos (by omega))) rfl ft4 rfl mc_X4_sackAt ml_L_16 mi_X4_sackAt ms_X4_sackAt in_X4 (okc_X4_sackAt (by decide)) dL_rests_27 kdT (cat_le (Nat.le_of_ble_eq_true rfl)) ?_
          refine pw_iconst (2) dL_rests_30 (by decide) ?_
          refine g_callV2P (Q_sackOf (l := l) hlt hTS hW (m := m) (p := p) (v := 2) (x := S.2.2 m (p) 0) (a := 2) hm (by omega) rfl rfl (by decide) (y := S.2.2 m p 2) rfl) rfl ft4 rfl mc_X4_sackOf ml_L_23 mi_X4_sackOf ms_X4_sackOf in_X4 (okc_X4_sackOf (by decide)) dL_rests_31 kdT (cat_le (Nat.le_of_ble_eq_true rfl)) ?_
          refine pw_iadd dL_rests_34 ?_
          refine t_istore1 dL_rests_35 (by exact Nat.le_of_ble_eq_true rfl) okp_r ?_
          refine t_iinc3 (1) dL_rests_36 (by decide) (by exact Nat.le_of_ble_eq_true rfl) okp_i ?_
          refine pw_goto 11 dL_rests_39 (by decide) ?_
          rw [nI_1]
          exact ihj (p + 1) _ (by omega)
      refine t_iload2 dL_rests_4 ?_
      refine pw_iconst (5) dL_rests_5 (by decide) ?_
      refine pw_icmp_ge 48 dL_rests_6 (by decide) (fun zz => absurd zz (nI_ge (b := 5) (a := m) (by omega) (by decide))) (fun _ => ?_)
      refine pw_iconst (0) dL_rests_9 (by decide) ?_
      refine t_istore3 dL_rests_10 (by exact Nat.le_of_ble_eq_true rfl) okp_i ?_
      exact inner (cnt S m) 0 x (by omega)
  refine pw_iconst (0) dL_rests_0 (by decide) ?_
  refine t_istore1 dL_rests_1 (by exact Nat.le_of_ble_eq_true rfl) okp_r ?_
  refine pw_iconst (0) dL_rests_2 (by decide) ?_
  refine t_istore2 dL_rests_3 (by exact Nat.le_of_ble_eq_true rfl) okp_i ?_
  exact outer 5 0 0 _ rfl
set_option maxHeartbeats 4000000 in
set_option maxRecDepth 100000 in
theorem H_areSacks {l : Launch} (hlt : l.stackTraces = false) {im : TI} {rm : TP} {lm : TL} {Z : TI × TP} {S : CS} {n : Nat} {T : Nat → CS} {sn : Option CS} {bl : Nat} {B : Nat → Int32} (hTS : TS Z S n T sn bl B im rm) (hW : WF S) {m : Nat} (hm : m < 5) : Con l m_L_areSacks 9 0 0 NN [pv (some 0), .int (nI m)] im rm lm (QP (.int 1) im rm lm) noX := by
  refine Con.ofN (k := 5) (L0 := [some (pv (some 0)), some (.int (nI m)), none, none, none, none, none]) hlt (by decide +kernel) rfl rfl (by rw [en1 pv_cat, en1 rfl, en0]; exact Nat.le_of_ble_eq_true rfl) (by rw [en1 pv_cat, en1 rfl, en0]; rfl) ?_
  have hI := hW.1.1
  have hc := hI.c hm
  have loop : ∀ (k p : Nat) (z4 z5 z6 : Option Value), p + k = cnt S m → PW l m_L_areSacks 9 0 0 NN 10 [some (pv (some 0)), some (.int (nI m)), some (.int (nI (cnt S m))), some (.int (nI p)), z4, z5, z6] [] im rm lm (QP (.int 1) im rm lm) noX := by
    intro k
    induction k with
    | zero =>
      intro p z4 z5 z6 hk
      have e : p = cnt S m := by omega
      subst e
      refine t_iload3 dL_areSacks_10 ?_
      refine t_iload2 dL_areSacks_11 ?_
      refine pw_icmp_ge 176 dL_areSacks_12 (by decide) (fun _ => ?_) (fun zz => absurd (Int32.le_refl _) zz)
      refine t_iload2 dL_areSacks_176 ?_
      refine pw_if_lt 200 dL_areSacks_177 (by decide) (fun zz => absurd zz (nI_pos (by omega))) (fun _ => ?_)
      refine t_iload2 dL_areSacks_180 ?_
      refine pw_bipush (6) dL_areSacks_181 (by decide) ?_
      refine pw_icmp_gt 200 dL_areSacks_183 (by decide) (fun zz => absurd zz (nI_nlt (a := 6) (b := cnt S m) hc.1 (by decide))) (fun _ => ?_)
      refine t_aload0 dL_areSacks_186 ?_
      refine t_iload1 dL_areSacks_187 ?_
      refine t_iload2 dL_areSacks_188 ?_
      refine g_callV2P (Q_sackAt (l := l) hlt hTS (m := m) (p := cnt S m) (x := nI m) (a := nI (cnt S m)) hm rfl rfl (by omega) (y := -1) (if_neg (Nat.lt_irrefl _))) rfl ft4 rfl mc_X4_sackAt ml_L_16 mi_X4_sackAt ms_X4_sackAt in_X4 (okc_X4_sackAt (by decide)) dL_areSacks_189 kdT (cat_le (Nat.le_of_ble_eq_true rfl)) ?_
      refine pw_iconst (-1) dL_areSacks_192 (by decide) ?_
      refine pw_icmp_ne 200 dL_areSacks_193 (by decide) (fun zz => absurd rfl zz) (fun _ => ?_)
      refine pw_iconst (1) dL_areSacks_196 (by decide) ?_
      refine pw_goto 201 dL_areSacks_197 (by decide) ?_
      refine pw_zret dL_areSacks_201 rfl ?_ ?_
      · first | rfl | exact bI_n
      · exact ⟨rfl, rfl, rfl, rfl, rfl⟩
    | succ k ih =>
      intro p z4 z5 z6 hk
      have hp : p < cnt S m := by omega
      have hs := hW.sk hm hp
      have hr := hW.rest hm hp
      rcases p with _ | p
      · refine t_iload3 dL_areSacks_10 ?_
        refine t_iload2 dL_areSacks_11 ?_
        refine pw_icmp_ge 176 dL_areSacks_12 (by decide) (fun zz => absurd zz (nI_ge hp (by omega))) (fun _ => ?_)
        refine t_aload0 dL_areSacks_15 ?_
        refine t_iload1 dL_areSacks_16 ?_
        refine t_iload3 dL_areSacks_17 ?_
        refine g_callV2P (Q_sackAt (l := l) hlt hTS (m := m) (p := 0) (x := nI m) (a := nI (0)) hm rfl rfl (by omega) (y := S.2.2 m (0) 0) (if_pos hp)) rfl ft4 rfl mc_X4_sackAt ml_L_16 mi_X4_sackAt ms_X4_sackAt in_X4 (okc_X4_sackAt (by decide)) dL_areSacks_18 kdT (cat_le (Nat.le_of_ble_eq_true rfl)) ?_
        refine t_istore4 dL_areSacks_21 (by exact Nat.le_of_ble_eq_true rfl) okp_i ?_
        refine t_iload4 dL_areSacks_23 ?_
        refine pw_if_lt 93 dL_areSacks_25 (by decide) (fun zz => absurd zz hs.1) (fun _ => ?_)
        refine t_iload4 dL_areSacks_28 ?_
        refine t_aload0 dL_areSacks_30 ?_
        refine pw_bipush (6) dL_areSacks_31 (by decide) ?_
        refine g_callV1P (Q_count (l := l) hlt hTS (a := 6) (v := 6) rfl (by decide) (y := S.1 5) rfl) rfl ft4 rfl mc_X4_count ml_L_19 mi_X4_count ms_X4_count in_X4 (okc_X4_count (by decide)) dL_areSacks_33 kdT (cat_le (Nat.le_of_ble_eq_true rfl)) ?_
        refine pw_icmp_ge 93 dL_areSacks_36 (by decide) (fun zz => absurd zz (Int32.not_le.mpr hs.2)) (fun _ => ?_)
        refine t_aload0 dL_areSacks_39 ?_
        refine t_iload4 dL_areSacks_40 ?_
        refine pw_iconst (0) dL_areSacks_42 (by decide) ?_
        refine g_callV2P (Q_sackOf (l := l) hlt hTS hW (m := m) (p := 0) (v := 0) (x := S.2.2 m (0) 0) (a := 0) hm hp rfl rfl (by decide) (y := nI m) rfl) rfl ft4 rfl mc_X4_sackOf ml_L_23 mi_X4_sackOf ms_X4_sackOf in_X4 (okc_X4_sackOf (by decide)) dL_areSacks_43 kdT (cat_le (Nat.le_of_ble_eq_true rfl)) ?_
        refine t_iload1 dL_areSacks_46 ?_
        refine pw_icmp_ne 93 dL_areSacks_47 (by decide) (fun zz => absurd rfl zz) (fun _ => ?_)
        refine t_aload0 dL_areSacks_50 ?_
        refine t_iload4 dL_areSacks_51 ?_
        refine pw_iconst (4) dL_areSacks_53 (by decide) ?_
        refine g_callV2P (Q_sackOf (l := l) hlt hTS hW (m := m) (p := 0) (v := 4) (x := S.2.2 m (0) 0) (a := 4) hm hp rfl rfl (by decide) (y := nI (0)) rfl) rfl ft4 rfl mc_X4_sackOf ml_L_23 mi_X4_sackOf ms_X4_sackOf in_X4 (okc_X4_sackOf (by decide)) dL_areSacks_54 kdT (cat_le (Nat.le_of_ble_eq_true rfl)) ?_
        refine t_iload3 dL_areSacks_57 ?_
        refine pw_icmp_ne 93 dL_areSacks_58 (by decide) (fun zz => absurd rfl zz) (fun _ => ?_)
        refine t_aload0 dL_areSacks_61 ?_
        refine t_iload4 dL_areSacks_62 ?_
        refine pw_iconst (2) dL_areSacks_64 (by decide) ?_
        refine g_callV2P (Q_sackOf (l := l) hlt hTS hW (m := m) (p := 0) (v := 2) (x := S.2.2 m (0) 0) (a := 2) hm hp rfl rfl (by decide) (y := S.2.2 m (0) 2) rfl) rfl ft4 rfl mc_X4_sackOf ml_L_23 mi_X4_sackOf ms_X4_sackOf in_X4 (okc_X4_sackOf (by decide)) dL_areSacks_65 kdT (cat_le (Nat.le_of_ble_eq_true rfl)) ?_
        refine pw_iconst (1) dL_areSacks_68 (by decide) ?_
        refine pw_icmp_lt 93 dL_areSacks_69 (by decide) (fun zz => absurd zz hr.1) (fun _ => ?_)
        refine t_aload0 dL_areSacks_72 ?_
        refine t_iload4 dL_areSacks_73 ?_
        refine pw_iconst (2) dL_areSacks_75 (by decide) ?_
        refine g_callV2P (Q_sackOf (l := l) hlt hTS hW (m := m) (p := 0) (v := 2) (x := S.2.2 m (0) 0) (a := 2) hm hp rfl rfl (by decide) (y := S.2.2 m (0) 2) rfl) rfl ft4 rfl mc_X4_sackOf ml_L_23 mi_X4_sackOf ms_X4_sackOf in_X4 (okc_X4_sackOf (by decide)) dL_areSacks_76 kdT (cat_le (Nat.le_of_ble_eq_true rfl)) ?_
        refine t_aload0 dL_areSacks_79 ?_
        refine t_iload4 dL_areSacks_80 ?_
        refine pw_iconst (1) dL_areSacks_82 (by decide) ?_
        refine g_callV2P (Q_sackOf (l := l) hlt hTS hW (m := m) (p := 0) (v := 1) (x := S.2.2 m (0) 0) (a := 1) hm hp rfl rfl (by decide) (y := S.2.2 m (0) 1) rfl) rfl ft4 rfl mc_X4_sackOf ml_L_23 mi_X4_sackOf ms_X4_sackOf in_X4 (okc_X4_sackOf (by decide)) dL_areSacks_83 kdT (cat_le (Nat.le_of_ble_eq_true rfl)) ?_
        refine pw_icmp_gt 93 dL_areSacks_86 (by decide) (fun zz => absurd zz hr.2) (fun _ => ?_)
        refine pw_iconst (1) dL_areSacks_89 (by decide) ?_
        refine pw_goto 94 dL_areSacks_90 (by decide) ?_
        refine t_istore5 dL_areSacks_94 (by exact Nat.le_of_ble_eq_true rfl) okp_i ?_
        refine t_iload5 dL_areSacks_96 ?_
        refine pw_if_eq 163 dL_areSacks_98 (by decide) (fun h => absurd h (by decide)) (fun _ => ?_)
        refine t_iload3 dL_areSacks_101 ?_
        refine pw_if_le 163 dL_areSacks_102 (by decide) (fun _ => ?_) (fun zz => absurd (show nI 0 ≤ 0 by decide) zz)
        refine t_iload5 dL_areSacks_163 ?_
        refine pw_if_ne 170 dL_areSacks_165 (by decide) (fun _ => ?_) (fun h => absurd (by decide) h)
        refine t_iinc3 (1) dL_areSacks_170 (by decide) (by exact Nat.le_of_ble_eq_true rfl) okp_i ?_
        refine pw_goto 10 dL_areSacks_173 (by decide) ?_
        rw [nI_1]
        exact ih (0 + 1) _ _ _ (by omega)
      · rcases hW.ord hm hp with ho | ho
        · refine t_iload3 dL_areSacks_10 ?_
          refine t_iload2 dL_areSacks_11 ?_
          refine pw_icmp_ge 176 dL_areSacks_12 (by decide) (fun zz => absurd zz (nI_ge hp (by omega))) (fun _ => ?_)
          refine t_aload0 dL_areSacks_15 ?_
          refine t_iload1 dL_areSacks_16 ?_
          refine t_iload3 dL_areSacks_17 ?_
          refine g_callV2P (Q_sackAt (l := l) hlt hTS (m := m) (p := p + 1) (x := nI m) (a := nI (p + 1)) hm rfl rfl (by omega) (y := S.2.2 m (p + 1) 0) (if_pos hp)) rfl ft4 rfl mc_X4_sackAt ml_L_16 mi_X4_sackAt ms_X4_sackAt in_X4 (okc_X4_sackAt (by decide)) dL_areSacks_18 kdT (cat_le (Nat.le_of_ble_eq_true rfl)) ?_
          refine t_istore4 dL_areSacks_21 (by exact Nat.le_of_ble_eq_true rfl) okp_i ?_
          refine t_iload4 dL_areSacks_23 ?_
          refine pw_if_lt 93 dL_areSacks_25 (by decide) (fun zz => absurd zz hs.1) (fun _ => ?_)
          refine t_iload4 dL_areSacks_28 ?_
          refine t_aload0 dL_areSacks_30 ?_
          refine pw_bipush (6) dL_areSacks_31 (by decide) ?_
          refine g_callV1P (Q_count (l := l) hlt hTS (a := 6) (v := 6) rfl (by decide) (y := S.1 5) rfl) rfl ft4 rfl mc_X4_count ml_L_19 mi_X4_count ms_X4_count in_X4 (okc_X4_count (by decide)) dL_areSacks_33 kdT (cat_le (Nat.le_of_ble_eq_true rfl)) ?_
          refine pw_icmp_ge 93 dL_areSacks_36 (by decide) (fun zz => absurd zz (Int32.not_le.mpr hs.2)) (fun _ => ?_)
          refine t_aload0 dL_areSacks_39 ?_
          refine t_iload4 dL_areSacks_40 ?_
          refine pw_iconst (0) dL_areSacks_42 (by decide) ?_
          refine g_callV2P (Q_sackOf (l := l) hlt hTS hW (m := m) (p := p + 1) (v := 0) (x := S.2.2 m (p + 1) 0) (a := 0) hm hp rfl rfl (by decide) (y := nI m) rfl) rfl ft4 rfl mc_X4_sackOf ml_L_23 mi_X4_sackOf ms_X4_sackOf in_X4 (okc_X4_sackOf (by decide)) dL_areSacks_43 kdT (cat_le (Nat.le_of_ble_eq_true rfl)) ?_
          refine t_iload1 dL_areSacks_46 ?_
          refine pw_icmp_ne 93 dL_areSacks_47 (by decide) (fun zz => absurd rfl zz) (fun _ => ?_)
          refine t_aload0 dL_areSacks_50 ?_
          refine t_iload4 dL_areSacks_51 ?_
          refine pw_iconst (4) dL_areSacks_53 (by decide) ?_
          refine g_callV2P (Q_sackOf (l := l) hlt hTS hW (m := m) (p := p + 1) (v := 4) (x := S.2.2 m (p + 1) 0) (a := 4) hm hp rfl rfl (by decide) (y := nI (p + 1)) rfl) rfl ft4 rfl mc_X4_sackOf ml_L_23 mi_X4_sackOf ms_X4_sackOf in_X4 (okc_X4_sackOf (by decide)) dL_areSacks_54 kdT (cat_le (Nat.le_of_ble_eq_true rfl)) ?_
          refine t_iload3 dL_areSacks_57 ?_
          refine pw_icmp_ne 93 dL_areSacks_58 (by decide) (fun zz => absurd rfl zz) (fun _ => ?_)
          refine t_aload0 dL_areSacks_61 ?_
          refine t_iload4 dL_areSacks_62 ?_
          refine pw_iconst (2) dL_areSacks_64 (by decide) ?_
          refine g_callV2P (Q_sackOf (l := l) hlt hTS hW (m := m) (p := p + 1) (v := 2) (x := S.2.2 m (p + 1) 0) (a := 2) hm hp rfl rfl (by decide) (y := S.2.2 m (p + 1) 2) rfl) rfl ft4 rfl mc_X4_sackOf ml_L_23 mi_X4_sackOf ms_X4_sackOf in_X4 (okc_X4_sackOf (by decide)) dL_areSacks_65 kdT (cat_le (Nat.le_of_ble_eq_true rfl)) ?_
          refine pw_iconst (1) dL_areSacks_68 (by decide) ?_
          refine pw_icmp_lt 93 dL_areSacks_69 (by decide) (fun zz => absurd zz hr.1) (fun _ => ?_)
          refine t_aload0 dL_areSacks_72 ?_
          refine t_iload4 dL_areSacks_73 ?_
          refine pw_iconst (2) dL_areSacks_75 (by decide) ?_
          refine g_callV2P (Q_sackOf (l := l) hlt hTS hW (m := m) (p := p + 1) (v := 2) (x := S.2.2 m (p + 1) 0) (a := 2) hm hp rfl rfl (by decide) (y := S.2.2 m (p + 1) 2) rfl) rfl ft4 rfl mc_X4_sackOf ml_L_23 mi_X4_sackOf ms_X4_sackOf in_X4 (okc_X4_sackOf (by decide)) dL_areSacks_76 kdT (cat_le (Nat.le_of_ble_eq_true rfl)) ?_
          refine t_aload0 dL_areSacks_79 ?_
          refine t_iload4 dL_areSacks_80 ?_
          refine pw_iconst (1) dL_areSacks_82 (by decide) ?_
          refine g_callV2P (Q_sackOf (l := l) hlt hTS hW (m := m) (p := p + 1) (v := 1) (x := S.2.2 m (p + 1) 0) (a := 1) hm hp rfl rfl (by decide) (y := S.2.2 m (p + 1) 1) rfl) rfl ft4 rfl mc_X4_sackOf ml_L_23 mi_X4_sackOf ms_X4_sackOf in_X4 (okc_X4_sackOf (by decide)) dL_areSacks_83 kdT (cat_le (Nat.le_of_ble_eq_true rfl)) ?_
          refine pw_icmp_gt 93 dL_areSacks_86 (by decide) (fun zz => absurd zz hr.2) (fun _ => ?_)
          refine pw_iconst (1) dL_areSacks_89 (by decide) ?_
          refine pw_goto 94 dL_areSacks_90 (by decide) ?_
          refine t_istore5 dL_areSacks_94 (by exact Nat.le_of_ble_eq_true rfl) okp_i ?_
          refine t_iload5 dL_areSacks_96 ?_
          refine pw_if_eq 163 dL_areSacks_98 (by decide) (fun h => absurd h (by decide)) (fun _ => ?_)
          refine t_iload3 dL_areSacks_101 ?_
          refine pw_if_le 163 dL_areSacks_102 (by decide) (fun zz => absurd zz (nI_nle (n := p + 1) (by omega) (by omega))) (fun _ => ?_)
          refine t_aload0 dL_areSacks_105 ?_
          refine t_iload1 dL_areSacks_106 ?_
          refine t_iload3 dL_areSacks_107 ?_
          refine pw_iconst (1) dL_areSacks_108 (by decide) ?_
          refine pw_isub dL_areSacks_109 ?_
          rw [nI_pred]
          refine g_callV2P (Q_sackAt (l := l) hlt hTS (m := m) (p := p) (x := nI m) (a := nI (p)) hm rfl rfl (by omega) (y := S.2.2 m p 0) (if_pos (by omega))) rfl ft4 rfl mc_X4_sackAt ml_L_16 mi_X4_sackAt ms_X4_sackAt in_X4 (okc_X4_sackAt (by decide)) dL_areSacks_110 kdT (cat_le (Nat.le_of_ble_eq_true rfl)) ?_
          refine t_istore6 dL_areSacks_113 (by exact Nat.le_of_ble_eq_true rfl) okp_i ?_
          refine t_aload0 dL_areSacks_115 ?_
          refine t_iload6 dL_areSacks_116 ?_
          refine pw_iconst (3) dL_areSacks_118 (by decide) ?_
          refine g_callV2P (Q_sackOf (l := l) hlt hTS hW (m := m) (p := p) (v := 3) (x := S.2.2 m (p) 0) (a := 3) hm (by omega) rfl rfl (by decide) (y := S.2.2 m p 3) rfl) rfl ft4 rfl mc_X4_sackOf ml_L_23 mi_X4_sackOf ms_X4_sackOf in_X4 (okc_X4_sackOf (by decide)) dL_areSacks_119 kdT (cat_le (Nat.le_of_ble_eq_true rfl)) ?_
          refine t_aload0 dL_areSacks_122 ?_
          refine t_iload4 dL_areSacks_123 ?_
          refine pw_iconst (3) dL_areSacks_125 (by decide) ?_
          refine g_callV2P (Q_sackOf (l := l) hlt hTS hW (m := m) (p := p + 1) (v := 3) (x := S.2.2 m (p + 1) 0) (a := 3) hm hp rfl rfl (by decide) (y := S.2.2 m (p + 1) 3) rfl) rfl ft4 rfl mc_X4_sackOf ml_L_23 mi_X4_sackOf ms_X4_sackOf in_X4 (okc_X4_sackOf (by decide)) dL_areSacks_126 kdT (cat_le (Nat.le_of_ble_eq_true rfl)) ?_
          refine pw_icmp_lt 156 dL_areSacks_129 (by decide) (fun _ => ?_) (fun zz => absurd ho zz)
          refine pw_iconst (1) dL_areSacks_156 (by decide) ?_
          refine pw_goto 161 dL_areSacks_157 (by decide) ?_
          refine t_istore5 dL_areSacks_161 (by exact Nat.le_of_ble_eq_true rfl) okp_i ?_
          refine t_iload5 dL_areSacks_163 ?_
          refine pw_if_ne 170 dL_areSacks_165 (by decide) (fun _ => ?_) (fun h => absurd (by decide) h)
          refine t_iinc3 (1) dL_areSacks_170 (by decide) (by exact Nat.le_of_ble_eq_true rfl) okp_i ?_
          refine pw_goto 10 dL_areSacks_173 (by decide) ?_
          rw [nI_1]
          exact ih (p + 1 + 1) _ _ _ (by omega)
        · refine t_iload3 dL_areSacks_10 ?_
          refine t_iload2 dL_areSacks_11 ?_
          refine pw_icmp_ge 176 dL_areSacks_12 (by decide) (fun zz => absurd zz (nI_ge hp (by omega))) (fun _ => ?_)
          refine t_aload0 dL_areSacks_15 ?_
          refine t_iload1 dL_areSacks_16 ?_
          refine t_iload3 dL_areSacks_17 ?_
          refine g_callV2P (Q_sackAt (l := l) hlt hTS (m := m) (p := p + 1) (x := nI m) (a := nI (p + 1)) hm rfl rfl (by omega) (y := S.2.2 m (p + 1) 0) (if_pos hp)) rfl ft4 rfl mc_X4_sackAt ml_L_16 mi_X4_sackAt ms_X4_sackAt in_X4 (okc_X4_sackAt (by decide)) dL_areSacks_18 kdT (cat_le (Nat.le_of_ble_eq_true rfl)) ?_
          refine t_istore4 dL_areSacks_21 (by exact Nat.le_of_ble_eq_true rfl) okp_i ?_
          refine t_iload4 dL_areSacks_23 ?_
          refine pw_if_lt 93 dL_areSacks_25 (by decide) (fun zz => absurd zz hs.1) (fun _ => ?_)
          refine t_iload4 dL_areSacks_28 ?_
          refine t_aload0 dL_areSacks_30 ?_
          refine pw_bipush (6) dL_areSacks_31 (by decide) ?_
          refine g_callV1P (Q_count (l := l) hlt hTS (a := 6) (v := 6) rfl (by decide) (y := S.1 5) rfl) rfl ft4 rfl mc_X4_count ml_L_19 mi_X4_count ms_X4_count in_X4 (okc_X4_count (by decide)) dL_areSacks_33 kdT (cat_le (Nat.le_of_ble_eq_true rfl)) ?_
          refine pw_icmp_ge 93 dL_areSacks_36 (by decide) (fun zz => absurd zz (Int32.not_le.mpr hs.2)) (fun _ => ?_)
          refine t_aload0 dL_areSacks_39 ?_
          refine t_iload4 dL_areSacks_40 ?_
          refine pw_iconst (0) dL_areSacks_42 (by decide) ?_
          refine g_callV2P (Q_sackOf (l := l) hlt hTS hW (m := m) (p := p + 1) (v := 0) (x := S.2.2 m (p + 1) 0) (a := 0) hm hp rfl rfl (by decide) (y := nI m) rfl) rfl ft4 rfl mc_X4_sackOf ml_L_23 mi_X4_sackOf ms_X4_sackOf in_X4 (okc_X4_sackOf (by decide)) dL_areSacks_43 kdT (cat_le (Nat.le_of_ble_eq_true rfl)) ?_
          refine t_iload1 dL_areSacks_46 ?_
          refine pw_icmp_ne 93 dL_areSacks_47 (by decide) (fun zz => absurd rfl zz) (fun _ => ?_)
          refine t_aload0 dL_areSacks_50 ?_
          refine t_iload4 dL_areSacks_51 ?_
          refine pw_iconst (4) dL_areSacks_53 (by decide) ?_
          refine g_callV2P (Q_sackOf (l := l) hlt hTS hW (m := m) (p := p + 1) (v := 4) (x := S.2.2 m (p + 1) 0) (a := 4) hm hp rfl rfl (by decide) (y := nI (p + 1)) rfl) rfl ft4 rfl mc_X4_sackOf ml_L_23 mi_X4_sackOf ms_X4_sackOf in_X4 (okc_X4_sackOf (by decide)) dL_areSacks_54 kdT (cat_le (Nat.le_of_ble_eq_true rfl)) ?_
          refine t_iload3 dL_areSacks_57 ?_
          refine pw_icmp_ne 93 dL_areSacks_58 (by decide) (fun zz => absurd rfl zz) (fun _ => ?_)
          refine t_aload0 dL_areSacks_61 ?_
          refine t_iload4 dL_areSacks_62 ?_
          refine pw_iconst (2) dL_areSacks_64 (by decide) ?_
          refine g_callV2P (Q_sackOf (l := l) hlt hTS hW (m := m) (p := p + 1) (v := 2) (x := S.2.2 m (p + 1) 0) (a := 2) hm hp rfl rfl (by decide) (y := S.2.2 m (p + 1) 2) rfl) rfl ft4 rfl mc_X4_sackOf ml_L_23 mi_X4_sackOf ms_X4_sackOf in_X4 (okc_X4_sackOf (by decide)) dL_areSacks_65 kdT (cat_le (Nat.le_of_ble_eq_true rfl)) ?_
          refine pw_iconst (1) dL_areSacks_68 (by decide) ?_
          refine pw_icmp_lt 93 dL_areSacks_69 (by decide) (fun zz => absurd zz hr.1) (fun _ => ?_)
          refine t_aload0 dL_areSacks_72 ?_
          refine t_iload4 dL_areSacks_73 ?_
          refine pw_iconst (2) dL_areSacks_75 (by decide) ?_
          refine g_callV2P (Q_sackOf (l := l) hlt hTS hW (m := m) (p := p + 1) (v := 2) (x := S.2.2 m (p + 1) 0) (a := 2) hm hp rfl rfl (by decide) (y := S.2.2 m (p + 1) 2) rfl) rfl ft4 rfl mc_X4_sackOf ml_L_23 mi_X4_sackOf ms_X4_sackOf in_X4 (okc_X4_sackOf (by decide)) dL_areSacks_76 kdT (cat_le (Nat.le_of_ble_eq_true rfl)) ?_
          refine t_aload0 dL_areSacks_79 ?_
          refine t_iload4 dL_areSacks_80 ?_
          refine pw_iconst (1) dL_areSacks_82 (by decide) ?_
          refine g_callV2P (Q_sackOf (l := l) hlt hTS hW (m := m) (p := p + 1) (v := 1) (x := S.2.2 m (p + 1) 0) (a := 1) hm hp rfl rfl (by decide) (y := S.2.2 m (p + 1) 1) rfl) rfl ft4 rfl mc_X4_sackOf ml_L_23 mi_X4_sackOf ms_X4_sackOf in_X4 (okc_X4_sackOf (by decide)) dL_areSacks_83 kdT (cat_le (Nat.le_of_ble_eq_true rfl)) ?_
          refine pw_icmp_gt 93 dL_areSacks_86 (by decide) (fun zz => absurd zz hr.2) (fun _ => ?_)
          refine pw_iconst (1) dL_areSacks_89 (by decide) ?_
          refine pw_goto 94 dL_areSacks_90 (by decide) ?_
          refine t_istore5 dL_areSacks_94 (by exact Nat.le_of_ble_eq_true rfl) okp_i ?_
          refine t_iload5 dL_areSacks_96 ?_
          refine pw_if_eq 163 dL_areSacks_98 (by decide) (fun h => absurd h (by decide)) (fun _ => ?_)
          refine t_iload3 dL_areSacks_101 ?_
          refine pw_if_le 163 dL_areSacks_102 (by decide) (fun zz => absurd zz (nI_nle (n := p + 1) (by omega) (by omega))) (fun _ => ?_)
          refine t_aload0 dL_areSacks_105 ?_
          refine t_iload1 dL_areSacks_106 ?_
          refine t_iload3 dL_areSacks_107 ?_
          refine pw_iconst (1) dL_areSacks_108 (by decide) ?_
          refine pw_isub dL_areSacks_109 ?_
          rw [nI_pred]
          refine g_callV2P (Q_sackAt (l := l) hlt hTS (m := m) (p := p) (x := nI m) (a := nI (p)) hm rfl rfl (by omega) (y := S.2.2 m p 0) (if_pos (by omega))) rfl ft4 rfl mc_X4_sackAt ml_L_16 mi_X4_sackAt ms_X4_sackAt in_X4 (okc_X4_sackAt (by decide)) dL_areSacks_110 kdT (cat_le (Nat.le_of_ble_eq_true rfl)) ?_
          refine t_istore6 dL_areSacks_113 (by exact Nat.le_of_ble_eq_true rfl) okp_i ?_
          refine t_aload0 dL_areSacks_115 ?_
          refine t_iload6 dL_areSacks_116 ?_
          refine pw_iconst (3) dL_areSacks_118 (by decide) ?_
          refine g_callV2P (Q_sackOf (l := l) hlt hTS hW (m := m) (p := p) (v := 3) (x := S.2.2 m (p) 0) (a := 3) hm (by omega) rfl rfl (by decide) (y := S.2.2 m p 3) rfl) rfl ft4 rfl mc_X4_sackOf ml_L_23 mi_X4_sackOf ms_X4_sackOf in_X4 (okc_X4_sackOf (by decide)) dL_areSacks_119 kdT (cat_le (Nat.le_of_ble_eq_true rfl)) ?_
          refine t_aload0 dL_areSacks_122 ?_
          refine t_iload4 dL_areSacks_123 ?_
          refine pw_iconst (3) dL_areSacks_125 (by decide) ?_
          refine g_callV2P (Q_sackOf (l := l) hlt hTS hW (m := m) (p := p + 1) (v := 3) (x := S.2.2 m (p + 1) 0) (a := 3) hm hp rfl rfl (by decide) (y := S.2.2 m (p + 1) 3) rfl) rfl ft4 rfl mc_X4_sackOf ml_L_23 mi_X4_sackOf ms_X4_sackOf in_X4 (okc_X4_sackOf (by decide)) dL_areSacks_126 kdT (cat_le (Nat.le_of_ble_eq_true rfl)) ?_
          refine pw_icmp_lt 156 dL_areSacks_129 (by decide) (fun zz => absurd zz (fun z => i32_lt_irr (ho.1 ▸ z))) (fun _ => ?_)
          refine t_aload0 dL_areSacks_132 ?_
          refine t_iload6 dL_areSacks_133 ?_
          refine pw_iconst (3) dL_areSacks_135 (by decide) ?_
          refine g_callV2P (Q_sackOf (l := l) hlt hTS hW (m := m) (p := p) (v := 3) (x := S.2.2 m (p) 0) (a := 3) hm (by omega) rfl rfl (by decide) (y := S.2.2 m p 3) rfl) rfl ft4 rfl mc_X4_sackOf ml_L_23 mi_X4_sackOf ms_X4_sackOf in_X4 (okc_X4_sackOf (by decide)) dL_areSacks_136 kdT (cat_le (Nat.le_of_ble_eq_true rfl)) ?_
          refine t_aload0 dL_areSacks_139 ?_
          refine t_iload4 dL_areSacks_140 ?_
          refine pw_iconst (3) dL_areSacks_142 (by decide) ?_
          refine g_callV2P (Q_sackOf (l := l) hlt hTS hW (m := m) (p := p + 1) (v := 3) (x := S.2.2 m (p + 1) 0) (a := 3) hm hp rfl rfl (by decide) (y := S.2.2 m (p + 1) 3) rfl) rfl ft4 rfl mc_X4_sackOf ml_L_23 mi_X4_sackOf ms_X4_sackOf in_X4 (okc_X4_sackOf (by decide)) dL_areSacks_143 kdT (cat_le (Nat.le_of_ble_eq_true rfl)) ?_
          refine pw_icmp_ne 160 dL_areSacks_146 (by decide) (fun zz => absurd ho.1 zz) (fun _ => ?_)
          refine t_iload6 dL_areSacks_149 ?_
          refine t_iload4 dL_areSacks_151 ?_
          refine pw_icmp_ge 160 dL_areSacks_153 (by decide) (fun zz => absurd zz (Int32.not_le.mpr ho.2)) (fun _ => ?_)
          refine pw_iconst (1) dL_areSacks_156 (by decide) ?_
          refine pw_goto 161 dL_areSacks_157 (by decide) ?_
          refine t_istore5 dL_areSacks_161 (by exact Nat.le_of_ble_eq_true rfl) okp_i ?_
          refine t_iload5 dL_areSacks_163 ?_
          refine pw_if_ne 170 dL_areSacks_165 (by decide) (fun _ => ?_) (fun h => absurd (by decide) h)
          refine t_iinc3 (1) dL_areSacks_170 (by decide) (by exact Nat.le_of_ble_eq_true rfl) okp_i ?_
          refine pw_goto 10 dL_areSacks_173 (by decide) ?_
          rw [nI_1]
          exact ih (p + 1 + 1) _ _ _ (by omega)
  refine t_aload0 dL_areSacks_0 ?_
  refine t_iload1 dL_areSacks_1 ?_
  refine pw_bipush (7) dL_areSacks_2 (by decide) ?_
  refine g_callV2P (Q_mill (l := l) hlt hTS (m := m) (x := nI m) (a := 7) (v := 7) hm rfl rfl (by decide) (y := nI (cnt S m)) hc.2) rfl ft4 rfl mc_X4_mill ml_L_10 mi_X4_mill ms_X4_mill in_X4 (okc_X4_mill (by decide)) dL_areSacks_4 kdT (cat_le (Nat.le_of_ble_eq_true rfl)) ?_
  refine t_istore2 dL_areSacks_7 (by exact Nat.le_of_ble_eq_true rfl) okp_i ?_
  refine pw_iconst (0) dL_areSacks_8 (by decide) ?_
  refine t_istore3 dL_areSacks_9 (by exact Nat.le_of_ble_eq_true rfl) okp_i ?_
  exact loop (cnt S m) 0 _ _ _ (by omega)
set_option maxHeartbeats 4000000 in
set_option maxRecDepth 100000 in
theorem H_isMill {l : Launch} (hlt : l.stackTraces = false) {im : TI} {rm : TP} {lm : TL} {Z : TI × TP} {S : CS} {n : Nat} {T : Nat → CS} {sn : Option CS} {bl : Nat} {B : Nat → Int32} (hTS : TS Z S n T sn bl B im rm) (hW : WF S) (hg0 : 0 ≤ S.1 0) {m : Nat} (hm : m < 5) : Con l m_L_isMill 10 0 0 NN [pv (some 0), .int (nI m)] im rm lm (QP (.int 1) im rm lm) noX := by
  refine Con.ofN (k := 2) (L0 := [some (pv (some 0)), some (.int (nI m)), none, none]) hlt (by decide +kernel) rfl rfl (by rw [en1 pv_cat, en1 rfl, en0]; exact Nat.le_of_ble_eq_true rfl) (by rw [en1 pv_cat, en1 rfl, en0]; rfl) ?_
  have hw := hW.wat hm
  by_cases h9 : S.2.1 m 9 = 0
  · refine t_aload0 dL_isMill_0 ?_
    refine t_iload1 dL_isMill_1 ?_
    refine pw_iconst (1) dL_isMill_2 (by decide) ?_
    refine g_callV2P (Q_mill (l := l) hlt hTS (m := m) (x := nI m) (a := 1) (v := 1) hm rfl rfl (by decide) (y := S.2.1 m 1) rfl) rfl ft4 rfl mc_X4_mill ml_L_10 mi_X4_mill ms_X4_mill in_X4 (okc_X4_mill (by decide)) dL_isMill_3 kdT (cat_le (Nat.le_of_ble_eq_true rfl)) ?_
    refine pw_bipush (100) dL_isMill_6 (by decide) ?_
    refine pw_imul dL_isMill_8 ?_
    refine t_aload0 dL_isMill_9 ?_
    refine t_iload1 dL_isMill_10 ?_
    refine pw_iconst (0) dL_isMill_11 (by decide) ?_
    refine g_callV2P (Q_mill (l := l) hlt hTS (m := m) (x := nI m) (a := 0) (v := 0) hm rfl rfl (by decide) (y := S.2.1 m 0) rfl) rfl ft4 rfl mc_X4_mill ml_L_10 mi_X4_mill ms_X4_mill in_X4 (okc_X4_mill (by decide)) dL_isMill_12 kdT (cat_le (Nat.le_of_ble_eq_true rfl)) ?_
    refine pw_idiv dL_isMill_15 hw.2.2 ?_
    refine t_aload0 dL_isMill_16 ?_
    refine t_aload0 dL_isMill_17 ?_
    refine pw_iconst (0) dL_isMill_18 (by decide) ?_
    refine g_callV1P (Q_count (l := l) hlt hTS (a := 0) (v := 0) rfl (by decide) (y := S.1 0) rfl) rfl ft4 rfl mc_X4_count ml_L_19 mi_X4_count ms_X4_count in_X4 (okc_X4_count (by decide)) dL_isMill_19 kdT (cat_le (Nat.le_of_ble_eq_true rfl)) ?_
    refine g_callV1P (Q_tide (l := l) hlt hTS hg0) rfl ft4 rfl mc_X4_tide ml_L_26 mi_X4_tide ms_X4_tide in_X4 (okc_X4_tide (by decide)) dL_isMill_22 kdT (cat_le (Nat.le_of_ble_eq_true rfl)) ?_
    refine pw_isub dL_isMill_25 ?_
    rw [← hd_is hW hm]
    refine t_istore2 dL_isMill_26 (by exact Nat.le_of_ble_eq_true rfl) okp_i ?_
    refine t_aload0 dL_isMill_27 ?_
    refine t_iload1 dL_isMill_28 ?_
    refine pw_bipush (7) dL_isMill_29 (by decide) ?_
    refine g_callV2P (Q_mill (l := l) hlt hTS (m := m) (x := nI m) (a := 7) (v := 7) hm rfl rfl (by decide) (y := S.2.1 m 9) rfl) rfl ft4 rfl mc_X4_mill ml_L_10 mi_X4_mill ms_X4_mill in_X4 (okc_X4_mill (by decide)) dL_isMill_31 kdT (cat_le (Nat.le_of_ble_eq_true rfl)) ?_
    refine pw_if_ne 41 dL_isMill_34 (by decide) (fun zz => absurd h9 zz) (fun _ => ?_)
    refine pw_iconst (1) dL_isMill_37 (by decide) ?_
    refine pw_goto 75 dL_isMill_38 (by decide) ?_
    refine t_istore3 dL_isMill_75 (by exact Nat.le_of_ble_eq_true rfl) okp_i ?_
    refine t_aload0 dL_isMill_76 ?_
    refine t_iload1 dL_isMill_77 ?_
    refine pw_iconst (1) dL_isMill_78 (by decide) ?_
    refine g_callV2P (Q_mill (l := l) hlt hTS (m := m) (x := nI m) (a := 1) (v := 1) hm rfl rfl (by decide) (y := S.2.1 m 1) rfl) rfl ft4 rfl mc_X4_mill ml_L_10 mi_X4_mill ms_X4_mill in_X4 (okc_X4_mill (by decide)) dL_isMill_79 kdT (cat_le (Nat.le_of_ble_eq_true rfl)) ?_
    refine pw_if_lt 136 dL_isMill_82 (by decide) (fun zz => absurd zz hw.1) (fun _ => ?_)
    refine t_aload0 dL_isMill_85 ?_
    refine t_iload1 dL_isMill_86 ?_
    refine pw_iconst (1) dL_isMill_87 (by decide) ?_
    refine g_callV2P (Q_mill (l := l) hlt hTS (m := m) (x := nI m) (a := 1) (v := 1) hm rfl rfl (by decide) (y := S.2.1 m 1) rfl) rfl ft4 rfl mc_X4_mill ml_L_10 mi_X4_mill ms_X4_mill in_X4 (okc_X4_mill (by decide)) dL_isMill_88 kdT (cat_le (Nat.le_of_ble_eq_true rfl)) ?_
    refine t_aload0 dL_isMill_91 ?_
    refine t_iload1 dL_isMill_92 ?_
    refine pw_iconst (0) dL_isMill_93 (by decide) ?_
    refine g_callV2P (Q_mill (l := l) hlt hTS (m := m) (x := nI m) (a := 0) (v := 0) hm rfl rfl (by decide) (y := S.2.1 m 0) rfl) rfl ft4 rfl mc_X4_mill ml_L_10 mi_X4_mill ms_X4_mill in_X4 (okc_X4_mill (by decide)) dL_isMill_94 kdT (cat_le (Nat.le_of_ble_eq_true rfl)) ?_
    refine pw_icmp_gt 136 dL_isMill_97 (by decide) (fun zz => absurd zz hw.2.1) (fun _ => ?_)
    refine t_aload0 dL_isMill_100 ?_
    refine t_iload1 dL_isMill_101 ?_
    refine pw_bipush (8) dL_isMill_102 (by decide) ?_
    refine g_callV2P (Q_mill (l := l) hlt hTS (m := m) (x := nI m) (a := 8) (v := 8) hm rfl rfl (by decide) (y := hd S m + 1000) rfl) rfl ft4 rfl mc_X4_mill ml_L_10 mi_X4_mill ms_X4_mill in_X4 (okc_X4_mill (by decide)) dL_isMill_104 kdT (cat_le (Nat.le_of_ble_eq_true rfl)) ?_
    refine t_iload2 dL_isMill_107 ?_
    refine pw_sipush (1000) dL_isMill_108 (by decide) ?_
    refine pw_iadd dL_isMill_111 ?_
    refine pw_icmp_ne 136 dL_isMill_112 (by decide) (fun zz => absurd rfl zz) (fun _ => ?_)
    refine t_aload0 dL_isMill_115 ?_
    refine t_iload1 dL_isMill_116 ?_
    refine g_callV1P (Q_why (l := l) hlt hTS (m := m) (x := nI m) hm rfl) rfl ft4 rfl mc_X4_whyNot ml_L_29 mi_X4_whyNot ms_X4_whyNot in_X4 (okc_X4_whyNot (by decide)) dL_isMill_117 kdT (cat_le (Nat.le_of_ble_eq_true rfl)) ?_
    refine t_iload3 dL_isMill_120 ?_
    refine pw_icmp_ne 136 dL_isMill_121 (by decide) (fun zz => absurd (show rsF S m = 1 from if_pos h9) zz) (fun _ => ?_)
    refine t_aload0 dL_isMill_124 ?_
    refine t_iload1 dL_isMill_125 ?_
    refine g_callS2P (H_areSacks (l := l) hlt hTS hW hm) rfl mc_L_areSacks ml_L_32 mi_L_areSacks in_L (okc_L_areSacks (by decide)) dL_isMill_126 (Nat.zero_le _) ?_
    refine pw_if_eq 136 dL_isMill_129 (by decide) (fun h => absurd h (by decide)) (fun _ => ?_)
    refine pw_iconst (1) dL_isMill_132 (by decide) ?_
    refine pw_goto 137 dL_isMill_133 (by decide) ?_
    refine pw_zret dL_isMill_137 rfl ?_ ?_
    · first | rfl | exact bI_n
    · exact ⟨rfl, rfl, rfl, rfl, rfl⟩
  · by_cases h10 : hd S m < S.1 10
    · refine t_aload0 dL_isMill_0 ?_
      refine t_iload1 dL_isMill_1 ?_
      refine pw_iconst (1) dL_isMill_2 (by decide) ?_
      refine g_callV2P (Q_mill (l := l) hlt hTS (m := m) (x := nI m) (a := 1) (v := 1) hm rfl rfl (by decide) (y := S.2.1 m 1) rfl) rfl ft4 rfl mc_X4_mill ml_L_10 mi_X4_mill ms_X4_mill in_X4 (okc_X4_mill (by decide)) dL_isMill_3 kdT (cat_le (Nat.le_of_ble_eq_true rfl)) ?_
      refine pw_bipush (100) dL_isMill_6 (by decide) ?_
      refine pw_imul dL_isMill_8 ?_
      refine t_aload0 dL_isMill_9 ?_
      refine t_iload1 dL_isMill_10 ?_
      refine pw_iconst (0) dL_isMill_11 (by decide) ?_
      refine g_callV2P (Q_mill (l := l) hlt hTS (m := m) (x := nI m) (a := 0) (v := 0) hm rfl rfl (by decide) (y := S.2.1 m 0) rfl) rfl ft4 rfl mc_X4_mill ml_L_10 mi_X4_mill ms_X4_mill in_X4 (okc_X4_mill (by decide)) dL_isMill_12 kdT (cat_le (Nat.le_of_ble_eq_true rfl)) ?_
      refine pw_idiv dL_isMill_15 hw.2.2 ?_
      refine t_aload0 dL_isMill_16 ?_
      refine t_aload0 dL_isMill_17 ?_
      refine pw_iconst (0) dL_isMill_18 (by decide) ?_
      refine g_callV1P (Q_count (l := l) hlt hTS (a := 0) (v := 0) rfl (by decide) (y := S.1 0) rfl) rfl ft4 rfl mc_X4_count ml_L_19 mi_X4_count ms_X4_count in_X4 (okc_X4_count (by decide)) dL_isMill_19 kdT (cat_le (Nat.le_of_ble_eq_true rfl)) ?_
      refine g_callV1P (Q_tide (l := l) hlt hTS hg0) rfl ft4 rfl mc_X4_tide ml_L_26 mi_X4_tide ms_X4_tide in_X4 (okc_X4_tide (by decide)) dL_isMill_22 kdT (cat_le (Nat.le_of_ble_eq_true rfl)) ?_
      refine pw_isub dL_isMill_25 ?_
      rw [← hd_is hW hm]
      refine t_istore2 dL_isMill_26 (by exact Nat.le_of_ble_eq_true rfl) okp_i ?_
      refine t_aload0 dL_isMill_27 ?_
      refine t_iload1 dL_isMill_28 ?_
      refine pw_bipush (7) dL_isMill_29 (by decide) ?_
      refine g_callV2P (Q_mill (l := l) hlt hTS (m := m) (x := nI m) (a := 7) (v := 7) hm rfl rfl (by decide) (y := S.2.1 m 9) rfl) rfl ft4 rfl mc_X4_mill ml_L_10 mi_X4_mill ms_X4_mill in_X4 (okc_X4_mill (by decide)) dL_isMill_31 kdT (cat_le (Nat.le_of_ble_eq_true rfl)) ?_
      refine pw_if_ne 41 dL_isMill_34 (by decide) (fun _ => ?_) (fun zz => absurd h9 zz)
      refine t_iload2 dL_isMill_41 ?_
      refine t_aload0 dL_isMill_42 ?_
      refine pw_bipush (12) dL_isMill_43 (by decide) ?_
      refine g_callV1P (Q_count (l := l) hlt hTS (a := 12) (v := 12) rfl (by decide) (y := S.1 10) rfl) rfl ft4 rfl mc_X4_count ml_L_19 mi_X4_count ms_X4_count in_X4 (okc_X4_count (by decide)) dL_isMill_45 kdT (cat_le (Nat.le_of_ble_eq_true rfl)) ?_
      refine pw_icmp_ge 55 dL_isMill_48 (by decide) (fun zz => absurd zz (Int32.not_le.mpr h10)) (fun _ => ?_)
      refine pw_iconst (2) dL_isMill_51 (by decide) ?_
      refine pw_goto 75 dL_isMill_52 (by decide) ?_
      refine t_istore3 dL_isMill_75 (by exact Nat.le_of_ble_eq_true rfl) okp_i ?_
      refine t_aload0 dL_isMill_76 ?_
      refine t_iload1 dL_isMill_77 ?_
      refine pw_iconst (1) dL_isMill_78 (by decide) ?_
      refine g_callV2P (Q_mill (l := l) hlt hTS (m := m) (x := nI m) (a := 1) (v := 1) hm rfl rfl (by decide) (y := S.2.1 m 1) rfl) rfl ft4 rfl mc_X4_mill ml_L_10 mi_X4_mill ms_X4_mill in_X4 (okc_X4_mill (by decide)) dL_isMill_79 kdT (cat_le (Nat.le_of_ble_eq_true rfl)) ?_
      refine pw_if_lt 136 dL_isMill_82 (by decide) (fun zz => absurd zz hw.1) (fun _ => ?_)
      refine t_aload0 dL_isMill_85 ?_
      refine t_iload1 dL_isMill_86 ?_
      refine pw_iconst (1) dL_isMill_87 (by decide) ?_
      refine g_callV2P (Q_mill (l := l) hlt hTS (m := m) (x := nI m) (a := 1) (v := 1) hm rfl rfl (by decide) (y := S.2.1 m 1) rfl) rfl ft4 rfl mc_X4_mill ml_L_10 mi_X4_mill ms_X4_mill in_X4 (okc_X4_mill (by decide)) dL_isMill_88 kdT (cat_le (Nat.le_of_ble_eq_true rfl)) ?_
      refine t_aload0 dL_isMill_91 ?_
      refine t_iload1 dL_isMill_92 ?_
      refine pw_iconst (0) dL_isMill_93 (by decide) ?_
      refine g_callV2P (Q_mill (l := l) hlt hTS (m := m) (x := nI m) (a := 0) (v := 0) hm rfl rfl (by decide) (y := S.2.1 m 0) rfl) rfl ft4 rfl mc_X4_mill ml_L_10 mi_X4_mill ms_X4_mill in_X4 (okc_X4_mill (by decide)) dL_isMill_94 kdT (cat_le (Nat.le_of_ble_eq_true rfl)) ?_
      refine pw_icmp_gt 136 dL_isMill_97 (by decide) (fun zz => absurd zz hw.2.1) (fun _ => ?_)
      refine t_aload0 dL_isMill_100 ?_
      refine t_iload1 dL_isMill_101 ?_
      refine pw_bipush (8) dL_isMill_102 (by decide) ?_
      refine g_callV2P (Q_mill (l := l) hlt hTS (m := m) (x := nI m) (a := 8) (v := 8) hm rfl rfl (by decide) (y := hd S m + 1000) rfl) rfl ft4 rfl mc_X4_mill ml_L_10 mi_X4_mill ms_X4_mill in_X4 (okc_X4_mill (by decide)) dL_isMill_104 kdT (cat_le (Nat.le_of_ble_eq_true rfl)) ?_
      refine t_iload2 dL_isMill_107 ?_
      refine pw_sipush (1000) dL_isMill_108 (by decide) ?_
      refine pw_iadd dL_isMill_111 ?_
      refine pw_icmp_ne 136 dL_isMill_112 (by decide) (fun zz => absurd rfl zz) (fun _ => ?_)
      refine t_aload0 dL_isMill_115 ?_
      refine t_iload1 dL_isMill_116 ?_
      refine g_callV1P (Q_why (l := l) hlt hTS (m := m) (x := nI m) hm rfl) rfl ft4 rfl mc_X4_whyNot ml_L_29 mi_X4_whyNot ms_X4_whyNot in_X4 (okc_X4_whyNot (by decide)) dL_isMill_117 kdT (cat_le (Nat.le_of_ble_eq_true rfl)) ?_
      refine t_iload3 dL_isMill_120 ?_
      refine pw_icmp_ne 136 dL_isMill_121 (by decide) (fun zz => absurd (show rsF S m = 2 from (if_neg h9).trans (if_pos h10)) zz) (fun _ => ?_)
      refine t_aload0 dL_isMill_124 ?_
      refine t_iload1 dL_isMill_125 ?_
      refine g_callS2P (H_areSacks (l := l) hlt hTS hW hm) rfl mc_L_areSacks ml_L_32 mi_L_areSacks in_L (okc_L_areSacks (by decide)) dL_isMill_126 (Nat.zero_le _) ?_
      refine pw_if_eq 136 dL_isMill_129 (by decide) (fun h => absurd h (by decide)) (fun _ => ?_)
      refine pw_iconst (1) dL_isMill_132 (by decide) ?_
      refine pw_goto 137 dL_isMill_133 (by decide) ?_
      refine pw_zret dL_isMill_137 rfl ?_ ?_
      · first | rfl | exact bI_n
      · exact ⟨rfl, rfl, rfl, rfl, rfl⟩
    · by_cases h11 : S.2.1 m 1 < S.1 11
      · refine t_aload0 dL_isMill_0 ?_
        refine t_iload1 dL_isMill_1 ?_
        refine pw_iconst (1) dL_isMill_2 (by decide) ?_
        refine g_callV2P (Q_mill (l := l) hlt hTS (m := m) (x := nI m) (a := 1) (v := 1) hm rfl rfl (by decide) (y := S.2.1 m 1) rfl) rfl ft4 rfl mc_X4_mill ml_L_10 mi_X4_mill ms_X4_mill in_X4 (okc_X4_mill (by decide)) dL_isMill_3 kdT (cat_le (Nat.le_of_ble_eq_true rfl)) ?_
        refine pw_bipush (100) dL_isMill_6 (by decide) ?_
        refine pw_imul dL_isMill_8 ?_
        refine t_aload0 dL_isMill_9 ?_
        refine t_iload1 dL_isMill_10 ?_
        refine pw_iconst (0) dL_isMill_11 (by decide) ?_
        refine g_callV2P (Q_mill (l := l) hlt hTS (m := m) (x := nI m) (a := 0) (v := 0) hm rfl rfl (by decide) (y := S.2.1 m 0) rfl) rfl ft4 rfl mc_X4_mill ml_L_10 mi_X4_mill ms_X4_mill in_X4 (okc_X4_mill (by decide)) dL_isMill_12 kdT (cat_le (Nat.le_of_ble_eq_true rfl)) ?_
        refine pw_idiv dL_isMill_15 hw.2.2 ?_
        refine t_aload0 dL_isMill_16 ?_
        refine t_aload0 dL_isMill_17 ?_
        refine pw_iconst (0) dL_isMill_18 (by decide) ?_
        refine g_callV1P (Q_count (l := l) hlt hTS (a := 0) (v := 0) rfl (by decide) (y := S.1 0) rfl) rfl ft4 rfl mc_X4_count ml_L_19 mi_X4_count ms_X4_count in_X4 (okc_X4_count (by decide)) dL_isMill_19 kdT (cat_le (Nat.le_of_ble_eq_true rfl)) ?_
        refine g_callV1P (Q_tide (l := l) hlt hTS hg0) rfl ft4 rfl mc_X4_tide ml_L_26 mi_X4_tide ms_X4_tide in_X4 (okc_X4_tide (by decide)) dL_isMill_22 kdT (cat_le (Nat.le_of_ble_eq_true rfl)) ?_
        refine pw_isub dL_isMill_25 ?_
        rw [← hd_is hW hm]
        refine t_istore2 dL_isMill_26 (by exact Nat.le_of_ble_eq_true rfl) okp_i ?_
        refine t_aload0 dL_isMill_27 ?_
        refine t_iload1 dL_isMill_28 ?_
        refine pw_bipush (7) dL_isMill_29 (by decide) ?_
        refine g_callV2P (Q_mill (l := l) hlt hTS (m := m) (x := nI m) (a := 7) (v := 7) hm rfl rfl (by decide) (y := S.2.1 m 9) rfl) rfl ft4 rfl mc_X4_mill ml_L_10 mi_X4_mill ms_X4_mill in_X4 (okc_X4_mill (by decide)) dL_isMill_31 kdT (cat_le (Nat.le_of_ble_eq_true rfl)) ?_
        refine pw_if_ne 41 dL_isMill_34 (by decide) (fun _ => ?_) (fun zz => absurd h9 zz)
        refine t_iload2 dL_isMill_41 ?_
        refine t_aload0 dL_isMill_42 ?_
        refine pw_bipush (12) dL_isMill_43 (by decide) ?_
        refine g_callV1P (Q_count (l := l) hlt hTS (a := 12) (v := 12) rfl (by decide) (y := S.1 10) rfl) rfl ft4 rfl mc_X4_count ml_L_19 mi_X4_count ms_X4_count in_X4 (okc_X4_count (by decide)) dL_isMill_45 kdT (cat_le (Nat.le_of_ble_eq_true rfl)) ?_
        refine pw_icmp_ge 55 dL_isMill_48 (by decide) (fun _ => ?_) (fun zz => absurd (Int32.not_lt.mp h10) zz)
        refine t_aload0 dL_isMill_55 ?_
        refine t_iload1 dL_isMill_56 ?_
        refine pw_iconst (1) dL_isMill_57 (by decide) ?_
        refine g_callV2P (Q_mill (l := l) hlt hTS (m := m) (x := nI m) (a := 1) (v := 1) hm rfl rfl (by decide) (y := S.2.1 m 1) rfl) rfl ft4 rfl mc_X4_mill ml_L_10 mi_X4_mill ms_X4_mill in_X4 (okc_X4_mill (by decide)) dL_isMill_58 kdT (cat_le (Nat.le_of_ble_eq_true rfl)) ?_
        refine t_aload0 dL_isMill_61 ?_
        refine pw_bipush (13) dL_isMill_62 (by decide) ?_
        refine g_callV1P (Q_count (l := l) hlt hTS (a := 13) (v := 13) rfl (by decide) (y := S.1 11) rfl) rfl ft4 rfl mc_X4_count ml_L_19 mi_X4_count ms_X4_count in_X4 (okc_X4_count (by decide)) dL_isMill_64 kdT (cat_le (Nat.le_of_ble_eq_true rfl)) ?_
        refine pw_icmp_ge 74 dL_isMill_67 (by decide) (fun zz => absurd zz (Int32.not_le.mpr h11)) (fun _ => ?_)
        refine pw_iconst (3) dL_isMill_70 (by decide) ?_
        refine pw_goto 75 dL_isMill_71 (by decide) ?_
        refine t_istore3 dL_isMill_75 (by exact Nat.le_of_ble_eq_true rfl) okp_i ?_
        refine t_aload0 dL_isMill_76 ?_
        refine t_iload1 dL_isMill_77 ?_
        refine pw_iconst (1) dL_isMill_78 (by decide) ?_
        refine g_callV2P (Q_mill (l := l) hlt hTS (m := m) (x := nI m) (a := 1) (v := 1) hm rfl rfl (by decide) (y := S.2.1 m 1) rfl) rfl ft4 rfl mc_X4_mill ml_L_10 mi_X4_mill ms_X4_mill in_X4 (okc_X4_mill (by decide)) dL_isMill_79 kdT (cat_le (Nat.le_of_ble_eq_true rfl)) ?_
        refine pw_if_lt 136 dL_isMill_82 (by decide) (fun zz => absurd zz hw.1) (fun _ => ?_)
        refine t_aload0 dL_isMill_85 ?_
        refine t_iload1 dL_isMill_86 ?_
        refine pw_iconst (1) dL_isMill_87 (by decide) ?_
        refine g_callV2P (Q_mill (l := l) hlt hTS (m := m) (x := nI m) (a := 1) (v := 1) hm rfl rfl (by decide) (y := S.2.1 m 1) rfl) rfl ft4 rfl mc_X4_mill ml_L_10 mi_X4_mill ms_X4_mill in_X4 (okc_X4_mill (by decide)) dL_isMill_88 kdT (cat_le (Nat.le_of_ble_eq_true rfl)) ?_
        refine t_aload0 dL_isMill_91 ?_
        refine t_iload1 dL_isMill_92 ?_
        refine pw_iconst (0) dL_isMill_93 (by decide) ?_
        refine g_callV2P (Q_mill (l := l) hlt hTS (m := m) (x := nI m) (a := 0) (v := 0) hm rfl rfl (by decide) (y := S.2.1 m 0) rfl) rfl ft4 rfl mc_X4_mill ml_L_10 mi_X4_mill ms_X4_mill in_X4 (okc_X4_mill (by decide)) dL_isMill_94 kdT (cat_le (Nat.le_of_ble_eq_true rfl)) ?_
        refine pw_icmp_gt 136 dL_isMill_97 (by decide) (fun zz => absurd zz hw.2.1) (fun _ => ?_)
        refine t_aload0 dL_isMill_100 ?_
        refine t_iload1 dL_isMill_101 ?_
        refine pw_bipush (8) dL_isMill_102 (by decide) ?_
        refine g_callV2P (Q_mill (l := l) hlt hTS (m := m) (x := nI m) (a := 8) (v := 8) hm rfl rfl (by decide) (y := hd S m + 1000) rfl) rfl ft4 rfl mc_X4_mill ml_L_10 mi_X4_mill ms_X4_mill in_X4 (okc_X4_mill (by decide)) dL_isMill_104 kdT (cat_le (Nat.le_of_ble_eq_true rfl)) ?_
        refine t_iload2 dL_isMill_107 ?_
        refine pw_sipush (1000) dL_isMill_108 (by decide) ?_
        refine pw_iadd dL_isMill_111 ?_
        refine pw_icmp_ne 136 dL_isMill_112 (by decide) (fun zz => absurd rfl zz) (fun _ => ?_)
        refine t_aload0 dL_isMill_115 ?_
        refine t_iload1 dL_isMill_116 ?_
        refine g_callV1P (Q_why (l := l) hlt hTS (m := m) (x := nI m) hm rfl) rfl ft4 rfl mc_X4_whyNot ml_L_29 mi_X4_whyNot ms_X4_whyNot in_X4 (okc_X4_whyNot (by decide)) dL_isMill_117 kdT (cat_le (Nat.le_of_ble_eq_true rfl)) ?_
        refine t_iload3 dL_isMill_120 ?_
        refine pw_icmp_ne 136 dL_isMill_121 (by decide) (fun zz => absurd (show rsF S m = 3 from (if_neg h9).trans ((if_neg h10).trans (if_pos h11))) zz) (fun _ => ?_)
        refine t_aload0 dL_isMill_124 ?_
        refine t_iload1 dL_isMill_125 ?_
        refine g_callS2P (H_areSacks (l := l) hlt hTS hW hm) rfl mc_L_areSacks ml_L_32 mi_L_areSacks in_L (okc_L_areSacks (by decide)) dL_isMill_126 (Nat.zero_le _) ?_
        refine pw_if_eq 136 dL_isMill_129 (by decide) (fun h => absurd h (by decide)) (fun _ => ?_)
        refine pw_iconst (1) dL_isMill_132 (by decide) ?_
        refine pw_goto 137 dL_isMill_133 (by decide) ?_
        refine pw_zret dL_isMill_137 rfl ?_ ?_
        · first | rfl | exact bI_n
        · exact ⟨rfl, rfl, rfl, rfl, rfl⟩
      · refine t_aload0 dL_isMill_0 ?_
        refine t_iload1 dL_isMill_1 ?_
        refine pw_iconst (1) dL_isMill_2 (by decide) ?_
        refine g_callV2P (Q_mill (l := l) hlt hTS (m := m) (x := nI m) (a := 1) (v := 1) hm rfl rfl (by decide) (y := S.2.1 m 1) rfl) rfl ft4 rfl mc_X4_mill ml_L_10 mi_X4_mill ms_X4_mill in_X4 (okc_X4_mill (by decide)) dL_isMill_3 kdT (cat_le (Nat.le_of_ble_eq_true rfl)) ?_
        refine pw_bipush (100) dL_isMill_6 (by decide) ?_
        refine pw_imul dL_isMill_8 ?_
        refine t_aload0 dL_isMill_9 ?_
        refine t_iload1 dL_isMill_10 ?_
        refine pw_iconst (0) dL_isMill_11 (by decide) ?_
        refine g_callV2P (Q_mill (l := l) hlt hTS (m := m) (x := nI m) (a := 0) (v := 0) hm rfl rfl (by decide) (y := S.2.1 m 0) rfl) rfl ft4 rfl mc_X4_mill ml_L_10 mi_X4_mill ms_X4_mill in_X4 (okc_X4_mill (by decide)) dL_isMill_12 kdT (cat_le (Nat.le_of_ble_eq_true rfl)) ?_
        refine pw_idiv dL_isMill_15 hw.2.2 ?_
        refine t_aload0 dL_isMill_16 ?_
        refine t_aload0 dL_isMill_17 ?_
        refine pw_iconst (0) dL_isMill_18 (by decide) ?_
        refine g_callV1P (Q_count (l := l) hlt hTS (a := 0) (v := 0) rfl (by decide) (y := S.1 0) rfl) rfl ft4 rfl mc_X4_count ml_L_19 mi_X4_count ms_X4_count in_X4 (okc_X4_count (by decide)) dL_isMill_19 kdT (cat_le (Nat.le_of_ble_eq_true rfl)) ?_
        refine g_callV1P (Q_tide (l := l) hlt hTS hg0) rfl ft4 rfl mc_X4_tide ml_L_26 mi_X4_tide ms_X4_tide in_X4 (okc_X4_tide (by decide)) dL_isMill_22 kdT (cat_le (Nat.le_of_ble_eq_true rfl)) ?_
        refine pw_isub dL_isMill_25 ?_
        rw [← hd_is hW hm]
        refine t_istore2 dL_isMill_26 (by exact Nat.le_of_ble_eq_true rfl) okp_i ?_
        refine t_aload0 dL_isMill_27 ?_
        refine t_iload1 dL_isMill_28 ?_
        refine pw_bipush (7) dL_isMill_29 (by decide) ?_
        refine g_callV2P (Q_mill (l := l) hlt hTS (m := m) (x := nI m) (a := 7) (v := 7) hm rfl rfl (by decide) (y := S.2.1 m 9) rfl) rfl ft4 rfl mc_X4_mill ml_L_10 mi_X4_mill ms_X4_mill in_X4 (okc_X4_mill (by decide)) dL_isMill_31 kdT (cat_le (Nat.le_of_ble_eq_true rfl)) ?_
        refine pw_if_ne 41 dL_isMill_34 (by decide) (fun _ => ?_) (fun zz => absurd h9 zz)
        refine t_iload2 dL_isMill_41 ?_
        refine t_aload0 dL_isMill_42 ?_
        refine pw_bipush (12) dL_isMill_43 (by decide) ?_
        refine g_callV1P (Q_count (l := l) hlt hTS (a := 12) (v := 12) rfl (by decide) (y := S.1 10) rfl) rfl ft4 rfl mc_X4_count ml_L_19 mi_X4_count ms_X4_count in_X4 (okc_X4_count (by decide)) dL_isMill_45 kdT (cat_le (Nat.le_of_ble_eq_true rfl)) ?_
        refine pw_icmp_ge 55 dL_isMill_48 (by decide) (fun _ => ?_) (fun zz => absurd (Int32.not_lt.mp h10) zz)
        refine t_aload0 dL_isMill_55 ?_
        refine t_iload1 dL_isMill_56 ?_
        refine pw_iconst (1) dL_isMill_57 (by decide) ?_
        refine g_callV2P (Q_mill (l := l) hlt hTS (m := m) (x := nI m) (a := 1) (v := 1) hm rfl rfl (by decide) (y := S.2.1 m 1) rfl) rfl ft4 rfl mc_X4_mill ml_L_10 mi_X4_mill ms_X4_mill in_X4 (okc_X4_mill (by decide)) dL_isMill_58 kdT (cat_le (Nat.le_of_ble_eq_true rfl)) ?_
        refine t_aload0 dL_isMill_61 ?_
        refine pw_bipush (13) dL_isMill_62 (by decide) ?_
        refine g_callV1P (Q_count (l := l) hlt hTS (a := 13) (v := 13) rfl (by decide) (y := S.1 11) rfl) rfl ft4 rfl mc_X4_count ml_L_19 mi_X4_count ms_X4_count in_X4 (okc_X4_count (by decide)) dL_isMill_64 kdT (cat_le (Nat.le_of_ble_eq_true rfl)) ?_
        refine pw_icmp_ge 74 dL_isMill_67 (by decide) (fun _ => ?_) (fun zz => absurd (Int32.not_lt.mp h11) zz)
        refine pw_iconst (0) dL_isMill_74 (by decide) ?_
        refine t_istore3 dL_isMill_75 (by exact Nat.le_of_ble_eq_true rfl) okp_i ?_
        refine t_aload0 dL_isMill_76 ?_
        refine t_iload1 dL_isMill_77 ?_
        refine pw_iconst (1) dL_isMill_78 (by decide) ?_
        refine g_callV2P (Q_mill (l := l) hlt hTS (m := m) (x := nI m) (a := 1) (v := 1) hm rfl rfl (by decide) (y := S.2.1 m 1) rfl) rfl ft4 rfl mc_X4_mill ml_L_10 mi_X4_mill ms_X4_mill in_X4 (okc_X4_mill (by decide)) dL_isMill_79 kdT (cat_le (Nat.le_of_ble_eq_true rfl)) ?_
        refine pw_if_lt 136 dL_isMill_82 (by decide) (fun zz => absurd zz hw.1) (fun _ => ?_)
        refine t_aload0 dL_isMill_85 ?_
        refine t_iload1 dL_isMill_86 ?_
        refine pw_iconst (1) dL_isMill_87 (by decide) ?_
        refine g_callV2P (Q_mill (l := l) hlt hTS (m := m) (x := nI m) (a := 1) (v := 1) hm rfl rfl (by decide) (y := S.2.1 m 1) rfl) rfl ft4 rfl mc_X4_mill ml_L_10 mi_X4_mill ms_X4_mill in_X4 (okc_X4_mill (by decide)) dL_isMill_88 kdT (cat_le (Nat.le_of_ble_eq_true rfl)) ?_
        refine t_aload0 dL_isMill_91 ?_
        refine t_iload1 dL_isMill_92 ?_
        refine pw_iconst (0) dL_isMill_93 (by decide) ?_
        refine g_callV2P (Q_mill (l := l) hlt hTS (m := m) (x := nI m) (a := 0) (v := 0) hm rfl rfl (by decide) (y := S.2.1 m 0) rfl) rfl ft4 rfl mc_X4_mill ml_L_10 mi_X4_mill ms_X4_mill in_X4 (okc_X4_mill (by decide)) dL_isMill_94 kdT (cat_le (Nat.le_of_ble_eq_true rfl)) ?_
        refine pw_icmp_gt 136 dL_isMill_97 (by decide) (fun zz => absurd zz hw.2.1) (fun _ => ?_)
        refine t_aload0 dL_isMill_100 ?_
        refine t_iload1 dL_isMill_101 ?_
        refine pw_bipush (8) dL_isMill_102 (by decide) ?_
        refine g_callV2P (Q_mill (l := l) hlt hTS (m := m) (x := nI m) (a := 8) (v := 8) hm rfl rfl (by decide) (y := hd S m + 1000) rfl) rfl ft4 rfl mc_X4_mill ml_L_10 mi_X4_mill ms_X4_mill in_X4 (okc_X4_mill (by decide)) dL_isMill_104 kdT (cat_le (Nat.le_of_ble_eq_true rfl)) ?_
        refine t_iload2 dL_isMill_107 ?_
        refine pw_sipush (1000) dL_isMill_108 (by decide) ?_
        refine pw_iadd dL_isMill_111 ?_
        refine pw_icmp_ne 136 dL_isMill_112 (by decide) (fun zz => absurd rfl zz) (fun _ => ?_)
        refine t_aload0 dL_isMill_115 ?_
        refine t_iload1 dL_isMill_116 ?_
        refine g_callV1P (Q_why (l := l) hlt hTS (m := m) (x := nI m) hm rfl) rfl ft4 rfl mc_X4_whyNot ml_L_29 mi_X4_whyNot ms_X4_whyNot in_X4 (okc_X4_whyNot (by decide)) dL_isMill_117 kdT (cat_le (Nat.le_of_ble_eq_true rfl)) ?_
        refine t_iload3 dL_isMill_120 ?_
        refine pw_icmp_ne 136 dL_isMill_121 (by decide) (fun zz => absurd (show rsF S m = 0 from (if_neg h9).trans ((if_neg h10).trans (if_neg h11))) zz) (fun _ => ?_)
        refine t_aload0 dL_isMill_124 ?_
        refine t_iload1 dL_isMill_125 ?_
        refine g_callS2P (H_areSacks (l := l) hlt hTS hW hm) rfl mc_L_areSacks ml_L_32 mi_L_areSacks in_L (okc_L_areSacks (by decide)) dL_isMill_126 (Nat.zero_le _) ?_
        refine pw_if_eq 136 dL_isMill_129 (by decide) (fun h => absurd h (by decide)) (fun _ => ?_)
        refine pw_iconst (1) dL_isMill_132 (by decide) ?_
        refine pw_goto 137 dL_isMill_133 (by decide) ?_
        refine pw_zret dL_isMill_137 rfl ?_ ?_
        · first | rfl | exact bI_n
        · exact ⟨rfl, rfl, rfl, rfl, rfl⟩

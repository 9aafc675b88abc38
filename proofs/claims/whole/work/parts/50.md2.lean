/-! TideMillsModel: order and places -/
theorem rsF_v (S : CS) (m : Nat) : rsF S m = 0 ∨ rsF S m = 1 ∨ rsF S m = 2 ∨ rsF S m = 3 := by
  unfold rsF
  by_cases h1 : S.2.1 m 9 = 0
  · rw [if_pos h1]; exact Or.inr (Or.inl rfl)
  rw [if_neg h1]
  by_cases h2 : hd S m < S.1 10
  · rw [if_pos h2]; exact Or.inr (Or.inr (Or.inl rfl))
  rw [if_neg h2]
  by_cases h3 : S.2.1 m 1 < S.1 11
  · rw [if_pos h3]; exact Or.inr (Or.inr (Or.inr rfl))
  · rw [if_neg h3]; exact Or.inl rfl
theorem rsF_le {S : CS} {m : Nat} : rsF S m ≤ 0 ↔ rsF S m = 0 := by
  rcases rsF_v S m with e | e | e | e <;> rw [e] <;> decide
theorem rsF_cnt {S : CS} {m : Nat} (h : rsF S m = 0) : ¬ S.2.1 m 9 = 0 := fun z => by
  unfold rsF at h; rw [if_pos z] at h; exact absurd h (by decide)
theorem cnt_pos {S : CS} {m : Nat} (hI : CI S) (hm : m < 5) : 0 < S.2.1 m 9 ↔ 0 < cnt S m := by
  obtain ⟨h1, h2⟩ := hI.c hm
  rw [h2]
  exact nI_ltI (a := 0) (by decide) (by omega)
theorem cnt_z {S : CS} {m : Nat} (hI : CI S) (hm : m < 5) : S.2.1 m 9 = 0 ↔ cnt S m = 0 := by
  obtain ⟨h1, h2⟩ := hI.c hm
  rw [h2]
  exact nI_eq (b := 0) (by omega) (by decide)
theorem fd_able {S : CS} {m : Nat} (hI : CI S) (hm : m < 5) (h : rsF S m = 0) : fdF S m = S.2.2 m 0 3 := by
  have h1 := rsF_cnt h
  rw [cnt_z hI hm] at h1
  unfold fdF
  rw [if_pos ((cnt_pos hI hm).mpr (by omega))]
theorem ahF_1 {S : CS} {a b : Nat} (h : ¬ fdF S a = fdF S b) : ahF S a b ↔ fdF S a < fdF S b := by unfold ahF; rw [if_neg h]
theorem ahF_2 {S : CS} {a b : Nat} (h : fdF S a = fdF S b) (h2 : ¬ hd S a = hd S b) : ahF S a b ↔ hd S b < hd S a := by unfold ahF; rw [if_pos h, if_neg h2]
theorem ahF_3 {S : CS} {a b : Nat} (h : fdF S a = fdF S b) (h2 : hd S a = hd S b) : ahF S a b ↔ a < b := by unfold ahF; rw [if_pos h, if_pos h2]
def rnP (S : CS) (m o : Nat) : Prop := ¬ o = m ∧ rsF S o = 0 ∧ ahF S o m
noncomputable def rnG (S : CS) (m o : Nat) : Int32 := if ¬ o = m ∧ rsF S o = 0 ∧ ahF S o m then 1 else 0
/-- how many go ahead -/
noncomputable def rnS (S : CS) (m : Nat) : Int32 := if rsF S m = 0 then smN (rnG S m) 5 0 0 else -1
noncomputable def rkM (S : CS) (r : Int32) : Option Nat := fdN (fun m => rnS S m = r) 5 0
theorem mrem {k : Nat} (h : k < 2 ^ 31) : nI k - nI k / 6 * 6 = nI (k % 6) := pk_rem (d := 6) h (by decide) (by decide)
theorem mdiv {k : Nat} (h : k < 2 ^ 31) : nI k / 6 = nI (k / 6) := pk_div (d := 6) h (by decide) (by decide)
set_option maxHeartbeats 4000000 in
set_option maxRecDepth 100000 in
theorem M_ahead {l : Launch} (hlt : l.stackTraces = false) {im : TI} {rm : TP} {lm : TL} {i0 : TI} {S : CS} (hM : MM rm) (hR : MS i0 S im) (hI : CI S) (hJ : CJ S) {m b : Nat} (hm : m < 5) (hb : b < 5) (h1 : rsF S m = 0) (h2 : rsF S b = 0) : Con l m_X5_goesAhead 2 0 0 NN [pv (some 240), .int (nI m), .int (nI b)] im rm lm (QP (.int (bI (ahF S m b))) im rm lm) noX := by
  have hk0 := kdM
  have hks := kds
  obtain ⟨r0, r1, r3, r5, r6, r11⟩ := id hM
  have e1 := fd_able hI hm h1
  have e2 := fd_able hI hb h2
  refine Con.ofN (k := 2) (L0 := [some (pv (some 240)), some (.int (nI m)), some (.int (nI b)), none, none]) hlt (by decide +kernel) rfl rfl (by rw [en1 pv_cat, en1 rfl, en1 rfl, en0]; exact Nat.le_of_ble_eq_true rfl) (by rw [en1 pv_cat, en1 rfl, en1 rfl, en0]; rfl) ?_
  refine t_aload0 dX5_goesAhead_0 ?_
  refine g_getr ft5 fl_X5_7 (j := 0) (by decide) dX5_goesAhead_1 (by assumption) (by assumption) ?_
  refine t_aload0 dX5_goesAhead_4 ?_
  refine t_iload1 dX5_goesAhead_5 ?_
  refine pw_iconst (0) dX5_goesAhead_6 (by decide) ?_
  refine g_callV2P (M_sackRow (l := l) hlt (m := m) (p := 0)) rfl ft5 rfl mc_X5_sackRow ml_X5_51 mi_X5_sackRow ms_X5_sackRow in_X5 (okc_X5_sackRow (by decide)) dX5_goesAhead_7 (by assumption) (cat_le (Nat.le_of_ble_eq_true rfl)) ?_
  refine pw_iconst (3) dX5_goesAhead_10 (by decide) ?_
  refine pw_iadd dX5_goesAhead_11 ?_
  refine m_ldK (m := m) (p := 0) (k := 3) dX5_goesAhead_12 hR (nI_add _ 3) hm (by decide) (by decide) ?_
  refine t_istore3 dX5_goesAhead_13 (by decide) okp_i ?_
  refine t_aload0 dX5_goesAhead_14 ?_
  refine g_getr ft5 fl_X5_7 (j := 0) (by decide) dX5_goesAhead_15 (by assumption) (by assumption) ?_
  refine t_aload0 dX5_goesAhead_18 ?_
  refine t_iload2 dX5_goesAhead_19 ?_
  refine pw_iconst (0) dX5_goesAhead_20 (by decide) ?_
  refine g_callV2P (M_sackRow (l := l) hlt (m := b) (p := 0)) rfl ft5 rfl mc_X5_sackRow ml_X5_51 mi_X5_sackRow ms_X5_sackRow in_X5 (okc_X5_sackRow (by decide)) dX5_goesAhead_21 (by assumption) (cat_le (Nat.le_of_ble_eq_true rfl)) ?_
  refine pw_iconst (3) dX5_goesAhead_24 (by decide) ?_
  refine pw_iadd dX5_goesAhead_25 ?_
  refine m_ldK (m := b) (p := 0) (k := 3) dX5_goesAhead_26 hR (nI_add _ 3) hb (by decide) (by decide) ?_
  refine t_istore4 dX5_goesAhead_27 (by decide) okp_i ?_
  refine t_iload3 dX5_goesAhead_29 ?_
  refine t_iload4 dX5_goesAhead_30 ?_
  refine pw_icmp_eq 47 dX5_goesAhead_32 (by decide) (fun zc32 => ?_) (fun zc32 => ?_)
  · have z1 : fdF S m = fdF S b := by rw [e1, e2]; exact zc32
    refine t_aload0 dX5_goesAhead_47 ?_
    refine t_iload1 dX5_goesAhead_48 ?_
    refine g_callV1P (M_head (l := l) hlt hM hR hJ (m := m) hm) rfl ft5 rfl mc_X5_head ml_X5_64 mi_X5_head ms_X5_head in_X5 (okc_X5_head (by decide)) dX5_goesAhead_49 (by assumption) (cat_le (Nat.le_of_ble_eq_true rfl)) ?_
    refine t_aload0 dX5_goesAhead_52 ?_
    refine t_iload2 dX5_goesAhead_53 ?_
    refine g_callV1P (M_head (l := l) hlt hM hR hJ (m := b) hb) rfl ft5 rfl mc_X5_head ml_X5_64 mi_X5_head ms_X5_head in_X5 (okc_X5_head (by decide)) dX5_goesAhead_54 (by assumption) (cat_le (Nat.le_of_ble_eq_true rfl)) ?_
    refine pw_icmp_eq 81 dX5_goesAhead_57 (by decide) (fun zc57 => ?_) (fun zc57 => ?_)
    · refine t_iload1 dX5_goesAhead_81 ?_
      refine t_iload2 dX5_goesAhead_82 ?_
      refine pw_icmp_ge 90 dX5_goesAhead_83 (by decide) (fun zc83 => ?_) (fun zc83 => ?_)
      · refine pw_iconst (0) dX5_goesAhead_90 (by decide) ?_
        refine pw_zret dX5_goesAhead_91 rfl ?_ ?_
        · first | rfl | exact bI_n
        · exact ⟨rfl, by rw [bI_f (fun z => absurd ((ahF_3 z1 zc57).mp z) (by have := (nI_leI (by omega) (by omega)).mp zc83; omega))], rfl, rfl, rfl⟩
      · refine pw_iconst (1) dX5_goesAhead_86 (by decide) ?_
        refine pw_goto 91 dX5_goesAhead_87 (by decide) ?_
        refine pw_zret dX5_goesAhead_91 rfl ?_ ?_
        · first | rfl | exact bI_n
        · exact ⟨rfl, by rw [bI_t ((ahF_3 z1 zc57).mpr ((nI_ltI (by omega) (by omega)).mp (Int32.not_le.mp zc83)))], rfl, rfl, rfl⟩
    · refine t_aload0 dX5_goesAhead_60 ?_
      refine t_iload1 dX5_goesAhead_61 ?_
      refine g_callV1P (M_head (l := l) hlt hM hR hJ (m := m) hm) rfl ft5 rfl mc_X5_head ml_X5_64 mi_X5_head ms_X5_head in_X5 (okc_X5_head (by decide)) dX5_goesAhead_62 (by assumption) (cat_le (Nat.le_of_ble_eq_true rfl)) ?_
      refine t_aload0 dX5_goesAhead_65 ?_
      refine t_iload2 dX5_goesAhead_66 ?_
      refine g_callV1P (M_head (l := l) hlt hM hR hJ (m := b) hb) rfl ft5 rfl mc_X5_head ml_X5_64 mi_X5_head ms_X5_head in_X5 (okc_X5_head (by decide)) dX5_goesAhead_67 (by assumption) (cat_le (Nat.le_of_ble_eq_true rfl)) ?_
      refine pw_icmp_le 77 dX5_goesAhead_70 (by decide) (fun zc70 => ?_) (fun zc70 => ?_)
      · refine pw_iconst (0) dX5_goesAhead_77 (by decide) ?_
        refine pw_goto 91 dX5_goesAhead_78 (by decide) ?_
        refine pw_zret dX5_goesAhead_91 rfl ?_ ?_
        · first | rfl | exact bI_n
        · exact ⟨rfl, by rw [bI_f (fun z => absurd ((ahF_2 z1 zc57).mp z) (Int32.not_lt.mpr zc70))], rfl, rfl, rfl⟩
      · refine pw_iconst (1) dX5_goesAhead_73 (by decide) ?_
        refine pw_goto 91 dX5_goesAhead_74 (by decide) ?_
        refine pw_zret dX5_goesAhead_91 rfl ?_ ?_
        · first | rfl | exact bI_n
        · exact ⟨rfl, by rw [bI_t ((ahF_2 z1 zc57).mpr (Int32.not_le.mp zc70))], rfl, rfl, rfl⟩
  · have z1 : ¬ fdF S m = fdF S b := by rw [e1, e2]; exact zc32
    refine t_iload3 dX5_goesAhead_35 ?_
    refine t_iload4 dX5_goesAhead_36 ?_
    refine pw_icmp_ge 45 dX5_goesAhead_38 (by decide) (fun zc38 => ?_) (fun zc38 => ?_)
    · refine pw_iconst (0) dX5_goesAhead_45 (by decide) ?_
      refine pw_zret dX5_goesAhead_46 rfl ?_ ?_
      · first | rfl | exact bI_n
      · exact ⟨rfl, by rw [bI_f (fun z => absurd ((ahF_1 z1).mp z) (by rw [e1, e2]; exact Int32.not_lt.mpr zc38))], rfl, rfl, rfl⟩
    · refine pw_iconst (1) dX5_goesAhead_41 (by decide) ?_
      refine pw_goto 46 dX5_goesAhead_42 (by decide) ?_
      refine pw_zret dX5_goesAhead_46 rfl ?_ ?_
      · first | rfl | exact bI_n
      · exact ⟨rfl, by rw [bI_t ((ahF_1 z1).mpr (by rw [e1, e2]; exact Int32.not_le.mp zc38))], rfl, rfl, rfl⟩
set_option maxHeartbeats 4000000 in
set_option maxRecDepth 100000 in
theorem M_rankOf {l : Launch} (hlt : l.stackTraces = false) {im : TI} {rm : TP} {lm : TL} {i0 : TI} {S : CS} (hM : MM rm) (hR : MS i0 S im) (hI : CI S) (hJ : CJ S) {m : Nat} (hm : m < 5) : Con l m_X5_rankOf 3 0 0 NN [pv (some 240), .int (nI m)] im rm lm (QP (.int (rnS S m)) im rm lm) noX := by
  have hk0 := kdM
  have hks := kds
  obtain ⟨r0, r1, r3, r5, r6, r11⟩ := id hM
  refine Con.ofN (k := 2) (L0 := [some (pv (some 240)), some (.int (nI m)), none, none]) hlt (by decide +kernel) rfl rfl (by rw [en1 pv_cat, en1 rfl, en0]; exact Nat.le_of_ble_eq_true rfl) (by rw [en1 pv_cat, en1 rfl, en0]; rfl) ?_
  have body : rsF S m = 0 → PW l m_X5_rankOf 3 0 0 NN 10 [some (pv (some 240)), some (.int (nI m)), none, none] [] im rm lm (QP (.int (rnS S m)) im rm lm) noX := by
    intro hz
    have loop : ∀ (n j : Nat) (x : Int32), j + n = 5 → smN (rnG S m) 5 0 0 = smN (rnG S m) n j x → PW l m_X5_rankOf 3 0 0 NN 14 [some (pv (some 240)), some (.int (nI m)), some (.int x), some (.int (nI j))] [] im rm lm (QP (.int (rnS S m)) im rm lm) noX := by
      intro n
      induction n using Nat.strongRecOn with
      | _ n ih =>
        intro j x hj hf
        refine t_iload3 dX5_rankOf_14 ?_
        refine pw_iconst (5) dX5_rankOf_15 (by decide) ?_
        refine pw_icmp_ge 55 dX5_rankOf_16 (by decide) (fun zc16 => ?_) (fun zc16 => ?_)
        · have zj : 5 ≤ j := (nI_leI (a := 5) (by decide) (by omega)).mp zc16
          have zn : n = 0 := by omega
          subst zn
          refine t_iload2 dX5_rankOf_55 ?_
          refine pw_iret dX5_rankOf_56 rfl ?_
          exact ⟨rfl, by rw [rnS, if_pos hz, hf]; rfl, rfl, rfl, rfl⟩
        · have zj : j < 5 := (nI_ltI (b := 5) (by omega) (by decide)).mp (Int32.not_le.mp zc16)
          obtain ⟨n', rfl⟩ : ∃ n', n = n' + 1 := ⟨n - 1, by omega⟩
          refine t_iload2 dX5_rankOf_19 ?_
          refine t_iload3 dX5_rankOf_20 ?_
          refine t_iload1 dX5_rankOf_21 ?_
          refine pw_icmp_eq 46 dX5_rankOf_22 (by decide) (fun zc22 => ?_) (fun zc22 => ?_)
          · refine pw_iconst (0) dX5_rankOf_46 (by decide) ?_
            refine pw_iadd dX5_rankOf_47 ?_
            refine t_istore2 dX5_rankOf_48 (by decide) okp_i ?_
            refine t_iinc3 (1) dX5_rankOf_49 (by decide) (by decide) okp_i ?_
            refine pw_goto 14 dX5_rankOf_52 (by decide) ?_
            rw [nI_1]
            exact ih n' (by omega) (j + 1) _ (by omega) (by rw [hf, smN]; congr 1; unfold rnG; rw [if_neg (fun z => z.1 ((nI_eq (by omega) (by omega)).mp zc22))])
          · refine t_aload0 dX5_rankOf_25 ?_
            refine t_iload3 dX5_rankOf_26 ?_
            refine g_callV1P (M_reason (l := l) hlt hM hR hJ (m := j) zj) rfl ft5 rfl mc_X5_reason ml_X5_67 mi_X5_reason ms_X5_reason in_X5 (okc_X5_reason (by decide)) dX5_rankOf_27 (by assumption) (cat_le (Nat.le_of_ble_eq_true rfl)) ?_
            refine pw_if_ne 46 dX5_rankOf_30 (by decide) (fun zc30 => ?_) (fun zc30 => ?_)
            · refine pw_iconst (0) dX5_rankOf_46 (by decide) ?_
              refine pw_iadd dX5_rankOf_47 ?_
              refine t_istore2 dX5_rankOf_48 (by decide) okp_i ?_
              refine t_iinc3 (1) dX5_rankOf_49 (by decide) (by decide) okp_i ?_
              refine pw_goto 14 dX5_rankOf_52 (by decide) ?_
              rw [nI_1]
              exact ih n' (by omega) (j + 1) _ (by omega) (by rw [hf, smN]; congr 1; unfold rnG; rw [if_neg (fun z => zc30 z.2.1)])
            · refine t_aload0 dX5_rankOf_33 ?_
              refine t_iload3 dX5_rankOf_34 ?_
              refine t_iload1 dX5_rankOf_35 ?_
              refine g_callV2P (M_ahead (l := l) hlt hM hR hI hJ zj hm (Classical.not_not.mp zc30) hz) rfl ft5 rfl mc_X5_goesAhead ml_X5_70 mi_X5_goesAhead ms_X5_goesAhead in_X5 (okc_X5_goesAhead (by decide)) dX5_rankOf_36 (by assumption) (cat_le (Nat.le_of_ble_eq_true rfl)) ?_
              refine pw_if_eq 46 dX5_rankOf_39 (by decide) (fun zc39 => ?_) (fun zc39 => ?_)
              · refine pw_iconst (0) dX5_rankOf_46 (by decide) ?_
                refine pw_iadd dX5_rankOf_47 ?_
                refine t_istore2 dX5_rankOf_48 (by decide) okp_i ?_
                refine t_iinc3 (1) dX5_rankOf_49 (by decide) (by decide) okp_i ?_
                refine pw_goto 14 dX5_rankOf_52 (by decide) ?_
                rw [nI_1]
                exact ih n' (by omega) (j + 1) _ (by omega) (by rw [hf, smN]; congr 1; unfold rnG; rw [if_neg (fun z => (bI_0.mp zc39) z.2.2)])
              · refine pw_iconst (1) dX5_rankOf_42 (by decide) ?_
                refine pw_goto 47 dX5_rankOf_43 (by decide) ?_
                refine pw_iadd dX5_rankOf_47 ?_
                refine t_istore2 dX5_rankOf_48 (by decide) okp_i ?_
                refine t_iinc3 (1) dX5_rankOf_49 (by decide) (by decide) okp_i ?_
                refine pw_goto 14 dX5_rankOf_52 (by decide) ?_
                rw [nI_1]
                exact ih n' (by omega) (j + 1) _ (by omega) (by rw [hf, smN]; congr 1; unfold rnG; rw [if_pos ⟨fun z => zc22 (by rw [z]), Classical.not_not.mp zc30, bI_nz zc39⟩])
    refine pw_iconst (0) dX5_rankOf_10 (by decide) ?_
    refine t_istore2 dX5_rankOf_11 (by decide) okp_i ?_
    refine pw_iconst (0) dX5_rankOf_12 (by decide) ?_
    refine t_istore3 dX5_rankOf_13 (by decide) okp_i ?_
    exact loop 5 0 0 rfl rfl
  refine t_aload0 dX5_rankOf_0 ?_
  refine t_iload1 dX5_rankOf_1 ?_
  refine g_callV1P (M_reason (l := l) hlt hM hR hJ (m := m) hm) rfl ft5 rfl mc_X5_reason ml_X5_67 mi_X5_reason ms_X5_reason in_X5 (okc_X5_reason (by decide)) dX5_rankOf_2 (by assumption) (cat_le (Nat.le_of_ble_eq_true rfl)) ?_
  refine pw_if_le 10 dX5_rankOf_5 (by decide) (fun zc5 => ?_) (fun zc5 => ?_)
  · have hz := rsF_le.mp zc5
    exact body hz
  · refine pw_iconst (-1) dX5_rankOf_8 (by decide) ?_
    refine pw_iret dX5_rankOf_9 rfl ?_
    exact ⟨rfl, by rw [rnS, if_neg (fun z => zc5 (rsF_le.mpr z))], rfl, rfl, rfl⟩
set_option maxHeartbeats 4000000 in
set_option maxRecDepth 100000 in
theorem M_ranked {l : Launch} (hlt : l.stackTraces = false) {im : TI} {rm : TP} {lm : TL} {i0 : TI} {S : CS} (hM : MM rm) (hR : MS i0 S im) (hI : CI S) (hJ : CJ S) {r : Int32} : Con l m_X5_ranked 4 0 0 NN [pv (some 240), .int (r)] im rm lm (QP (.int (oI (rkM S r))) im rm lm) noX := by
  have hk0 := kdM
  have hks := kds
  obtain ⟨r0, r1, r3, r5, r6, r11⟩ := id hM
  refine Con.ofN (k := 1) (L0 := [some (pv (some 240)), some (.int (r)), none]) hlt (by decide +kernel) rfl rfl (by rw [en1 pv_cat, en1 rfl, en0]; exact Nat.le_of_ble_eq_true rfl) (by rw [en1 pv_cat, en1 rfl, en0]; rfl) ?_
  have loop : ∀ (n j : Nat) , j + n = 5 → rkM S r = fdN (fun m => rnS S m = r) n j → PW l m_X5_ranked 4 0 0 NN 2 [some (pv (some 240)), some (.int r), some (.int (nI j))] [] im rm lm (QP (.int (oI (rkM S r))) im rm lm) noX := by
    intro n
    induction n using Nat.strongRecOn with
    | _ n ih =>
      intro j  hj hf
      refine t_iload2 dX5_ranked_2 ?_
      refine pw_iconst (5) dX5_ranked_3 (by decide) ?_
      refine pw_icmp_ge 24 dX5_ranked_4 (by decide) (fun zc4 => ?_) (fun zc4 => ?_)
      · have zj : 5 ≤ j := (nI_leI (a := 5) (by decide) (by omega)).mp zc4
        have zn : n = 0 := by omega
        subst zn
        refine pw_iconst (-1) dX5_ranked_24 (by decide) ?_
        refine pw_iret dX5_ranked_25 rfl ?_
        exact ⟨rfl, by rw [hf]; rfl, rfl, rfl, rfl⟩
      · have zj : j < 5 := (nI_ltI (b := 5) (by omega) (by decide)).mp (Int32.not_le.mp zc4)
        obtain ⟨n', rfl⟩ : ∃ n', n = n' + 1 := ⟨n - 1, by omega⟩
        refine t_aload0 dX5_ranked_7 ?_
        refine t_iload2 dX5_ranked_8 ?_
        refine g_callV1P (M_rankOf (l := l) hlt hM hR hI hJ zj) rfl ft5 rfl mc_X5_rankOf ml_X5_74 mi_X5_rankOf ms_X5_rankOf in_X5 (okc_X5_rankOf (by decide)) dX5_ranked_9 (by assumption) (cat_le (Nat.le_of_ble_eq_true rfl)) ?_
        refine t_iload1 dX5_ranked_12 ?_
        refine pw_icmp_ne 18 dX5_ranked_13 (by decide) (fun zc13 => ?_) (fun zc13 => ?_)
        · refine t_iinc2 (1) dX5_ranked_18 (by decide) (by decide) okp_i ?_
          refine pw_goto 2 dX5_ranked_21 (by decide) ?_
          rw [nI_1]
          exact ih n' (by omega) (j + 1) (by omega) (by rw [hf, fdN, if_neg zc13])
        · refine t_iload2 dX5_ranked_16 ?_
          refine pw_iret dX5_ranked_17 rfl ?_
          exact ⟨rfl, by rw [hf, fdN, if_pos (Classical.not_not.mp zc13)]; rfl, rfl, rfl, rfl⟩
  refine pw_iconst (0) dX5_ranked_0 (by decide) ?_
  refine t_istore2 dX5_ranked_1 (by decide) okp_i ?_
  exact loop 5 0 rfl rfl
abbrev cmP (S : CS) (m p : Nat) (due s : Int32) : Prop := due < S.2.2 m p 3 ∨ (due = S.2.2 m p 3 ∧ s < S.2.2 m p 0)
set_option maxHeartbeats 4000000 in
set_option maxRecDepth 100000 in
theorem M_comes {l : Launch} (hlt : l.stackTraces = false) {im : TI} {rm : TP} {lm : TL} {i0 : TI} {S : CS} (hM : MM rm) (hR : MS i0 S im) {m p : Nat} {due s : Int32} (hm : m < 5) (hp : p < 6) : Con l m_X5_comesAhead 0 0 0 NN [pv (some 240), .int (due), .int (s), .int (nI (22 + 34 * m + 4 * p))] im rm lm (QP (.int (bI (cmP S m p due s))) im rm lm) noX := by
  have hk0 := kdM
  have hks := kds
  obtain ⟨r0, r1, r3, r5, r6, r11⟩ := id hM
  refine Con.ofN (k := 0) (L0 := [some (pv (some 240)), some (.int (due)), some (.int (s)), some (.int (nI (22 + 34 * m + 4 * p)))]) hlt (by decide +kernel) rfl rfl (by rw [en1 pv_cat, en1 rfl, en1 rfl, en1 rfl, en0]; exact Nat.le_of_ble_eq_true rfl) (by rw [en1 pv_cat, en1 rfl, en1 rfl, en1 rfl, en0]; rfl) ?_
  refine t_iload1 dX5_comesAhead_0 ?_
  refine t_aload0 dX5_comesAhead_1 ?_
  refine g_getr ft5 fl_X5_7 (j := 0) (by decide) dX5_comesAhead_2 (by assumption) (by assumption) ?_
  refine t_iload3 dX5_comesAhead_5 ?_
  refine pw_iconst (3) dX5_comesAhead_6 (by decide) ?_
  refine pw_iadd dX5_comesAhead_7 ?_
  refine m_ldK (m := m) (p := p) (k := 3) dX5_comesAhead_8 hR (nI_add _ 3) hm hp (by decide) ?_
  refine pw_icmp_lt 36 dX5_comesAhead_9 (by decide) (fun zc9 => ?_) (fun zc9 => ?_)
  · refine pw_iconst (1) dX5_comesAhead_36 (by decide) ?_
    refine pw_goto 41 dX5_comesAhead_37 (by decide) ?_
    refine pw_zret dX5_comesAhead_41 rfl ?_ ?_
    · first | rfl | exact bI_n
    · exact ⟨rfl, by rw [bI_t (Or.inl zc9)], rfl, rfl, rfl⟩
  · refine t_iload1 dX5_comesAhead_12 ?_
    refine t_aload0 dX5_comesAhead_13 ?_
    refine g_getr ft5 fl_X5_7 (j := 0) (by decide) dX5_comesAhead_14 (by assumption) (by assumption) ?_
    refine t_iload3 dX5_comesAhead_17 ?_
    refine pw_iconst (3) dX5_comesAhead_18 (by decide) ?_
    refine pw_iadd dX5_comesAhead_19 ?_
    refine m_ldK (m := m) (p := p) (k := 3) dX5_comesAhead_20 hR (nI_add _ 3) hm hp (by decide) ?_
    refine pw_icmp_ne 40 dX5_comesAhead_21 (by decide) (fun zc21 => ?_) (fun zc21 => ?_)
    · refine pw_iconst (0) dX5_comesAhead_40 (by decide) ?_
      refine pw_zret dX5_comesAhead_41 rfl ?_ ?_
      · first | rfl | exact bI_n
      · exact ⟨rfl, by rw [bI_f (fun z => z.elim zc9 (fun q => zc21 q.1))], rfl, rfl, rfl⟩
    · refine t_iload2 dX5_comesAhead_24 ?_
      refine t_aload0 dX5_comesAhead_25 ?_
      refine g_getr ft5 fl_X5_7 (j := 0) (by decide) dX5_comesAhead_26 (by assumption) (by assumption) ?_
      refine t_iload3 dX5_comesAhead_29 ?_
      refine pw_iconst (0) dX5_comesAhead_30 (by decide) ?_
      refine pw_iadd dX5_comesAhead_31 ?_
      refine m_ldK (m := m) (p := p) (k := 0) dX5_comesAhead_32 hR (nI_add _ 0) hm hp (by decide) ?_
      refine pw_icmp_ge 40 dX5_comesAhead_33 (by decide) (fun zc33 => ?_) (fun zc33 => ?_)
      · refine pw_iconst (0) dX5_comesAhead_40 (by decide) ?_
        refine pw_zret dX5_comesAhead_41 rfl ?_ ?_
        · first | rfl | exact bI_n
        · exact ⟨rfl, by rw [bI_f (fun z => z.elim zc9 (fun q => Int32.not_lt.mpr zc33 q.2))], rfl, rfl, rfl⟩
      · refine pw_iconst (1) dX5_comesAhead_36 (by decide) ?_
        refine pw_goto 41 dX5_comesAhead_37 (by decide) ?_
        refine pw_zret dX5_comesAhead_41 rfl ?_ ?_
        · first | rfl | exact bI_n
        · exact ⟨rfl, by rw [bI_t (Or.inr ⟨Classical.not_not.mp zc21, Int32.not_le.mp zc33⟩)], rfl, rfl, rfl⟩
def whS (S : CS) (x : Int32) : Option Nat := fdN (fun k => nI (k % 6) < S.2.1 (k / 6) 9 ∧ S.2.2 (k / 6) (k % 6) 0 = x) 30 0
set_option maxHeartbeats 4000000 in
set_option maxRecDepth 100000 in
theorem M_whereIs {l : Launch} (hlt : l.stackTraces = false) {im : TI} {rm : TP} {lm : TL} {i0 : TI} {S : CS} (hM : MM rm) (hR : MS i0 S im) {x : Int32} : Con l m_X5_whereIs 1 0 0 NN [pv (some 240), .int (x)] im rm lm (QP (.int (oI (whS S x))) im rm lm) noX := by
  have hk0 := kdM
  have hks := kds
  obtain ⟨r0, r1, r3, r5, r6, r11⟩ := id hM
  refine Con.ofN (k := 1) (L0 := [some (pv (some 240)), some (.int (x)), none]) hlt (by decide +kernel) rfl rfl (by rw [en1 pv_cat, en1 rfl, en0]; exact Nat.le_of_ble_eq_true rfl) (by rw [en1 pv_cat, en1 rfl, en0]; rfl) ?_
  have loop : ∀ (n j : Nat) , j + n = 30 → whS S x = fdN (fun k => nI (k % 6) < S.2.1 (k / 6) 9 ∧ S.2.2 (k / 6) (k % 6) 0 = x) n j → PW l m_X5_whereIs 1 0 0 NN 2 [some (pv (some 240)), some (.int x), some (.int (nI j))] [] im rm lm (QP (.int (oI (whS S x))) im rm lm) noX := by
    intro n
    induction n using Nat.strongRecOn with
    | _ n ih =>
      intro j  hj hf
      refine t_iload2 dX5_whereIs_2 ?_
      refine pw_bipush (30) dX5_whereIs_3 (by decide) ?_
      refine pw_icmp_ge 56 dX5_whereIs_5 (by decide) (fun zc5 => ?_) (fun zc5 => ?_)
      · have zj : 30 ≤ j := (nI_leI (a := 30) (by decide) (by omega)).mp zc5
        have zn : n = 0 := by omega
        subst zn
        refine pw_iconst (-1) dX5_whereIs_56 (by decide) ?_
        refine pw_iret dX5_whereIs_57 rfl ?_
        exact ⟨rfl, by rw [hf]; rfl, rfl, rfl, rfl⟩
      · have zj : j < 30 := (nI_ltI (b := 30) (by omega) (by decide)).mp (Int32.not_le.mp zc5)
        obtain ⟨n', rfl⟩ : ∃ n', n = n' + 1 := ⟨n - 1, by omega⟩
        refine t_iload2 dX5_whereIs_8 ?_
        refine pw_bipush (6) dX5_whereIs_9 (by decide) ?_
        refine pw_irem dX5_whereIs_11 (by decide) ?_
        rw [mrem (by omega)]
        refine t_aload0 dX5_whereIs_12 ?_
        refine t_iload2 dX5_whereIs_13 ?_
        refine pw_bipush (6) dX5_whereIs_14 (by decide) ?_
        refine pw_idiv dX5_whereIs_16 (by decide) ?_
        rw [mdiv (by omega)]
        refine pw_bipush (9) dX5_whereIs_17 (by decide) ?_
        refine g_callV2P (M_of (l := l) hlt hM hR (m := j / 6) (w := 9) (by omega) (by decide)) rfl ft5 rfl mc_X5_of ml_X5_47 mi_X5_of ms_X5_of in_X5 (okc_X5_of (by decide)) dX5_whereIs_19 (by assumption) (cat_le (Nat.le_of_ble_eq_true rfl)) ?_
        refine pw_icmp_ge 50 dX5_whereIs_22 (by decide) (fun zc22 => ?_) (fun zc22 => ?_)
        · refine t_iinc2 (1) dX5_whereIs_50 (by decide) (by decide) okp_i ?_
          refine pw_goto 2 dX5_whereIs_53 (by decide) ?_
          rw [nI_1]
          exact ih n' (by omega) (j + 1) (by omega) (by rw [hf, fdN, if_neg (fun z => Int32.not_lt.mpr zc22 z.1)])
        · refine t_aload0 dX5_whereIs_25 ?_
          refine g_getr ft5 fl_X5_7 (j := 0) (by decide) dX5_whereIs_26 (by assumption) (by assumption) ?_
          refine t_aload0 dX5_whereIs_29 ?_
          refine t_iload2 dX5_whereIs_30 ?_
          refine pw_bipush (6) dX5_whereIs_31 (by decide) ?_
          refine pw_idiv dX5_whereIs_33 (by decide) ?_
          rw [mdiv (by omega)]
          refine t_iload2 dX5_whereIs_34 ?_
          refine pw_bipush (6) dX5_whereIs_35 (by decide) ?_
          refine pw_irem dX5_whereIs_37 (by decide) ?_
          rw [mrem (by omega)]
          refine g_callV2P (M_sackRow (l := l) hlt (m := j / 6) (p := j % 6)) rfl ft5 rfl mc_X5_sackRow ml_X5_51 mi_X5_sackRow ms_X5_sackRow in_X5 (okc_X5_sackRow (by decide)) dX5_whereIs_38 (by assumption) (cat_le (Nat.le_of_ble_eq_true rfl)) ?_
          refine pw_iconst (0) dX5_whereIs_41 (by decide) ?_
          refine pw_iadd dX5_whereIs_42 ?_
          refine m_ldK (m := j / 6) (p := j % 6) (k := 0) dX5_whereIs_43 hR (nI_add _ 0) (by omega) (by omega) (by decide) ?_
          refine t_iload1 dX5_whereIs_44 ?_
          refine pw_icmp_ne 50 dX5_whereIs_45 (by decide) (fun zc45 => ?_) (fun zc45 => ?_)
          · refine t_iinc2 (1) dX5_whereIs_50 (by decide) (by decide) okp_i ?_
            refine pw_goto 2 dX5_whereIs_53 (by decide) ?_
            rw [nI_1]
            exact ih n' (by omega) (j + 1) (by omega) (by rw [hf, fdN, if_neg (fun z => zc45 z.2)])
          · refine t_iload2 dX5_whereIs_48 ?_
            refine pw_iret dX5_whereIs_49 rfl ?_
            exact ⟨rfl, by rw [hf, fdN, if_pos ⟨Int32.not_le.mp zc22, Classical.not_not.mp zc45⟩]; rfl, rfl, rfl, rfl⟩
  refine pw_iconst (0) dX5_whereIs_0 (by decide) ?_
  refine t_istore2 dX5_whereIs_1 (by decide) okp_i ?_
  exact loop 30 0 rfl rfl

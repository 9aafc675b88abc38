/-! TideMillsModel: a turn, an hour -/
/-- what an hour leaves as it was -/
theorem liS_f {S : CS} {m j w : Nat} (h : w ≠ 1) : (liS S m).2.1 j w = S.2.1 j w := by
  unfold liS upF upG; dsimp only; rw [if_neg (fun z => h z.2)]
theorem liS_g {S : CS} {m j : Nat} (h : j ≠ 3) : (liS S m).1 j = S.1 j := by
  unfold liS upF upG; dsimp only; rw [if_neg h]
theorem lwS_f {j w : Nat} (h : w ≠ 1) : ∀ (n m : Nat) (S : CS), (lwS n m S).2.1 j w = S.2.1 j w := by
  intro n
  induction n with
  | zero => intro m S; rfl
  | succ n ih => intro m S; rw [lwS, ih, liS_f h]
theorem lwS_g {j : Nat} (h : j ≠ 3) : ∀ (n m : Nat) (S : CS), (lwS n m S).1 j = S.1 j := by
  intro n
  induction n with
  | zero => intro m S; rfl
  | succ n ih => intro m S; rw [lwS, ih, liS_g h]
theorem tuS_f {S : CS} {m j w : Nat} (h : w ≠ 1) (h7 : w ≠ 7) : (tuS S m).2.1 j w = S.2.1 j w := by
  unfold tuS upF upG; dsimp only; rw [if_neg (fun z => h7 z.2), if_neg (fun z => h z.2)]
theorem tuS_g {S : CS} {m j : Nat} (h : j ≠ 4) : (tuS S m).1 j = S.1 j := by
  unfold tuS upF upG; dsimp only; rw [if_neg h]
theorem g1S_f {S : CS} {m n j w : Nat} (h8 : w ≠ 8) (h9 : w ≠ 9) : (g1S S m n).2.1 j w = S.2.1 j w := by
  unfold g1S dpS upM
  dsimp only
  have e : ∀ a, (upF (upG (if fdF S m < S.1 0 then upG S 7 (S.1 7 + 1) else S) 6 ((if fdF S m < S.1 0 then upG S 7 (S.1 7 + 1) else S).1 6 + 1)) m 8 a).2.1 j w = S.2.1 j w := fun a => by
    unfold upF
    dsimp only
    rw [if_neg (fun z => h8 z.2)]
    split <;> rfl
  by_cases e1 : j = m
  · rw [if_pos e1, if_neg h9, ← e1]
    rw [← e1] at e
    exact e _
  · rw [if_neg e1]
    exact e _
theorem g1S_g {S : CS} {m n j : Nat} (h6 : j ≠ 6) (h7 : j ≠ 7) : (g1S S m n).1 j = S.1 j := by
  unfold g1S dpS upM upF upG
  dsimp only
  rw [if_neg h6]
  split
  · dsimp only; rw [if_neg h7]
  · rfl
theorem grN_f {m j w : Nat} (h8 : w ≠ 8) (h9 : w ≠ 9) : ∀ (n : Nat) (S : CS) (t : Int32), (grN m n S t).1.2.1 j w = S.2.1 j w := by
  intro n
  induction n with
  | zero => intro S t; rfl
  | succ n ih =>
    intro S t
    unfold grN
    split
    · rw [ih, g1S_f h8 h9]
    · rfl
theorem grN_g {m j : Nat} (h6 : j ≠ 6) (h7 : j ≠ 7) : ∀ (n : Nat) (S : CS) (t : Int32), (grN m n S t).1.1 j = S.1 j := by
  intro n
  induction n with
  | zero => intro S t; rfl
  | succ n ih =>
    intro S t
    unfold grN
    split
    · rw [ih, g1S_g h6 h7]
    · rfl
theorem grS_f {S : CS} {m j w : Nat} {t : Int32} (h8 : w ≠ 8) (h9 : w ≠ 9) : (grS S m t).2.1 j w = S.2.1 j w := by
  unfold grS
  dsimp only
  split
  · exact grN_f h8 h9 _ _ _
  · exact grN_f h8 h9 _ _ _
theorem grS_g {S : CS} {m j : Nat} {t : Int32} (h6 : j ≠ 6) (h7 : j ≠ 7) : (grS S m t).1 j = S.1 j := by
  unfold grS
  dsimp only
  split
  · exact grN_g h6 h7 _ _ _
  · exact grN_g h6 h7 _ _ _
theorem tmS_f {S : CS} {o : Option Nat} {j w : Nat} (h1 : w ≠ 1) (h7 : w ≠ 7) (h8 : w ≠ 8) (h9 : w ≠ 9) : (tmS S o).2.1 j w = S.2.1 j w := by
  cases o with
  | none => rfl
  | some m => rw [tmS_s, grS_f h8 h9, tuS_f h1 h7]; rfl
theorem tmS_g {S : CS} {o : Option Nat} {j : Nat} (h : j = 0 ∨ j = 3 ∨ j = 5 ∨ 8 ≤ j) : (tmS S o).1 j = S.1 j := by
  cases o with
  | none =>
    rw [tmS_n]; unfold upG; dsimp only
    rw [if_neg (by omega), if_neg (by omega)]
  | some m =>
    rw [tmS_s, grS_g (by omega) (by omega), tuS_g (by omega)]
    unfold upG; dsimp only
    rw [if_neg (by omega)]
theorem hoS_f {S : CS} {j w : Nat} (h1 : w ≠ 1) (h7 : w ≠ 7) (h8 : w ≠ 8) (h9 : w ≠ 9) : (hoS S).2.1 j w = S.2.1 j w := by
  unfold hoS
  dsimp only
  rw [tmS_f h1 h7 h8 h9, lwS_f h1]
  rfl
theorem hoS_g {S : CS} {j : Nat} (h : j = 5 ∨ 8 ≤ j) : (hoS S).1 j = S.1 j := by
  unfold hoS
  dsimp only
  rw [tmS_g (by omega), lwS_g (by omega)]
  unfold upG; dsimp only
  rw [if_neg (by omega)]
theorem hsS_f {S : CS} {j w : Nat} (h1 : w ≠ 1) (h7 : w ≠ 7) (h8 : w ≠ 8) (h9 : w ≠ 9) : ∀ n, (hsS n S).2.1 j w = S.2.1 j w := by
  intro n
  induction n with
  | zero => rfl
  | succ n ih => rw [hsS_succ, hoS_f h1 h7 h8 h9, ih]
theorem hsS_g {S : CS} {j : Nat} (h : j = 5 ∨ 8 ≤ j) : ∀ n, (hsS n S).1 j = S.1 j := by
  intro n
  induction n with
  | zero => rfl
  | succ n ih => rw [hsS_succ, hoS_g h, ih]
theorem CJ.keep {S S2 : CS} (h : CJ S) (e : ∀ m w, m < 5 → w = 0 ∨ w = 6 → S2.2.1 m w = S.2.1 m w) : CJ S2 := fun m hm => by rw [e m 0 hm (Or.inl rfl), e m 6 hm (Or.inr rfl)]; exact h m hm
theorem CB.keep {S S2 : CS} (h : CB S) (e9 : S2.1 9 = S.1 9) (e : ∀ m, m < 5 → S2.2.1 m 2 = S.2.1 m 2) : CB S2 := ⟨by rw [e9]; exact h.1, fun m hm => by rw [e m hm]; exact h.2 m hm⟩
def CW (S : CS) : Prop := CI S ∧ CJ S ∧ CB S
theorem CW.hours {S : CS} (h : CW S) (n : Nat) : CW (hsS n S) :=
  ⟨hsS_CI h.1 n, h.2.1.keep fun m w _ hw => hsS_f (by omega) (by omega) (by omega) (by omega) n, h.2.2.keep (hsS_g (by omega) n) fun m _ => hsS_f (by omega) (by omega) (by omega) (by omega) n⟩
theorem tu_m {S : CS} {m : Nat} : upG (upF (upF S m 1 (S.2.1 m 1 + -S.1 11)) m 7 ((upF S m 1 (S.2.1 m 1 + -S.1 11)).2.1 m 7 + 1)) 4 (S.1 4 + S.1 11) = tuS S m := by
  unfold tuS
  rw [Int32.sub_eq_add_neg]
  rfl
theorem tof_m {S : CS} {m : Nat} (hJ : CJ S) (hm : m < 5) : hd S m * S.2.1 m 5 / S.2.1 m 6 = tof (S.2.1 m) (hd S m) := by unfold tof; rw [if_pos (hJ m hm).2]
/-- a sack is ground: the reference's way -/
theorem g1_m {S : CS} {m n : Nat} {z : Int32} (hz : z = if fdF S m < S.1 0 then 1 else 0) : EqS (dpS (upF (upG (upG S 6 (S.1 6 + 1)) 7 (S.1 7 + z)) m 8 (S.2.1 m 8 + 1)) m 0 n) (g1S S m n) := by
  subst hz
  unfold g1S
  by_cases h : fdF S m < S.1 0
  · rw [if_pos h, if_pos h]
    refine ⟨fun j _ => ?_, fun _ _ _ _ => rfl, fun _ _ _ _ _ _ => rfl⟩
    unfold dpS upM upF upG
    dsimp only
    by_cases e : j = 7
    · subst e; rfl
    · by_cases e6 : j = 6
      · subst e6; rfl
      · simp [e, e6]
  · rw [if_neg h, if_neg h]
    refine ⟨fun j _ => ?_, fun _ _ _ _ => rfl, fun _ _ _ _ _ _ => rfl⟩
    unfold dpS upM upF upG
    dsimp only
    by_cases e : j = 7
    · subst e; simp
    · simp [e]
set_option maxHeartbeats 4000000 in
set_option maxRecDepth 100000 in
theorem M_turn {l : Launch} (hlt : l.stackTraces = false) {im : TI} {rm : TP} {lm : TL} {i0 : TI} {S : CS} (hM : MM rm) (hR : MS i0 S im) (hI : CI S) (hJ : CJ S) {m : Nat} (hm : m < 5) : Con l m_X5_turn 2 0 0 NN [pv (some 240), .int (nI m)] im rm lm (QV (fun im2 => MS i0 (grS (tuS S m) m (tof (S.2.1 m) (hd S m))) im2) rm lm) noX := by
  have hk0 := kdM
  have hks := kds
  obtain ⟨r0, r1, r3, r5, r6, r11⟩ := id hM
  refine Con.ofN (k := 1) (L0 := [some (pv (some 240)), some (.int (nI m)), none]) hlt (by decide +kernel) rfl rfl (by rw [en1 pv_cat, en1 rfl, en0]; exact Nat.le_of_ble_eq_true rfl) (by rw [en1 pv_cat, en1 rfl, en0]; rfl) ?_
  have fin : ∀ (Sk : CS) (t : Int32) (imk : TI), MS i0 Sk imk → grN m (cnt (tuS S m) m) (tuS S m) (tof (S.2.1 m) (hd S m)) = (Sk, t) → PW l m_X5_turn 2 0 0 NN 167 [some (pv (some 240)), some (.int (nI m)), some (.int t)] [] imk rm lm (QV (fun im2 => MS i0 (grS (tuS S m) m (tof (S.2.1 m) (hd S m))) im2) rm lm) noX := by
    intro Sk t imk hR hf
    refine t_aload0 dX5_turn_167 ?_
    refine t_iload1 dX5_turn_168 ?_
    refine pw_bipush (9) dX5_turn_169 (by decide) ?_
    refine g_callV2P (M_of (l := l) hlt hM hR (m := m) (w := 9) hm (by decide)) rfl ft5 rfl mc_X5_of ml_X5_47 mi_X5_of ms_X5_of in_X5 (okc_X5_of (by decide)) dX5_turn_171 (by assumption) (cat_le (Nat.le_of_ble_eq_true rfl)) ?_
    refine pw_if_le 194 dX5_turn_174 (by decide) (fun zc174 => ?_) (fun zc174 => ?_)
    · refine pw_vret dX5_turn_194 rfl ?_
      exact ⟨rfl, rfl, rfl, rfl, hR.eq (by rw [grS, hf]; dsimp only; rw [if_neg (fun z => Int32.not_le.mpr z zc174)])⟩
    · refine t_aload0 dX5_turn_177 ?_
      refine g_getr ft5 fl_X5_7 (j := 0) (by decide) dX5_turn_178 (by assumption) (by assumption) ?_
      refine t_aload0 dX5_turn_181 ?_
      refine t_iload1 dX5_turn_182 ?_
      refine pw_iconst (0) dX5_turn_183 (by decide) ?_
      refine g_callV2P (M_sackRow (l := l) hlt (m := m) (p := 0)) rfl ft5 rfl mc_X5_sackRow ml_X5_51 mi_X5_sackRow ms_X5_sackRow in_X5 (okc_X5_sackRow (by decide)) dX5_turn_184 (by assumption) (cat_le (Nat.le_of_ble_eq_true rfl)) ?_
      refine pw_iconst (2) dX5_turn_187 (by decide) ?_
      refine pw_iadd dX5_turn_188 ?_
      refine pw_dup2 dX5_turn_189 rfl pv_cat ?_
      refine m_ldK (m := m) (p := 0) (k := 2) dX5_turn_190 hR (nI_add _ 2) hm (by decide) (by decide) ?_
      refine t_iload2 dX5_turn_191 ?_
      refine pw_isub dX5_turn_192 ?_
      refine m_stK (m := m) (p := 0) (k := 2) dX5_turn_193 hR (nI_add _ 2) hm (by decide) (by decide) (fun zi193 hR => ?_)
      refine pw_vret dX5_turn_194 rfl ?_
      exact ⟨rfl, rfl, rfl, rfl, hR.eq (by rw [grS, hf]; dsimp only; rw [if_pos (Int32.not_le.mp zc174)])⟩
  have loop : ∀ (n : Nat) (Sk : CS) (t : Int32) (imk : TI), Sk.2.1 m 9 = nI n → n ≤ 6 → MS i0 Sk imk → grN m (cnt (tuS S m) m) (tuS S m) (tof (S.2.1 m) (hd S m)) = grN m n Sk t → PW l m_X5_turn 2 0 0 NN 59 [some (pv (some 240)), some (.int (nI m)), some (.int t)] [] imk rm lm (QV (fun im2 => MS i0 (grS (tuS S m) m (tof (S.2.1 m) (hd S m))) im2) rm lm) noX := by
    intro n
    induction n with
    | zero =>
      intro Sk t imk hnk hn6 hR hf
      refine t_aload0 dX5_turn_59 ?_
      refine t_iload1 dX5_turn_60 ?_
      refine pw_bipush (9) dX5_turn_61 (by decide) ?_
      refine g_callV2P (M_of (l := l) hlt hM hR (m := m) (w := 9) hm (by decide)) rfl ft5 rfl mc_X5_of ml_X5_47 mi_X5_of ms_X5_of in_X5 (okc_X5_of (by decide)) dX5_turn_63 (by assumption) (cat_le (Nat.le_of_ble_eq_true rfl)) ?_
      rw [hnk]
      refine pw_if_le 167 dX5_turn_66 (by decide) (fun zc66 => ?_) (fun zc66 => ?_)
      · exact fin Sk t imk hR hf
      · exact absurd (by decide) zc66
    | succ n ih =>
      intro Sk t imk hnk hn6 hR hf
      have hfd : fdF Sk m = Sk.2.2 m 0 3 := by rw [fdF, if_pos (by rw [hnk]; exact (nI_ltI (a := 0) (by decide) (by omega)).mpr (by omega))]
      refine t_aload0 dX5_turn_59 ?_
      refine t_iload1 dX5_turn_60 ?_
      refine pw_bipush (9) dX5_turn_61 (by decide) ?_
      refine g_callV2P (M_of (l := l) hlt hM hR (m := m) (w := 9) hm (by decide)) rfl ft5 rfl mc_X5_of ml_X5_47 mi_X5_of ms_X5_of in_X5 (okc_X5_of (by decide)) dX5_turn_63 (by assumption) (cat_le (Nat.le_of_ble_eq_true rfl)) ?_
      rw [hnk]
      refine pw_if_le 167 dX5_turn_66 (by decide) (fun zc66 => ?_) (fun zc66 => ?_)
      · exact absurd zc66 (nI_nle (Nat.succ_pos _) (by omega))
      · refine t_iload2 dX5_turn_69 ?_
        refine t_aload0 dX5_turn_70 ?_
        refine g_getr ft5 fl_X5_7 (j := 0) (by decide) dX5_turn_71 (by assumption) (by assumption) ?_
        refine t_aload0 dX5_turn_74 ?_
        refine t_iload1 dX5_turn_75 ?_
        refine pw_iconst (0) dX5_turn_76 (by decide) ?_
        refine g_callV2P (M_sackRow (l := l) hlt (m := m) (p := 0)) rfl ft5 rfl mc_X5_sackRow ml_X5_51 mi_X5_sackRow ms_X5_sackRow in_X5 (okc_X5_sackRow (by decide)) dX5_turn_77 (by assumption) (cat_le (Nat.le_of_ble_eq_true rfl)) ?_
        refine pw_iconst (2) dX5_turn_80 (by decide) ?_
        refine pw_iadd dX5_turn_81 ?_
        refine m_ldK (m := m) (p := 0) (k := 2) dX5_turn_82 hR (nI_add _ 2) hm (by decide) (by decide) ?_
        refine pw_icmp_lt 167 dX5_turn_83 (by decide) (fun zc83 => ?_) (fun zc83 => ?_)
        · exact fin Sk t imk hR (by rw [hf, grN, if_neg (Int32.not_le.mpr zc83)])
        · have zc83 := Int32.not_lt.mp zc83
          refine t_iload2 dX5_turn_86 ?_
          refine t_aload0 dX5_turn_87 ?_
          refine g_getr ft5 fl_X5_7 (j := 0) (by decide) dX5_turn_88 (by assumption) (by assumption) ?_
          refine t_aload0 dX5_turn_91 ?_
          refine t_iload1 dX5_turn_92 ?_
          refine pw_iconst (0) dX5_turn_93 (by decide) ?_
          refine g_callV2P (M_sackRow (l := l) hlt (m := m) (p := 0)) rfl ft5 rfl mc_X5_sackRow ml_X5_51 mi_X5_sackRow ms_X5_sackRow in_X5 (okc_X5_sackRow (by decide)) dX5_turn_94 (by assumption) (cat_le (Nat.le_of_ble_eq_true rfl)) ?_
          refine pw_iconst (2) dX5_turn_97 (by decide) ?_
          refine pw_iadd dX5_turn_98 ?_
          refine m_ldK (m := m) (p := 0) (k := 2) dX5_turn_99 hR (nI_add _ 2) hm (by decide) (by decide) ?_
          refine pw_isub dX5_turn_100 ?_
          refine t_istore2 dX5_turn_101 (by decide) okp_i ?_
          refine t_aload0 dX5_turn_102 ?_
          refine g_getr ft5 fl_X5_7 (j := 0) (by decide) dX5_turn_103 (by assumption) (by assumption) ?_
          refine pw_bipush (6) dX5_turn_106 (by decide) ?_
          refine pw_dup2 dX5_turn_108 rfl pv_cat ?_
          refine m_ldG (j := 6) dX5_turn_109 hR rfl (by decide) ?_
          refine pw_iconst (1) dX5_turn_110 (by decide) ?_
          refine pw_iadd dX5_turn_111 ?_
          refine m_stG (j := 6) dX5_turn_112 hR rfl (by decide) (fun zi112 hR => ?_)
          refine t_aload0 dX5_turn_113 ?_
          refine g_getr ft5 fl_X5_7 (j := 0) (by decide) dX5_turn_114 (by assumption) (by assumption) ?_
          refine pw_bipush (7) dX5_turn_117 (by decide) ?_
          refine pw_dup2 dX5_turn_119 rfl pv_cat ?_
          refine m_ldG (j := 7) dX5_turn_120 hR rfl (by decide) ?_
          refine t_aload0 dX5_turn_121 ?_
          refine g_getr ft5 fl_X5_7 (j := 0) (by decide) dX5_turn_122 (by assumption) (by assumption) ?_
          refine pw_iconst (0) dX5_turn_125 (by decide) ?_
          refine m_ldG (j := 0) dX5_turn_126 hR rfl (by decide) ?_
          refine t_aload0 dX5_turn_127 ?_
          refine g_getr ft5 fl_X5_7 (j := 0) (by decide) dX5_turn_128 (by assumption) (by assumption) ?_
          refine t_aload0 dX5_turn_131 ?_
          refine t_iload1 dX5_turn_132 ?_
          refine pw_iconst (0) dX5_turn_133 (by decide) ?_
          refine g_callV2P (M_sackRow (l := l) hlt (m := m) (p := 0)) rfl ft5 rfl mc_X5_sackRow ml_X5_51 mi_X5_sackRow ms_X5_sackRow in_X5 (okc_X5_sackRow (by decide)) dX5_turn_134 (by assumption) (by simp only [List.map_cons, List.map_nil, List.sum_cons, List.sum_nil, pv_cat]; exact Nat.le_of_ble_eq_true rfl) ?_
          refine pw_iconst (3) dX5_turn_137 (by decide) ?_
          refine pw_iadd dX5_turn_138 ?_
          refine m_ldK (m := m) (p := 0) (k := 3) dX5_turn_139 hR (nI_add _ 3) hm (by decide) (by decide) ?_
          refine pw_icmp_le 147 dX5_turn_140 (by decide) (fun zc140 => ?_) (fun zc140 => ?_)
          · refine pw_iconst (0) dX5_turn_147 (by decide) ?_
            refine pw_iadd dX5_turn_148 ?_
            refine m_stG (j := 7) dX5_turn_149 hR rfl (by decide) (fun zi149 hR => ?_)
            refine t_aload0 dX5_turn_150 ?_
            refine t_iload1 dX5_turn_151 ?_
            refine pw_bipush (8) dX5_turn_152 (by decide) ?_
            refine pw_iconst (1) dX5_turn_154 (by decide) ?_
            refine g_callV3V (M_add (l := l) hlt hM hR (m := m) (w := 8) hm (by decide)) rfl ft5 rfl mc_X5_add ml_X5_57 mi_X5_add ms_X5_add in_X5 (okc_X5_add (by decide)) dX5_turn_155 (by assumption) (cat_le (Nat.le_of_ble_eq_true rfl)) (fun zim155 zh155 => ?_)
            have hR := zh155
            refine t_aload0 dX5_turn_158 ?_
            refine t_iload1 dX5_turn_159 ?_
            refine pw_iconst (0) dX5_turn_160 (by decide) ?_
            refine g_callV2V (M_remove (l := l) hlt hM hR (m := m) (p := 0) (n := n) hm ((if_neg (fun z => absurd z.2 (by decide))).trans hnk) (by omega) (Nat.zero_le _)) rfl ft5 rfl mc_X5_remove ml_X5_77 mi_X5_remove ms_X5_remove in_X5 (okc_X5_remove (by decide)) dX5_turn_161 (by assumption) (cat_le (Nat.le_of_ble_eq_true rfl)) (fun zim161 zh161 => ?_)
            have hR := zh161
            refine pw_goto 59 dX5_turn_164 (by decide) ?_
            exact ih _ _ _ g1_cnt (by omega) (hR.ext (g1_m (z := 0) (by rw [if_neg (by rw [hfd]; exact Int32.not_lt.mpr zc140)]))) (by rw [hf, grN, if_pos zc83])
          · refine pw_iconst (1) dX5_turn_143 (by decide) ?_
            refine pw_goto 148 dX5_turn_144 (by decide) ?_
            refine pw_iadd dX5_turn_148 ?_
            refine m_stG (j := 7) dX5_turn_149 hR rfl (by decide) (fun zi149 hR => ?_)
            refine t_aload0 dX5_turn_150 ?_
            refine t_iload1 dX5_turn_151 ?_
            refine pw_bipush (8) dX5_turn_152 (by decide) ?_
            refine pw_iconst (1) dX5_turn_154 (by decide) ?_
            refine g_callV3V (M_add (l := l) hlt hM hR (m := m) (w := 8) hm (by decide)) rfl ft5 rfl mc_X5_add ml_X5_57 mi_X5_add ms_X5_add in_X5 (okc_X5_add (by decide)) dX5_turn_155 (by assumption) (cat_le (Nat.le_of_ble_eq_true rfl)) (fun zim155 zh155 => ?_)
            have hR := zh155
            refine t_aload0 dX5_turn_158 ?_
            refine t_iload1 dX5_turn_159 ?_
            refine pw_iconst (0) dX5_turn_160 (by decide) ?_
            refine g_callV2V (M_remove (l := l) hlt hM hR (m := m) (p := 0) (n := n) hm ((if_neg (fun z => absurd z.2 (by decide))).trans hnk) (by omega) (Nat.zero_le _)) rfl ft5 rfl mc_X5_remove ml_X5_77 mi_X5_remove ms_X5_remove in_X5 (okc_X5_remove (by decide)) dX5_turn_161 (by assumption) (cat_le (Nat.le_of_ble_eq_true rfl)) (fun zim161 zh161 => ?_)
            have hR := zh161
            refine pw_goto 59 dX5_turn_164 (by decide) ?_
            exact ih _ _ _ g1_cnt (by omega) (hR.ext (g1_m (z := 1) (by rw [if_pos (by rw [hfd]; exact Int32.not_le.mp zc140)]))) (by rw [hf, grN, if_pos zc83])
  refine t_aload0 dX5_turn_0 ?_
  refine t_iload1 dX5_turn_1 ?_
  refine g_callV1P (M_head (l := l) hlt hM hR hJ (m := m) hm) rfl ft5 rfl mc_X5_head ml_X5_64 mi_X5_head ms_X5_head in_X5 (okc_X5_head (by decide)) dX5_turn_2 (by assumption) (cat_le (Nat.le_of_ble_eq_true rfl)) ?_
  refine t_aload0 dX5_turn_5 ?_
  refine t_iload1 dX5_turn_6 ?_
  refine pw_iconst (5) dX5_turn_7 (by decide) ?_
  refine g_callV2P (M_of (l := l) hlt hM hR (m := m) (w := 5) hm (by decide)) rfl ft5 rfl mc_X5_of ml_X5_47 mi_X5_of ms_X5_of in_X5 (okc_X5_of (by decide)) dX5_turn_8 (by assumption) (cat_le (Nat.le_of_ble_eq_true rfl)) ?_
  refine pw_imul dX5_turn_11 ?_
  refine t_aload0 dX5_turn_12 ?_
  refine t_iload1 dX5_turn_13 ?_
  refine pw_bipush (6) dX5_turn_14 (by decide) ?_
  refine g_callV2P (M_of (l := l) hlt hM hR (m := m) (w := 6) hm (by decide)) rfl ft5 rfl mc_X5_of ml_X5_47 mi_X5_of ms_X5_of in_X5 (okc_X5_of (by decide)) dX5_turn_16 (by assumption) (cat_le (Nat.le_of_ble_eq_true rfl)) ?_
  refine pw_idiv dX5_turn_19 (hJ.s hm) ?_
  refine t_istore2 dX5_turn_20 (by decide) okp_i ?_
  refine t_aload0 dX5_turn_21 ?_
  refine t_iload1 dX5_turn_22 ?_
  refine pw_iconst (1) dX5_turn_23 (by decide) ?_
  refine t_aload0 dX5_turn_24 ?_
  refine g_getr ft5 fl_X5_7 (j := 0) (by decide) dX5_turn_25 (by assumption) (by assumption) ?_
  refine pw_bipush (11) dX5_turn_28 (by decide) ?_
  refine m_ldG (j := 11) dX5_turn_30 hR rfl (by decide) ?_
  refine pw_ineg dX5_turn_31 ?_
  refine g_callV3V (M_add (l := l) hlt hM hR (m := m) (w := 1) hm (by decide)) rfl ft5 rfl mc_X5_add ml_X5_57 mi_X5_add ms_X5_add in_X5 (okc_X5_add (by decide)) dX5_turn_32 (by assumption) (cat_le (Nat.le_of_ble_eq_true rfl)) (fun zim32 zh32 => ?_)
  have hR := zh32
  refine t_aload0 dX5_turn_35 ?_
  refine t_iload1 dX5_turn_36 ?_
  refine pw_bipush (7) dX5_turn_37 (by decide) ?_
  refine pw_iconst (1) dX5_turn_39 (by decide) ?_
  refine g_callV3V (M_add (l := l) hlt hM hR (m := m) (w := 7) hm (by decide)) rfl ft5 rfl mc_X5_add ml_X5_57 mi_X5_add ms_X5_add in_X5 (okc_X5_add (by decide)) dX5_turn_40 (by assumption) (cat_le (Nat.le_of_ble_eq_true rfl)) (fun zim40 zh40 => ?_)
  have hR := zh40
  refine t_aload0 dX5_turn_43 ?_
  refine g_getr ft5 fl_X5_7 (j := 0) (by decide) dX5_turn_44 (by assumption) (by assumption) ?_
  refine pw_iconst (4) dX5_turn_47 (by decide) ?_
  refine pw_dup2 dX5_turn_48 rfl pv_cat ?_
  refine m_ldG (j := 4) dX5_turn_49 hR rfl (by decide) ?_
  refine t_aload0 dX5_turn_50 ?_
  refine g_getr ft5 fl_X5_7 (j := 0) (by decide) dX5_turn_51 (by assumption) (by assumption) ?_
  refine pw_bipush (11) dX5_turn_54 (by decide) ?_
  refine m_ldG (j := 11) dX5_turn_56 hR rfl (by decide) ?_
  refine pw_iadd dX5_turn_57 ?_
  refine m_stG (j := 4) dX5_turn_58 hR rfl (by decide) (fun zi58 hR => ?_)
  rw [tof_m hJ hm]
  have e9 : (tuS S m).2.1 m 9 = S.2.1 m 9 := tuS_f9
  have ec : cnt (tuS S m) m = cnt S m := by unfold cnt; rw [e9]
  exact loop (cnt (tuS S m) m) _ _ _ (by rw [e9, ec]; exact (hI.c hm).2) (by rw [ec]; exact (hI.c hm).1) (hR.eq tu_m) rfl

/-! TideMills: digest -/
def wmZ (S : CS) : Nat → Nat → Int64 → Int64
  | 0, _, h => h
  | n + 1, m, h => wmZ S n (m + 1) (wmS S m h)
set_option maxHeartbeats 4000000 in
set_option maxRecDepth 100000 in
theorem C_digest {l : Launch} (hlt : l.stackTraces = false) {im : TI} {rm : TP} {lm : TL} {Z : TI × TP} {S : CS} {n : Nat} {T : Nat → CS} {sn : Option CS} {bl : Nat} {B : Nat → Int32} (hTS : TS Z S n T sn bl B im rm) (hW : WF S) : Con l m_X4_digest 9 0 0 NN [pv (some 0)] im rm lm (QG (fun v i r q => v = some (.long (dgS S n bl B)) ∧ r = rm ∧ q = lm ∧ TS Z S n T sn bl B i rm)) noX := by
  obtain ⟨⟨hT, hC⟩, ⟨hR, hI⟩, hTS2⟩ := id hTS
  have hk0 := kdT
  have hk79 := kd79
  have hC1 := c1 hC
  have hk1 := hC1.1
  obtain ⟨t0, t1, t2, t4, t5, t7, t8⟩ := id hT
  refine Con.ofN (k := 3) (L0 := [some (pv (some 0)), none, none, none]) hlt (by decide +kernel) rfl rfl (by rw [en1 pv_cat, en0]; exact Nat.le_of_ble_eq_true rfl) (by rw [en1 pv_cat, en0]; rfl) ?_
  have hb60 := hTS.2.2.2.2.2.2.1.2
  have hkb := kdB
  have p188 : ∀ (z j : Nat) (x : Int64) (imk : TI), j + z = bl → TS Z S n T sn bl B imk rm → dgS S n bl B = mxN (fun j => (B j).toInt64) z j x → PW l m_X4_digest 9 0 0 NN 188 [some (pv (some 0)), some (.long x), none, some (.int (nI j))] [] imk rm lm (QG (fun v i r q => v = some (.long (dgS S n bl B)) ∧ r = rm ∧ q = lm ∧ TS Z S n T sn bl B i rm)) noX := by
    intro z
    induction z using Nat.strongRecOn with
    | _ z ih =>
      intro j x imk hj hTS hf
      obtain ⟨⟨hT, hC⟩, ⟨hR, hI⟩, hTS2⟩ := id hTS
      have hC1 := c1 hC
      have hk1 := hC1.1
      obtain ⟨t0, t1, t2, t4, t5, t7, t8⟩ := id hT
      refine t_iload3 dX4_digest_188 ?_
      refine t_aload0 dX4_digest_189 ?_
      refine g_geti ft4 fl_X4_37 (j := 6) (by decide) dX4_digest_190 (by assumption) ?_
      rw [hTS.2.2.2.2.2.2.1.1]
      refine pw_icmp_ge 225 dX4_digest_193 (by decide) (fun zc193 => ?_) (fun zc193 => ?_)
      · have zj : bl ≤ j := (nI_leI (by omega) (by omega)).mp zc193
        have zn : z = 0 := by omega
        subst zn
        refine t_lload1 dX4_digest_225 ?_
        refine pw_lret dX4_digest_226 rfl ?_
        exact ⟨rfl, by rw [hf]; rfl, rfl, rfl, hTS⟩
      · have zj : j < bl := (nI_ltI (by omega) (by omega)).mp (Int32.not_le.mp zc193)
        obtain ⟨z', rfl⟩ : ∃ z', z = z' + 1 := ⟨z - 1, by omega⟩
        refine t_iload3 dX4_digest_196 ?_
        refine t_aload0 dX4_digest_197 ?_
        refine g_getr ft4 fl_X4_33 (j := 5) (by decide) dX4_digest_198 (by assumption) (by assumption) ?_
        refine g_alen dX4_digest_201 (by assumption) (by rw [alB]) ?_
        refine pw_icmp_ge 225 dX4_digest_202 (by decide) (fun zc202 => ?_) (fun zc202 => ?_)
        · exact absurd ((nI_leI (a := 60) (by decide) (by omega)).mp zc202) (by omega)
        · refine pw_ldc2 k_X4_239 dX4_digest_205 ?_
          refine t_lload1 dX4_digest_208 ?_
          refine pw_lmul dX4_digest_209 ?_
          refine t_aload0 dX4_digest_210 ?_
          refine g_getr ft4 fl_X4_33 (j := 5) (by decide) dX4_digest_211 (by assumption) (by assumption) ?_
          refine t_iload3 dX4_digest_214 ?_
          refine g_iald dX4_digest_215 (by assumption) (by rw [alB]; exact vin_nI (by omega) (by decide)) ?_
          rw [nI_clamp (by omega), hTS.2.2.2.2.2.2.2.1 j (by omega)]
          refine pw_i2l dX4_digest_216 ?_
          refine pw_ladd dX4_digest_217 ?_
          refine t_lstore1 dX4_digest_218 (by decide) okp_r ?_
          refine t_iinc3 (1) dX4_digest_219 (by decide) (by decide) okp_n ?_
          refine pw_goto 188 dX4_digest_222 (by decide) ?_
          rw [nI_1]
          exact ih z' (by omega) (j + 1) _ imk (by omega) hTS (by rw [hf, mxN])
  have p134 : ∀ (z j : Nat) (x : Int64) (imk : TI), j + z = 4 → TS Z S n T sn bl B imk rm → dgS S n bl B = d5S bl B (31 * mxN (fun v => (wbS S 12 v).toInt64) z j x + btS (shD S)) → PW l m_X4_digest 9 0 0 NN 134 [some (pv (some 0)), some (.long x), none, some (.int (nI j))] [] imk rm lm (QG (fun v i r q => v = some (.long (dgS S n bl B)) ∧ r = rm ∧ q = lm ∧ TS Z S n T sn bl B i rm)) noX := by
    intro z
    induction z using Nat.strongRecOn with
    | _ z ih =>
      intro j x imk hj hTS hf
      obtain ⟨⟨hT, hC⟩, ⟨hR, hI⟩, hTS2⟩ := id hTS
      have hC1 := c1 hC
      have hk1 := hC1.1
      obtain ⟨t0, t1, t2, t4, t5, t7, t8⟩ := id hT
      refine t_iload3 dX4_digest_134 ?_
      refine pw_iconst (3) dX4_digest_135 (by decide) ?_
      refine pw_icmp_gt 160 dX4_digest_136 (by decide) (fun zc136 => ?_) (fun zc136 => ?_)
      · have zj : 3 < j := (nI_ltI (a := 3) (by decide) (by omega)).mp zc136
        have zn : z = 0 := by omega
        subst zn
        refine pw_ldc2 k_X4_239 dX4_digest_160 ?_
        refine t_lload1 dX4_digest_163 ?_
        refine pw_lmul dX4_digest_164 ?_
        refine t_aload0 dX4_digest_165 ?_
        refine g_callV0P (C_share (l := l) hlt hT hC hR hW) rfl ft4 rfl mc_X4_shareInTime ml_X4_233 mi_X4_shareInTime ms_X4_shareInTime in_X4 (okc_X4_shareInTime (by decide)) dX4_digest_166 (by assumption) (cat_le (Nat.le_of_ble_eq_true rfl)) ?_
        refine g_callS1P (C_bits (l := l) hlt (shD_ok hW)) rfl mc_X4_bitsOfShare ml_X4_252 mi_X4_bitsOfShare in_X4 (okc_X4_bitsOfShare (by decide)) dX4_digest_169 (cat_le (Nat.le_of_ble_eq_true rfl)) ?_
        refine pw_ladd dX4_digest_172 ?_
        refine t_lstore1 dX4_digest_173 (by decide) okp_r ?_
        refine pw_ldc2 k_X4_239 dX4_digest_174 ?_
        refine t_lload1 dX4_digest_177 ?_
        refine pw_lmul dX4_digest_178 ?_
        refine t_aload0 dX4_digest_179 ?_
        refine g_geti ft4 fl_X4_37 (j := 6) (by decide) dX4_digest_180 (by assumption) ?_
        rw [hTS.2.2.2.2.2.2.1.1]
        refine pw_i2l dX4_digest_183 ?_
        refine pw_ladd dX4_digest_184 ?_
        refine t_lstore1 dX4_digest_185 (by decide) okp_r ?_
        refine pw_iconst (0) dX4_digest_186 (by decide) ?_
        refine t_istore3 dX4_digest_187 (by decide) okp_n ?_
        exact p188 bl 0 _ imk (by omega) hTS (by rw [hf]; rfl)
      · have zj : j ≤ 3 := (nI_leI (b := 3) (by omega) (by decide)).mp (Int32.not_lt.mp zc136)
        obtain ⟨z', rfl⟩ : ∃ z', z = z' + 1 := ⟨z - 1, by omega⟩
        refine pw_ldc2 k_X4_239 dX4_digest_139 ?_
        refine t_lload1 dX4_digest_142 ?_
        refine pw_lmul dX4_digest_143 ?_
        refine t_aload0 dX4_digest_144 ?_
        refine pw_bipush (12) dX4_digest_145 (by decide) ?_
        refine t_iload3 dX4_digest_147 ?_
        refine g_callV2I (C_foreseen (l := l) hlt hT hC hR hI hTS.2.2.2.1 (v := j) (by omega)) rfl ft4 rfl mc_X4_foreseen ml_X4_223 mi_X4_foreseen ms_X4_foreseen in_X4 (okc_X4_foreseen (by decide)) dX4_digest_148 (by assumption) (cat_le (Nat.le_of_ble_eq_true rfl)) (fun zx148 zim148 zh148 => ?_)
        obtain ⟨zx, zf, zN⟩ := zh148
        have hTS := hTS.trial zf zN
        rw [zx]
        refine pw_i2l dX4_digest_151 ?_
        refine pw_ladd dX4_digest_152 ?_
        refine t_lstore1 dX4_digest_153 (by decide) okp_r ?_
        refine t_iinc3 (1) dX4_digest_154 (by decide) (by decide) okp_n ?_
        refine pw_goto 134 dX4_digest_157 (by decide) ?_
        rw [nI_1]
        exact ih z' (by omega) (j + 1) _ _ (by omega) hTS (by rw [hf, mxN])
  have p90 : ∀ (z j : Nat) (x : Int64) (imk : TI), j + z = 5 → TS Z S n T sn bl B imk rm → dgS S n bl B = d5S bl B (d4S S (31 * mxN (fun r => (oI (rkS S r)).toInt64) z j x + (oI (chS S)).toInt64)) → PW l m_X4_digest 9 0 0 NN 90 [some (pv (some 0)), some (.long x), none, some (.int (nI j))] [] imk rm lm (QG (fun v i r q => v = some (.long (dgS S n bl B)) ∧ r = rm ∧ q = lm ∧ TS Z S n T sn bl B i rm)) noX := by
    intro z
    induction z using Nat.strongRecOn with
    | _ z ih =>
      intro j x imk hj hTS hf
      obtain ⟨⟨hT, hC⟩, ⟨hR, hI⟩, hTS2⟩ := id hTS
      have hC1 := c1 hC
      have hk1 := hC1.1
      obtain ⟨t0, t1, t2, t4, t5, t7, t8⟩ := id hT
      refine t_iload3 dX4_digest_90 ?_
      refine pw_iconst (5) dX4_digest_91 (by decide) ?_
      refine pw_icmp_ge 114 dX4_digest_92 (by decide) (fun zc92 => ?_) (fun zc92 => ?_)
      · have zj : 5 ≤ j := (nI_leI (a := 5) (by decide) (by omega)).mp zc92
        have zn : z = 0 := by omega
        subst zn
        refine pw_ldc2 k_X4_239 dX4_digest_114 ?_
        refine t_lload1 dX4_digest_117 ?_
        refine pw_lmul dX4_digest_118 ?_
        refine t_aload0 dX4_digest_119 ?_
        refine g_getr ft4 fl_X4_10 (j := 0) (by decide) dX4_digest_120 (by assumption) (by assumption) ?_
        refine g_callV0P (C_aheadOfAll (l := l) hlt hC1 hR) rfl ft0 rfl mc_X0_millAheadOfAll ml_X4_216 mi_X0_millAheadOfAll ms_X0_millAheadOfAll in_X0 (okc_X0_millAheadOfAll (by decide)) dX4_digest_123 (by assumption) (cat_le (Nat.le_of_ble_eq_true rfl)) ?_
        refine g_callS1P (C_numNone (l := l) hlt (fun a ha => by obtain ⟨q, hq, rfl⟩ := gm_some ha; exact ck_of hC1 (chS_lt hq))) rfl mc_X4_numberOrNone ml_X4_220 mi_X4_numberOrNone in_X4 (okc_X4_numberOrNone (by decide)) dX4_digest_126 (cat_le (Nat.le_of_ble_eq_true rfl)) ?_
        rw [nN_gm hR fun q => chS_lt]
        refine pw_i2l dX4_digest_129 ?_
        refine pw_ladd dX4_digest_130 ?_
        refine t_lstore1 dX4_digest_131 (by decide) okp_r ?_
        refine pw_iconst (0) dX4_digest_132 (by decide) ?_
        refine t_istore3 dX4_digest_133 (by decide) okp_n ?_
        exact p134 4 0 _ imk rfl hTS (by rw [hf]; rfl)
      · have zj : j < 5 := (nI_ltI (b := 5) (by omega) (by decide)).mp (Int32.not_le.mp zc92)
        obtain ⟨z', rfl⟩ : ∃ z', z = z' + 1 := ⟨z - 1, by omega⟩
        refine pw_ldc2 k_X4_239 dX4_digest_95 ?_
        refine t_lload1 dX4_digest_98 ?_
        refine pw_lmul dX4_digest_99 ?_
        refine t_aload0 dX4_digest_100 ?_
        refine t_iload3 dX4_digest_101 ?_
        refine g_callV1P (C_rank (l := l) hlt hT hC hR (N := j) rfl (by omega)) rfl ft4 rfl mc_X4_millOfRank ml_X4_213 mi_X4_millOfRank ms_X4_millOfRank in_X4 (okc_X4_millOfRank (by decide)) dX4_digest_102 (by assumption) (cat_le (Nat.le_of_ble_eq_true rfl)) ?_
        refine pw_i2l dX4_digest_105 ?_
        refine pw_ladd dX4_digest_106 ?_
        refine t_lstore1 dX4_digest_107 (by decide) okp_r ?_
        refine t_iinc3 (1) dX4_digest_108 (by decide) (by decide) okp_n ?_
        refine pw_goto 90 dX4_digest_111 (by decide) ?_
        rw [nI_1]
        exact ih z' (by omega) (j + 1) _ imk (by omega) hTS (by rw [hf, mxN])
  have p60 : ∀ (z j : Nat) (x : Int64) (imk : TI), j + z = 12 → TS Z S n T sn bl B imk rm → dgS S n bl B = d5S bl B (d4S S (31 * mxN (fun r => (oI (rkS S r)).toInt64) 5 0 (mxN (fun k => (tdF S (nI k)).toInt64) z j x) + (oI (chS S)).toInt64)) → PW l m_X4_digest 9 0 0 NN 60 [some (pv (some 0)), some (.long x), none, some (.int (nI j))] [] imk rm lm (QG (fun v i r q => v = some (.long (dgS S n bl B)) ∧ r = rm ∧ q = lm ∧ TS Z S n T sn bl B i rm)) noX := by
    intro z
    induction z using Nat.strongRecOn with
    | _ z ih =>
      intro j x imk hj hTS hf
      obtain ⟨⟨hT, hC⟩, ⟨hR, hI⟩, hTS2⟩ := id hTS
      have hC1 := c1 hC
      have hk1 := hC1.1
      obtain ⟨t0, t1, t2, t4, t5, t7, t8⟩ := id hT
      refine t_iload3 dX4_digest_60 ?_
      refine pw_bipush (12) dX4_digest_61 (by decide) ?_
      refine pw_icmp_ge 88 dX4_digest_63 (by decide) (fun zc63 => ?_) (fun zc63 => ?_)
      · have zj : 12 ≤ j := (nI_leI (a := 12) (by decide) (by omega)).mp zc63
        have zn : z = 0 := by omega
        subst zn
        refine pw_iconst (0) dX4_digest_88 (by decide) ?_
        refine t_istore3 dX4_digest_89 (by decide) okp_n ?_
        exact p90 5 0 _ imk rfl hTS (by rw [hf]; rfl)
      · have zj : j < 12 := (nI_ltI (b := 12) (by omega) (by decide)).mp (Int32.not_le.mp zc63)
        obtain ⟨z', rfl⟩ : ∃ z', z = z' + 1 := ⟨z - 1, by omega⟩
        refine pw_ldc2 k_X4_239 dX4_digest_66 ?_
        refine t_lload1 dX4_digest_69 ?_
        refine pw_lmul dX4_digest_70 ?_
        refine t_aload0 dX4_digest_71 ?_
        refine g_getr ft4 fl_X4_10 (j := 0) (by decide) dX4_digest_72 (by assumption) (by assumption) ?_
        refine t_iload3 dX4_digest_75 ?_
        refine g_callV1P (C_tideIn (l := l) hlt hk1) rfl ft0 rfl mc_X0_tideIn ml_X4_207 mi_X0_tideIn ms_X0_tideIn in_X0 (okc_X0_tideIn (by decide)) dX4_digest_76 (by assumption) (cat_le (Nat.le_of_ble_eq_true rfl)) ?_
        rw [td_of hR]
        refine pw_i2l dX4_digest_79 ?_
        refine pw_ladd dX4_digest_80 ?_
        refine t_lstore1 dX4_digest_81 (by decide) okp_r ?_
        refine t_iinc3 (1) dX4_digest_82 (by decide) (by decide) okp_n ?_
        refine pw_goto 60 dX4_digest_85 (by decide) ?_
        rw [nI_1]
        exact ih z' (by omega) (j + 1) _ imk (by omega) hTS (by rw [hf]; rfl)
  have p39 : ∀ (z j : Nat) (x : Int64) (imk : TI), j + z = 5 → TS Z S n T sn bl B imk rm → dgS S n bl B = d5S bl B (d4S S (d3S S (wmZ S z j x))) → PW l m_X4_digest 9 0 0 NN 39 [some (pv (some 0)), some (.long x), none, some (pv (mo 1 j))] [] imk rm lm (QG (fun v i r q => v = some (.long (dgS S n bl B)) ∧ r = rm ∧ q = lm ∧ TS Z S n T sn bl B i rm)) noX := by
    intro z
    induction z using Nat.strongRecOn with
    | _ z ih =>
      intro j x imk hj hTS hf
      obtain ⟨⟨hT, hC⟩, ⟨hR, hI⟩, hTS2⟩ := id hTS
      have hC1 := c1 hC
      have hk1 := hC1.1
      obtain ⟨t0, t1, t2, t4, t5, t7, t8⟩ := id hT
      refine t_aload3 dX4_digest_39 ?_
      refine pw_ifnull 58 dX4_digest_40 (by decide) (fun zc40 => ?_) (fun zy40 zc40 => ?_)
      · have zm5 := mo_none zc40
        have zn : z = 0 := by omega
        subst zn
        refine pw_iconst (0) dX4_digest_58 (by decide) ?_
        refine t_istore3 dX4_digest_59 (by decide) okp_n ?_
        exact p60 12 0 _ imk rfl hTS (by rw [hf]; rfl)
      · obtain ⟨zhm, rfl⟩ := mo_some zc40
        obtain ⟨z', rfl⟩ : ∃ z', z = z' + 1 := ⟨z - 1, by omega⟩
        rw [mo_of zhm]
        have hkm := ck_of hC1 zhm
        refine t_aload0 dX4_digest_43 ?_
        refine t_lload1 dX4_digest_44 ?_
        refine t_aload3 dX4_digest_45 ?_
        refine g_callV2G (C_withMill (l := l) hlt hT hC hR hW hTS.2.2.2.1 (m := j) (h := x) zhm) rfl ft4 rfl mc_X4_withMill ml_X4_245 mi_X4_withMill ms_X4_withMill in_X4 (okc_X4_withMill (by decide)) dX4_digest_46 (by assumption) (cat_le (Nat.le_of_ble_eq_true rfl)) (fun _ _ _ _ h => h.elim) (by decide) (fun zv46 zim46 zrm46 zlm46 zh46 => ?_)
        obtain ⟨rfl, rfl, rfl, zf, zN⟩ := zh46
        have hTS := hTS.trial zf zN
        refine t_lstore1 dX4_digest_49 (by decide) okp_r ?_
        refine t_aload3 dX4_digest_50 ?_
        refine g_getr ft2 fl_X4_249 (j := 1) (by decide) dX4_digest_51 (by assumption) (hC1.2.2.2 j zhm) ?_
        refine t_astore3 dX4_digest_54 (by decide) okp_n ?_
        refine pw_goto 39 dX4_digest_55 (by decide) ?_
        exact ih z' (by omega) (j + 1) _ _ (by omega) hTS (by rw [hf]; rfl)
  have p6 : ∀ (z j : Nat) (x : Int64) (imk : TI), j + z = 15 → TS Z S n T sn bl B imk rm → dgS S n bl B = d5S bl B (d4S S (d3S S (d2S S (mxN (fun w => (alS S n w).toInt64) z j x)))) → PW l m_X4_digest 9 0 0 NN 6 [some (pv (some 0)), some (.long x), none, some (.int (nI j))] [] imk rm lm (QG (fun v i r q => v = some (.long (dgS S n bl B)) ∧ r = rm ∧ q = lm ∧ TS Z S n T sn bl B i rm)) noX := by
    intro z
    induction z using Nat.strongRecOn with
    | _ z ih =>
      intro j x imk hj hTS hf
      obtain ⟨⟨hT, hC⟩, ⟨hR, hI⟩, hTS2⟩ := id hTS
      have hC1 := c1 hC
      have hk1 := hC1.1
      obtain ⟨t0, t1, t2, t4, t5, t7, t8⟩ := id hT
      refine t_iload3 dX4_digest_6 ?_
      refine pw_bipush (14) dX4_digest_7 (by decide) ?_
      refine pw_icmp_gt 31 dX4_digest_9 (by decide) (fun zc9 => ?_) (fun zc9 => ?_)
      · have zj : 14 < j := (nI_ltI (a := 14) (by decide) (by omega)).mp zc9
        have zn : z = 0 := by omega
        subst zn
        refine t_aload0 dX4_digest_31 ?_
        refine g_getr ft4 fl_X4_10 (j := 0) (by decide) dX4_digest_32 (by assumption) (by assumption) ?_
        refine g_getr ft0 fl_X4_241 (j := 0) (by decide) dX4_digest_35 (by assumption) (hC1.2.1) ?_
        refine t_astore3 dX4_digest_38 (by decide) okp_n ?_
        exact p39 5 0 _ imk rfl hTS (by rw [hf]; rfl)
      · have zj : j ≤ 14 := (nI_leI (b := 14) (by omega) (by decide)).mp (Int32.not_lt.mp zc9)
        obtain ⟨z', rfl⟩ : ∃ z', z = z' + 1 := ⟨z - 1, by omega⟩
        refine pw_ldc2 k_X4_239 dX4_digest_12 ?_
        refine t_lload1 dX4_digest_15 ?_
        refine pw_lmul dX4_digest_16 ?_
        refine t_aload0 dX4_digest_17 ?_
        refine t_iload3 dX4_digest_18 ?_
        refine g_callV1P (C_numAll (l := l) hlt hT hC hR (Classical.choose_spec hTS.2.2.1.1).2.1 (v := j) (by omega) rfl) rfl ft4 rfl mc_X4_numberOfAll ml_X4_210 mi_X4_numberOfAll ms_X4_numberOfAll in_X4 (okc_X4_numberOfAll (by decide)) dX4_digest_19 (by assumption) (cat_le (Nat.le_of_ble_eq_true rfl)) ?_
        refine pw_i2l dX4_digest_22 ?_
        refine pw_ladd dX4_digest_23 ?_
        refine t_lstore1 dX4_digest_24 (by decide) okp_r ?_
        refine t_iinc3 (1) dX4_digest_25 (by decide) (by decide) okp_n ?_
        refine pw_goto 6 dX4_digest_28 (by decide) ?_
        rw [nI_1]
        exact ih z' (by omega) (j + 1) _ imk (by omega) hTS (by rw [hf, mxN])
  refine pw_ldc2 k_X4_237 dX4_digest_0 ?_
  refine t_lstore1 dX4_digest_3 (by decide) okp_r ?_
  refine pw_iconst (0) dX4_digest_4 (by decide) ?_
  refine t_istore3 dX4_digest_5 (by decide) okp_n ?_
  exact p6 15 0 _ im rfl hTS rfl

/-! The law: ranks, all that holds -/
set_option maxHeartbeats 4000000 in
set_option maxRecDepth 100000 in
theorem H_areNext {l : Launch} (hlt : l.stackTraces = false) {im : TI} {rm : TP} {lm : TL} {Z : TI × TP} {S : CS} {n : Nat} {T : Nat → CS} {sn : Option CS} {bl : Nat} {B : Nat → Int32} (hTS : TS Z S n T sn bl B im rm) (hW : WF S) : Con l m_L_areNext 10 0 0 NN [pv (some 0)] im rm lm (QP (.int 1) im rm lm) noX := by
  refine Con.ofN (k := 8) (L0 := [some (pv (some 0)), none, none, none, none, none, none, none, none]) hlt (by decide +kernel) rfl rfl (by rw [en1 pv_cat, en0]; exact Nat.le_of_ble_eq_true rfl) (by rw [en1 pv_cat, en0]; rfl) ?_
  have hI := hW.1.1
  have h5 := cnN_le (S := S) 5
  have loop2 : ∀ (r k x : Nat) (z4 z5 z6 z7 z8 : Option Value), k + r = 7 → x < 32 → (∀ m, m < 5 → (x.testBit m = true ↔ ∃ j, j < k ∧ rkS S j = some m)) → PW l m_L_areNext 10 0 0 NN 35 [some (pv (some 0)), some (.int (nI (cnN S 5))), some (.int (nI x)), some (.int (nI k)), z4, z5, z6, z7, z8] [] im rm lm (QP (.int 1) im rm lm) noX := by
    intro r
    induction r with
    | zero =>
      intro k x z4 z5 z6 z7 z8 hk hx hv
      refine t_iload3 dL_areNext_35 ?_
      refine pw_bipush (7) dL_areNext_36 (by decide) ?_
      refine pw_icmp_ge 238 dL_areNext_38 (by decide) (fun _ => ?_) (fun zz => absurd (show (7 : Int32) ≤ nI k from nI_le (a := 7) (by omega) (by omega)) zz)
      refine t_aload0 dL_areNext_238 ?_
      refine g_callV0P (C_chosen (l := l) hlt hTS) rfl ft4 rfl mc_X4_chosen ml_L_41 mi_X4_chosen ms_X4_chosen in_X4 (okc_X4_chosen (by decide)) dL_areNext_239 kdT (cat_le (Nat.le_of_ble_eq_true rfl)) ?_
      refine t_aload0 dL_areNext_242 ?_
      refine pw_iconst (0) dL_areNext_243 (by decide) ?_
      refine g_callV1P (Q_next (l := l) hlt hTS (k := 0) (x := 0) (by decide) rfl) rfl ft4 rfl mc_X4_next ml_L_38 mi_X4_next ms_X4_next in_X4 (okc_X4_next (by decide)) dL_areNext_244 kdT (cat_le (Nat.le_of_ble_eq_true rfl)) ?_
      refine pw_icmp_ne 254 dL_areNext_247 (by decide) (fun zz => absurd (by rw [ch_rk]) zz) (fun _ => ?_)
      refine pw_iconst (1) dL_areNext_250 (by decide) ?_
      refine pw_goto 255 dL_areNext_251 (by decide) ?_
      refine pw_zret dL_areNext_255 rfl ?_ ?_
      · first | rfl | exact bI_n
      · exact ⟨rfl, rfl, rfl, rfl, rfl⟩
    | succ r ih =>
      intro k x z4 z5 z6 z7 z8 hk hx hv
      have hk7 : k < 7 := by omega
      cases hr : rkS S k with
      | none =>
        refine t_iload3 dL_areNext_35 ?_
        refine pw_bipush (7) dL_areNext_36 (by decide) ?_
        refine pw_icmp_ge 238 dL_areNext_38 (by decide) (fun zz => absurd zz (nI_ge (b := 7) (a := k) hk7 (by decide))) (fun _ => ?_)
        refine t_aload0 dL_areNext_41 ?_
        refine t_iload3 dL_areNext_42 ?_
        refine g_callV1P (Q_next (l := l) hlt hTS (k := k) (x := nI k) (by omega) rfl) rfl ft4 rfl mc_X4_next ml_L_38 mi_X4_next ms_X4_next in_X4 (okc_X4_next (by decide)) dL_areNext_43 kdT (cat_le (Nat.le_of_ble_eq_true rfl)) ?_
        rw [show oI (rkS S k) = -1 by rw [hr]; rfl]
        refine t_istore4 dL_areNext_46 (by exact Nat.le_of_ble_eq_true rfl) okp_i ?_
        refine t_iload4 dL_areNext_48 ?_
        refine pw_if_ge 57 dL_areNext_50 (by decide) (fun zz => absurd zz (show ¬ (0 : Int32) ≤ -1 by decide)) (fun _ => ?_)
        refine pw_iconst (1) dL_areNext_53 (by decide) ?_
        refine pw_goto 58 dL_areNext_54 (by decide) ?_
        refine t_iload3 dL_areNext_58 ?_
        refine t_iload1 dL_areNext_59 ?_
        refine pw_icmp_lt 67 dL_areNext_60 (by decide) (fun zz => absurd zz (nI_nlt (rk_can' hr) (by omega))) (fun _ => ?_)
        refine pw_iconst (1) dL_areNext_63 (by decide) ?_
        refine pw_goto 68 dL_areNext_64 (by decide) ?_
        refine pw_icmp_ne 95 dL_areNext_68 (by decide) (fun h => absurd h (by decide)) (fun _ => ?_)
        refine t_iload4 dL_areNext_71 ?_
        refine pw_if_lt 97 dL_areNext_73 (by decide) (fun _ => ?_) (fun zz => absurd (show (-1 : Int32) < 0 by decide) zz)
        refine t_iload4 dL_areNext_97 ?_
        refine pw_if_lt 216 dL_areNext_99 (by decide) (fun _ => ?_) (fun zz => absurd (show (-1 : Int32) < 0 by decide) zz)
        refine t_iload2 dL_areNext_216 ?_
        refine t_iload4 dL_areNext_217 ?_
        refine pw_if_ge 226 dL_areNext_219 (by decide) (fun zz => absurd zz (show ¬ (0 : Int32) ≤ -1 by decide)) (fun _ => ?_)
        refine pw_iconst (0) dL_areNext_222 (by decide) ?_
        refine pw_goto 230 dL_areNext_223 (by decide) ?_
        refine pw_ior dL_areNext_230 ?_
        refine t_istore2 dL_areNext_231 (by exact Nat.le_of_ble_eq_true rfl) okp_i ?_
        refine t_iinc3 (1) dL_areNext_232 (by decide) (by exact Nat.le_of_ble_eq_true rfl) okp_i ?_
        refine pw_goto 35 dL_areNext_235 (by decide) ?_
        rw [Int32.or_zero, nI_1]
        refine ih (k + 1) x _ _ _ _ _ (by omega) hx fun m hm => (hv m hm).trans ⟨fun ⟨j, h1, h2⟩ => ⟨j, by omega, h2⟩, fun ⟨j, h1, h2⟩ => ⟨j, ?_, h2⟩⟩
        by_cases e : j = k
        · rw [e, hr] at h2; cases h2
        · omega
      | some e =>
        obtain ⟨he, hre, -⟩ := (rk_spec k).1 e hr
        have hce := rs0_cnt hI he hre
        have hnv : ¬ x.testBit e = true := fun z => by obtain ⟨j, h1, h2⟩ := (hv e he).mp z; have := rk_uni h2 hr; omega
        have hv2 : ∀ m, m < 5 → ((x ||| 2 ^ e).testBit m = true ↔ ∃ j, j < k + 1 ∧ rkS S j = some m) := fun m hm => (bit_get x hx e he m hm).trans ⟨fun z => z.elim (fun z => by obtain ⟨j, h1, h2⟩ := (hv m hm).mp z; exact ⟨j, by omega, h2⟩) (fun z => ⟨k, by omega, by rw [z]; exact hr⟩), fun ⟨j, h1, h2⟩ => by
          by_cases q : j = k
          · rw [q, hr] at h2; cases h2; exact Or.inr rfl
          · exact Or.inl ((hv m hm).mpr ⟨j, by omega, h2⟩)⟩
        rcases k with _ | k
        · refine t_iload3 dL_areNext_35 ?_
          refine pw_bipush (7) dL_areNext_36 (by decide) ?_
          refine pw_icmp_ge 238 dL_areNext_38 (by decide) (fun zz => absurd zz (nI_ge (b := 7) (a := 0) hk7 (by decide))) (fun _ => ?_)
          refine t_aload0 dL_areNext_41 ?_
          refine t_iload3 dL_areNext_42 ?_
          refine g_callV1P (Q_next (l := l) hlt hTS (k := 0) (x := nI 0) (by omega) rfl) rfl ft4 rfl mc_X4_next ml_L_38 mi_X4_next ms_X4_next in_X4 (okc_X4_next (by decide)) dL_areNext_43 kdT (cat_le (Nat.le_of_ble_eq_true rfl)) ?_
          rw [show oI (rkS S 0) = nI e by rw [hr]; rfl]
          refine t_istore4 dL_areNext_46 (by exact Nat.le_of_ble_eq_true rfl) okp_i ?_
          refine t_iload4 dL_areNext_48 ?_
          refine pw_if_ge 57 dL_areNext_50 (by decide) (fun _ => ?_) (fun zz => absurd (nI_pos' (n := e) (by omega)) zz)
          refine pw_iconst (0) dL_areNext_57 (by decide) ?_
          refine t_iload3 dL_areNext_58 ?_
          refine t_iload1 dL_areNext_59 ?_
          refine pw_icmp_lt 67 dL_areNext_60 (by decide) (fun _ => ?_) (fun zz => absurd (nI_lt (rk_can hr) (by omega)) zz)
          refine pw_iconst (0) dL_areNext_67 (by decide) ?_
          refine pw_icmp_ne 95 dL_areNext_68 (by decide) (fun h => absurd h (by decide)) (fun _ => ?_)
          refine t_iload4 dL_areNext_71 ?_
          refine pw_if_lt 97 dL_areNext_73 (by decide) (fun zz => absurd zz (nI_pos (n := e) (by omega))) (fun _ => ?_)
          refine t_iload2 dL_areNext_76 ?_
          refine t_iload4 dL_areNext_77 ?_
          refine pw_ishr dL_areNext_79 ?_
          refine pw_iconst (1) dL_areNext_80 (by decide) ?_
          refine pw_iand dL_areNext_81 ?_
          refine pw_iconst (1) dL_areNext_82 (by decide) ?_
          refine pw_icmp_eq 95 dL_areNext_83 (by decide) (fun zz => absurd zz (fun z => hnv ((bit_in x hx e he).mp z))) (fun _ => ?_)
          refine t_aload0 dL_areNext_86 ?_
          refine t_iload4 dL_areNext_87 ?_
          refine g_callV1P (Q_why (l := l) hlt hTS (m := e) (x := nI e) he rfl) rfl ft4 rfl mc_X4_whyNot ml_L_29 mi_X4_whyNot ms_X4_whyNot in_X4 (okc_X4_whyNot (by decide)) dL_areNext_89 kdT (cat_le (Nat.le_of_ble_eq_true rfl)) ?_
          refine pw_if_eq 97 dL_areNext_92 (by decide) (fun _ => ?_) (fun zz => absurd hre zz)
          refine t_iload4 dL_areNext_97 ?_
          refine pw_if_lt 216 dL_areNext_99 (by decide) (fun zz => absurd zz (nI_pos (n := e) (by omega))) (fun _ => ?_)
          refine t_iload3 dL_areNext_102 ?_
          refine pw_if_le 216 dL_areNext_103 (by decide) (fun _ => ?_) (fun zz => absurd (show nI 0 ≤ 0 by decide) zz)
          refine t_iload2 dL_areNext_216 ?_
          refine t_iload4 dL_areNext_217 ?_
          refine pw_if_ge 226 dL_areNext_219 (by decide) (fun _ => ?_) (fun zz => absurd (nI_pos' (n := e) (by omega)) zz)
          refine pw_iconst (1) dL_areNext_226 (by decide) ?_
          refine t_iload4 dL_areNext_227 ?_
          refine pw_ishl dL_areNext_229 ?_
          refine pw_ior dL_areNext_230 ?_
          refine t_istore2 dL_areNext_231 (by exact Nat.le_of_ble_eq_true rfl) okp_i ?_
          refine t_iinc3 (1) dL_areNext_232 (by decide) (by exact Nat.le_of_ble_eq_true rfl) okp_i ?_
          refine pw_goto 35 dL_areNext_235 (by decide) ?_
          rw [(bit_or x hx e he).1, nI_1]
          exact ih (0 + 1) (x ||| 2 ^ e) _ _ _ _ _ (by omega) (bit_or x hx e he).2 hv2
        · obtain ⟨a, ha⟩ := rk_down hr
          obtain ⟨ha5, hra, -⟩ := (rk_spec k).1 a ha
          have hca := rs0_cnt hI ha5 hra
          rcases rk_law hW ha hr with q | ⟨q, q2 | ⟨q2, q3⟩⟩
          · refine t_iload3 dL_areNext_35 ?_
            refine pw_bipush (7) dL_areNext_36 (by decide) ?_
            refine pw_icmp_ge 238 dL_areNext_38 (by decide) (fun zz => absurd zz (nI_ge (b := 7) (a := (k + 1)) hk7 (by decide))) (fun _ => ?_)
            refine t_aload0 dL_areNext_41 ?_
            refine t_iload3 dL_areNext_42 ?_
            refine g_callV1P (Q_next (l := l) hlt hTS (k := (k + 1)) (x := nI (k + 1)) (by omega) rfl) rfl ft4 rfl mc_X4_next ml_L_38 mi_X4_next ms_X4_next in_X4 (okc_X4_next (by decide)) dL_areNext_43 kdT (cat_le (Nat.le_of_ble_eq_true rfl)) ?_
            rw [show oI (rkS S (k + 1)) = nI e by rw [hr]; rfl]
            refine t_istore4 dL_areNext_46 (by exact Nat.le_of_ble_eq_true rfl) okp_i ?_
            refine t_iload4 dL_areNext_48 ?_
            refine pw_if_ge 57 dL_areNext_50 (by decide) (fun _ => ?_) (fun zz => absurd (nI_pos' (n := e) (by omega)) zz)
            refine pw_iconst (0) dL_areNext_57 (by decide) ?_
            refine t_iload3 dL_areNext_58 ?_
            refine t_iload1 dL_areNext_59 ?_
            refine pw_icmp_lt 67 dL_areNext_60 (by decide) (fun _ => ?_) (fun zz => absurd (nI_lt (rk_can hr) (by omega)) zz)
            refine pw_iconst (0) dL_areNext_67 (by decide) ?_
            refine pw_icmp_ne 95 dL_areNext_68 (by decide) (fun h => absurd h (by decide)) (fun _ => ?_)
            refine t_iload4 dL_areNext_71 ?_
            refine pw_if_lt 97 dL_areNext_73 (by decide) (fun zz => absurd zz (nI_pos (n := e) (by omega))) (fun _ => ?_)
            refine t_iload2 dL_areNext_76 ?_
            refine t_iload4 dL_areNext_77 ?_
            refine pw_ishr dL_areNext_79 ?_
            refine pw_iconst (1) dL_areNext_80 (by decide) ?_
            refine pw_iand dL_areNext_81 ?_
            refine pw_iconst (1) dL_areNext_82 (by decide) ?_
            refine pw_icmp_eq 95 dL_areNext_83 (by decide) (fun zz => absurd zz (fun z => hnv ((bit_in x hx e he).mp z))) (fun _ => ?_)
            refine t_aload0 dL_areNext_86 ?_
            refine t_iload4 dL_areNext_87 ?_
            refine g_callV1P (Q_why (l := l) hlt hTS (m := e) (x := nI e) he rfl) rfl ft4 rfl mc_X4_whyNot ml_L_29 mi_X4_whyNot ms_X4_whyNot in_X4 (okc_X4_whyNot (by decide)) dL_areNext_89 kdT (cat_le (Nat.le_of_ble_eq_true rfl)) ?_
            refine pw_if_eq 97 dL_areNext_92 (by decide) (fun _ => ?_) (fun zz => absurd hre zz)
            refine t_iload4 dL_areNext_97 ?_
            refine pw_if_lt 216 dL_areNext_99 (by decide) (fun zz => absurd zz (nI_pos (n := e) (by omega))) (fun _ => ?_)
            refine t_iload3 dL_areNext_102 ?_
            refine pw_if_le 216 dL_areNext_103 (by decide) (fun zz => absurd zz (nI_nle (n := k + 1) (by omega) (by omega))) (fun _ => ?_)
            refine t_aload0 dL_areNext_106 ?_
            refine t_iload3 dL_areNext_107 ?_
            refine pw_iconst (1) dL_areNext_108 (by decide) ?_
            refine pw_isub dL_areNext_109 ?_
            rw [nI_pred]
            refine g_callV1P (Q_next (l := l) hlt hTS (k := k) (x := nI k) (by omega) rfl) rfl ft4 rfl mc_X4_next ml_L_38 mi_X4_next ms_X4_next in_X4 (okc_X4_next (by decide)) dL_areNext_110 kdT (cat_le (Nat.le_of_ble_eq_true rfl)) ?_
            rw [show oI (rkS S k) = nI a by rw [ha]; rfl]
            refine t_istore5 dL_areNext_113 (by exact Nat.le_of_ble_eq_true rfl) okp_i ?_
            refine t_aload0 dL_areNext_115 ?_
            refine t_aload0 dL_areNext_116 ?_
            refine t_iload5 dL_areNext_117 ?_
            refine pw_iconst (0) dL_areNext_119 (by decide) ?_
            refine g_callV2P (Q_sackAt (l := l) hlt hTS (m := a) (p := 0) (x := nI a) (a := 0) ha5 rfl rfl (by omega) (y := S.2.2 a 0 0) (if_pos hca)) rfl ft4 rfl mc_X4_sackAt ml_L_16 mi_X4_sackAt ms_X4_sackAt in_X4 (okc_X4_sackAt (by decide)) dL_areNext_120 kdT (cat_le (Nat.le_of_ble_eq_true rfl)) ?_
            refine pw_iconst (3) dL_areNext_123 (by decide) ?_
            refine g_callV2P (Q_sackOf (l := l) hlt hTS hW (m := a) (p := 0) (v := 3) (x := S.2.2 a 0 0) (a := 3) ha5 hca rfl rfl (by decide) (y := S.2.2 a 0 3) rfl) rfl ft4 rfl mc_X4_sackOf ml_L_23 mi_X4_sackOf ms_X4_sackOf in_X4 (okc_X4_sackOf (by decide)) dL_areNext_124 kdT (cat_le (Nat.le_of_ble_eq_true rfl)) ?_
            refine t_istore6 dL_areNext_127 (by exact Nat.le_of_ble_eq_true rfl) okp_i ?_
            refine t_aload0 dL_areNext_129 ?_
            refine t_aload0 dL_areNext_130 ?_
            refine t_iload4 dL_areNext_131 ?_
            refine pw_iconst (0) dL_areNext_133 (by decide) ?_
            refine g_callV2P (Q_sackAt (l := l) hlt hTS (m := e) (p := 0) (x := nI e) (a := 0) he rfl rfl (by omega) (y := S.2.2 e 0 0) (if_pos hce)) rfl ft4 rfl mc_X4_sackAt ml_L_16 mi_X4_sackAt ms_X4_sackAt in_X4 (okc_X4_sackAt (by decide)) dL_areNext_134 kdT (cat_le (Nat.le_of_ble_eq_true rfl)) ?_
            refine pw_iconst (3) dL_areNext_137 (by decide) ?_
            refine g_callV2P (Q_sackOf (l := l) hlt hTS hW (m := e) (p := 0) (v := 3) (x := S.2.2 e 0 0) (a := 3) he hce rfl rfl (by decide) (y := S.2.2 e 0 3) rfl) rfl ft4 rfl mc_X4_sackOf ml_L_23 mi_X4_sackOf ms_X4_sackOf in_X4 (okc_X4_sackOf (by decide)) dL_areNext_138 kdT (cat_le (Nat.le_of_ble_eq_true rfl)) ?_
            refine t_istore7 dL_areNext_141 (by exact Nat.le_of_ble_eq_true rfl) okp_i ?_
            refine t_iload6 dL_areNext_143 ?_
            refine t_iload7 dL_areNext_145 ?_
            refine pw_icmp_lt 202 dL_areNext_147 (by decide) (fun _ => ?_) (fun zz => absurd q zz)
            refine pw_iconst (1) dL_areNext_202 (by decide) ?_
            refine pw_goto 207 dL_areNext_203 (by decide) ?_
            refine t_istore8 dL_areNext_207 (by exact Nat.le_of_ble_eq_true rfl) okp_i ?_
            refine t_iload8 dL_areNext_209 ?_
            refine pw_if_ne 216 dL_areNext_211 (by decide) (fun _ => ?_) (fun h => absurd (by decide) h)
            refine t_iload2 dL_areNext_216 ?_
            refine t_iload4 dL_areNext_217 ?_
            refine pw_if_ge 226 dL_areNext_219 (by decide) (fun _ => ?_) (fun zz => absurd (nI_pos' (n := e) (by omega)) zz)
            refine pw_iconst (1) dL_areNext_226 (by decide) ?_
            refine t_iload4 dL_areNext_227 ?_
            refine pw_ishl dL_areNext_229 ?_
            refine pw_ior dL_areNext_230 ?_
            refine t_istore2 dL_areNext_231 (by exact Nat.le_of_ble_eq_true rfl) okp_i ?_
            refine t_iinc3 (1) dL_areNext_232 (by decide) (by exact Nat.le_of_ble_eq_true rfl) okp_i ?_
            refine pw_goto 35 dL_areNext_235 (by decide) ?_
            rw [(bit_or x hx e he).1, nI_1]
            exact ih ((k + 1) + 1) (x ||| 2 ^ e) _ _ _ _ _ (by omega) (bit_or x hx e he).2 hv2
          · refine t_iload3 dL_areNext_35 ?_
            refine pw_bipush (7) dL_areNext_36 (by decide) ?_
            refine pw_icmp_ge 238 dL_areNext_38 (by decide) (fun zz => absurd zz (nI_ge (b := 7) (a := (k + 1)) hk7 (by decide))) (fun _ => ?_)
            refine t_aload0 dL_areNext_41 ?_
            refine t_iload3 dL_areNext_42 ?_
            refine g_callV1P (Q_next (l := l) hlt hTS (k := (k + 1)) (x := nI (k + 1)) (by omega) rfl) rfl ft4 rfl mc_X4_next ml_L_38 mi_X4_next ms_X4_next in_X4 (okc_X4_next (by decide)) dL_areNext_43 kdT (cat_le (Nat.le_of_ble_eq_true rfl)) ?_
            rw [show oI (rkS S (k + 1)) = nI e by rw [hr]; rfl]
            refine t_istore4 dL_areNext_46 (by exact Nat.le_of_ble_eq_true rfl) okp_i ?_
            refine t_iload4 dL_areNext_48 ?_
            refine pw_if_ge 57 dL_areNext_50 (by decide) (fun _ => ?_) (fun zz => absurd (nI_pos' (n := e) (by omega)) zz)
            refine pw_iconst (0) dL_areNext_57 (by decide) ?_
            refine t_iload3 dL_areNext_58 ?_
            refine t_iload1 dL_areNext_59 ?_
            refine pw_icmp_lt 67 dL_areNext_60 (by decide) (fun _ => ?_) (fun zz => absurd (nI_lt (rk_can hr) (by omega)) zz)
            refine pw_iconst (0) dL_areNext_67 (by decide) ?_
            refine pw_icmp_ne 95 dL_areNext_68 (by decide) (fun h => absurd h (by decide)) (fun _ => ?_)
            refine t_iload4 dL_areNext_71 ?_
            refine pw_if_lt 97 dL_areNext_73 (by decide) (fun zz => absurd zz (nI_pos (n := e) (by omega))) (fun _ => ?_)
            refine t_iload2 dL_areNext_76 ?_
            refine t_iload4 dL_areNext_77 ?_
            refine pw_ishr dL_areNext_79 ?_
            refine pw_iconst (1) dL_areNext_80 (by decide) ?_
            refine pw_iand dL_areNext_81 ?_
            refine pw_iconst (1) dL_areNext_82 (by decide) ?_
            refine pw_icmp_eq 95 dL_areNext_83 (by decide) (fun zz => absurd zz (fun z => hnv ((bit_in x hx e he).mp z))) (fun _ => ?_)
            refine t_aload0 dL_areNext_86 ?_
            refine t_iload4 dL_areNext_87 ?_
            refine g_callV1P (Q_why (l := l) hlt hTS (m := e) (x := nI e) he rfl) rfl ft4 rfl mc_X4_whyNot ml_L_29 mi_X4_whyNot ms_X4_whyNot in_X4 (okc_X4_whyNot (by decide)) dL_areNext_89 kdT (cat_le (Nat.le_of_ble_eq_true rfl)) ?_
            refine pw_if_eq 97 dL_areNext_92 (by decide) (fun _ => ?_) (fun zz => absurd hre zz)
            refine t_iload4 dL_areNext_97 ?_
            refine pw_if_lt 216 dL_areNext_99 (by decide) (fun zz => absurd zz (nI_pos (n := e) (by omega))) (fun _ => ?_)
            refine t_iload3 dL_areNext_102 ?_
            refine pw_if_le 216 dL_areNext_103 (by decide) (fun zz => absurd zz (nI_nle (n := k + 1) (by omega) (by omega))) (fun _ => ?_)
            refine t_aload0 dL_areNext_106 ?_
            refine t_iload3 dL_areNext_107 ?_
            refine pw_iconst (1) dL_areNext_108 (by decide) ?_
            refine pw_isub dL_areNext_109 ?_
            rw [nI_pred]
            refine g_callV1P (Q_next (l := l) hlt hTS (k := k) (x := nI k) (by omega) rfl) rfl ft4 rfl mc_X4_next ml_L_38 mi_X4_next ms_X4_next in_X4 (okc_X4_next (by decide)) dL_areNext_110 kdT (cat_le (Nat.le_of_ble_eq_true rfl)) ?_
            rw [show oI (rkS S k) = nI a by rw [ha]; rfl]
            refine t_istore5 dL_areNext_113 (by exact Nat.le_of_ble_eq_true rfl) okp_i ?_
            refine t_aload0 dL_areNext_115 ?_
            refine t_aload0 dL_areNext_116 ?_
            refine t_iload5 dL_areNext_117 ?_
            refine pw_iconst (0) dL_areNext_119 (by decide) ?_
            refine g_callV2P (Q_sackAt (l := l) hlt hTS (m := a) (p := 0) (x := nI a) (a := 0) ha5 rfl rfl (by omega) (y := S.2.2 a 0 0) (if_pos hca)) rfl ft4 rfl mc_X4_sackAt ml_L_16 mi_X4_sackAt ms_X4_sackAt in_X4 (okc_X4_sackAt (by decide)) dL_areNext_120 kdT (cat_le (Nat.le_of_ble_eq_true rfl)) ?_
            refine pw_iconst (3) dL_areNext_123 (by decide) ?_
            refine g_callV2P (Q_sackOf (l := l) hlt hTS hW (m := a) (p := 0) (v := 3) (x := S.2.2 a 0 0) (a := 3) ha5 hca rfl rfl (by decide) (y := S.2.2 a 0 3) rfl) rfl ft4 rfl mc_X4_sackOf ml_L_23 mi_X4_sackOf ms_X4_sackOf in_X4 (okc_X4_sackOf (by decide)) dL_areNext_124 kdT (cat_le (Nat.le_of_ble_eq_true rfl)) ?_
            refine t_istore6 dL_areNext_127 (by exact Nat.le_of_ble_eq_true rfl) okp_i ?_
            refine t_aload0 dL_areNext_129 ?_
            refine t_aload0 dL_areNext_130 ?_
            refine t_iload4 dL_areNext_131 ?_
            refine pw_iconst (0) dL_areNext_133 (by decide) ?_
            refine g_callV2P (Q_sackAt (l := l) hlt hTS (m := e) (p := 0) (x := nI e) (a := 0) he rfl rfl (by omega) (y := S.2.2 e 0 0) (if_pos hce)) rfl ft4 rfl mc_X4_sackAt ml_L_16 mi_X4_sackAt ms_X4_sackAt in_X4 (okc_X4_sackAt (by decide)) dL_areNext_134 kdT (cat_le (Nat.le_of_ble_eq_true rfl)) ?_
            refine pw_iconst (3) dL_areNext_137 (by decide) ?_
            refine g_callV2P (Q_sackOf (l := l) hlt hTS hW (m := e) (p := 0) (v := 3) (x := S.2.2 e 0 0) (a := 3) he hce rfl rfl (by decide) (y := S.2.2 e 0 3) rfl) rfl ft4 rfl mc_X4_sackOf ml_L_23 mi_X4_sackOf ms_X4_sackOf in_X4 (okc_X4_sackOf (by decide)) dL_areNext_138 kdT (cat_le (Nat.le_of_ble_eq_true rfl)) ?_
            refine t_istore7 dL_areNext_141 (by exact Nat.le_of_ble_eq_true rfl) okp_i ?_
            refine t_iload6 dL_areNext_143 ?_
            refine t_iload7 dL_areNext_145 ?_
            refine pw_icmp_lt 202 dL_areNext_147 (by decide) (fun zz => absurd zz (fun z => i32_lt_irr (q ▸ z))) (fun _ => ?_)
            refine t_iload6 dL_areNext_150 ?_
            refine t_iload7 dL_areNext_152 ?_
            refine pw_icmp_ne 206 dL_areNext_154 (by decide) (fun zz => absurd q zz) (fun _ => ?_)
            refine t_aload0 dL_areNext_157 ?_
            refine t_iload5 dL_areNext_158 ?_
            refine pw_bipush (8) dL_areNext_160 (by decide) ?_
            refine g_callV2P (Q_mill (l := l) hlt hTS (m := a) (x := nI a) (a := 8) (v := 8) ha5 rfl rfl (by decide) (y := hd S a + 1000) rfl) rfl ft4 rfl mc_X4_mill ml_L_10 mi_X4_mill ms_X4_mill in_X4 (okc_X4_mill (by decide)) dL_areNext_162 kdT (cat_le (Nat.le_of_ble_eq_true rfl)) ?_
            refine t_aload0 dL_areNext_165 ?_
            refine t_iload4 dL_areNext_166 ?_
            refine pw_bipush (8) dL_areNext_168 (by decide) ?_
            refine g_callV2P (Q_mill (l := l) hlt hTS (m := e) (x := nI e) (a := 8) (v := 8) he rfl rfl (by decide) (y := hd S e + 1000) rfl) rfl ft4 rfl mc_X4_mill ml_L_10 mi_X4_mill ms_X4_mill in_X4 (okc_X4_mill (by decide)) dL_areNext_170 kdT (cat_le (Nat.le_of_ble_eq_true rfl)) ?_
            refine pw_icmp_gt 202 dL_areNext_173 (by decide) (fun _ => ?_) (fun zz => absurd q2 zz)
            refine pw_iconst (1) dL_areNext_202 (by decide) ?_
            refine pw_goto 207 dL_areNext_203 (by decide) ?_
            refine t_istore8 dL_areNext_207 (by exact Nat.le_of_ble_eq_true rfl) okp_i ?_
            refine t_iload8 dL_areNext_209 ?_
            refine pw_if_ne 216 dL_areNext_211 (by decide) (fun _ => ?_) (fun h => absurd (by decide) h)
            refine t_iload2 dL_areNext_216 ?_
            refine t_iload4 dL_areNext_217 ?_
            refine pw_if_ge 226 dL_areNext_219 (by decide) (fun _ => ?_) (fun zz => absurd (nI_pos' (n := e) (by omega)) zz)
            refine pw_iconst (1) dL_areNext_226 (by decide) ?_
            refine t_iload4 dL_areNext_227 ?_
            refine pw_ishl dL_areNext_229 ?_
            refine pw_ior dL_areNext_230 ?_
            refine t_istore2 dL_areNext_231 (by exact Nat.le_of_ble_eq_true rfl) okp_i ?_
            refine t_iinc3 (1) dL_areNext_232 (by decide) (by exact Nat.le_of_ble_eq_true rfl) okp_i ?_
            refine pw_goto 35 dL_areNext_235 (by decide) ?_
            rw [(bit_or x hx e he).1, nI_1]
            exact ih ((k + 1) + 1) (x ||| 2 ^ e) _ _ _ _ _ (by omega) (bit_or x hx e he).2 hv2
          · refine t_iload3 dL_areNext_35 ?_
            refine pw_bipush (7) dL_areNext_36 (by decide) ?_
            refine pw_icmp_ge 238 dL_areNext_38 (by decide) (fun zz => absurd zz (nI_ge (b := 7) (a := (k + 1)) hk7 (by decide))) (fun _ => ?_)
            refine t_aload0 dL_areNext_41 ?_
            refine t_iload3 dL_areNext_42 ?_
            refine g_callV1P (Q_next (l := l) hlt hTS (k := (k + 1)) (x := nI (k + 1)) (by omega) rfl) rfl ft4 rfl mc_X4_next ml_L_38 mi_X4_next ms_X4_next in_X4 (okc_X4_next (by decide)) dL_areNext_43 kdT (cat_le (Nat.le_of_ble_eq_true rfl)) ?_
            rw [show oI (rkS S (k + 1)) = nI e by rw [hr]; rfl]
            refine t_istore4 dL_areNext_46 (by exact Nat.le_of_ble_eq_true rfl) okp_i ?_
            refine t_iload4 dL_areNext_48 ?_
            refine pw_if_ge 57 dL_areNext_50 (by decide) (fun _ => ?_) (fun zz => absurd (nI_pos' (n := e) (by omega)) zz)
            refine pw_iconst (0) dL_areNext_57 (by decide) ?_
            refine t_iload3 dL_areNext_58 ?_
            refine t_iload1 dL_areNext_59 ?_
            refine pw_icmp_lt 67 dL_areNext_60 (by decide) (fun _ => ?_) (fun zz => absurd (nI_lt (rk_can hr) (by omega)) zz)
            refine pw_iconst (0) dL_areNext_67 (by decide) ?_
            refine pw_icmp_ne 95 dL_areNext_68 (by decide) (fun h => absurd h (by decide)) (fun _ => ?_)
            refine t_iload4 dL_areNext_71 ?_
            refine pw_if_lt 97 dL_areNext_73 (by decide) (fun zz => absurd zz (nI_pos (n := e) (by omega))) (fun _ => ?_)
            refine t_iload2 dL_areNext_76 ?_
            refine t_iload4 dL_areNext_77 ?_
            refine pw_ishr dL_areNext_79 ?_
            refine pw_iconst (1) dL_areNext_80 (by decide) ?_
            refine pw_iand dL_areNext_81 ?_
            refine pw_iconst (1) dL_areNext_82 (by decide) ?_
            refine pw_icmp_eq 95 dL_areNext_83 (by decide) (fun zz => absurd zz (fun z => hnv ((bit_in x hx e he).mp z))) (fun _ => ?_)
            refine t_aload0 dL_areNext_86 ?_
            refine t_iload4 dL_areNext_87 ?_
            refine g_callV1P (Q_why (l := l) hlt hTS (m := e) (x := nI e) he rfl) rfl ft4 rfl mc_X4_whyNot ml_L_29 mi_X4_whyNot ms_X4_whyNot in_X4 (okc_X4_whyNot (by decide)) dL_areNext_89 kdT (cat_le (Nat.le_of_ble_eq_true rfl)) ?_
            refine pw_if_eq 97 dL_areNext_92 (by decide) (fun _ => ?_) (fun zz => absurd hre zz)
            refine t_iload4 dL_areNext_97 ?_
            refine pw_if_lt 216 dL_areNext_99 (by decide) (fun zz => absurd zz (nI_pos (n := e) (by omega))) (fun _ => ?_)
            refine t_iload3 dL_areNext_102 ?_
            refine pw_if_le 216 dL_areNext_103 (by decide) (fun zz => absurd zz (nI_nle (n := k + 1) (by omega) (by omega))) (fun _ => ?_)
            refine t_aload0 dL_areNext_106 ?_
            refine t_iload3 dL_areNext_107 ?_
            refine pw_iconst (1) dL_areNext_108 (by decide) ?_
            refine pw_isub dL_areNext_109 ?_
            rw [nI_pred]
            refine g_callV1P (Q_next (l := l) hlt hTS (k := k) (x := nI k) (by omega) rfl) rfl ft4 rfl mc_X4_next ml_L_38 mi_X4_next ms_X4_next in_X4 (okc_X4_next (by decide)) dL_areNext_110 kdT (cat_le (Nat.le_of_ble_eq_true rfl)) ?_
            rw [show oI (rkS S k) = nI a by rw [ha]; rfl]
            refine t_istore5 dL_areNext_113 (by exact Nat.le_of_ble_eq_true rfl) okp_i ?_
            refine t_aload0 dL_areNext_115 ?_
            refine t_aload0 dL_areNext_116 ?_
            refine t_iload5 dL_areNext_117 ?_
            refine pw_iconst (0) dL_areNext_119 (by decide) ?_
            refine g_callV2P (Q_sackAt (l := l) hlt hTS (m := a) (p := 0) (x := nI a) (a := 0) ha5 rfl rfl (by omega) (y := S.2.2 a 0 0) (if_pos hca)) rfl ft4 rfl mc_X4_sackAt ml_L_16 mi_X4_sackAt ms_X4_sackAt in_X4 (okc_X4_sackAt (by decide)) dL_areNext_120 kdT (cat_le (Nat.le_of_ble_eq_true rfl)) ?_
            refine pw_iconst (3) dL_areNext_123 (by decide) ?_
            refine g_callV2P (Q_sackOf (l := l) hlt hTS hW (m := a) (p := 0) (v := 3) (x := S.2.2 a 0 0) (a := 3) ha5 hca rfl rfl (by decide) (y := S.2.2 a 0 3) rfl) rfl ft4 rfl mc_X4_sackOf ml_L_23 mi_X4_sackOf ms_X4_sackOf in_X4 (okc_X4_sackOf (by decide)) dL_areNext_124 kdT (cat_le (Nat.le_of_ble_eq_true rfl)) ?_
            refine t_istore6 dL_areNext_127 (by exact Nat.le_of_ble_eq_true rfl) okp_i ?_
            refine t_aload0 dL_areNext_129 ?_
            refine t_aload0 dL_areNext_130 ?_
            refine t_iload4 dL_areNext_131 ?_
            refine pw_iconst (0) dL_areNext_133 (by decide) ?_
            refine g_callV2P (Q_sackAt (l := l) hlt hTS (m := e) (p := 0) (x := nI e) (a := 0) he rfl rfl (by omega) (y := S.2.2 e 0 0) (if_pos hce)) rfl ft4 rfl mc_X4_sackAt ml_L_16 mi_X4_sackAt ms_X4_sackAt in_X4 (okc_X4_sackAt (by decide)) dL_areNext_134 kdT (cat_le (Nat.le_of_ble_eq_true rfl)) ?_
            refine pw_iconst (3) dL_areNext_137 (by decide) ?_
            refine g_callV2P (Q_sackOf (l := l) hlt hTS hW (m := e) (p := 0) (v := 3) (x := S.2.2 e 0 0) (a := 3) he hce rfl rfl (by decide) (y := S.2.2 e 0 3) rfl) rfl ft4 rfl mc_X4_sackOf ml_L_23 mi_X4_sackOf ms_X4_sackOf in_X4 (okc_X4_sackOf (by decide)) dL_areNext_138 kdT (cat_le (Nat.le_of_ble_eq_true rfl)) ?_
            refine t_istore7 dL_areNext_141 (by exact Nat.le_of_ble_eq_true rfl) okp_i ?_
            refine t_iload6 dL_areNext_143 ?_
            refine t_iload7 dL_areNext_145 ?_
            refine pw_icmp_lt 202 dL_areNext_147 (by decide) (fun zz => absurd zz (fun z => i32_lt_irr (q ▸ z))) (fun _ => ?_)
            refine t_iload6 dL_areNext_150 ?_
            refine t_iload7 dL_areNext_152 ?_
            refine pw_icmp_ne 206 dL_areNext_154 (by decide) (fun zz => absurd q zz) (fun _ => ?_)
            refine t_aload0 dL_areNext_157 ?_
            refine t_iload5 dL_areNext_158 ?_
            refine pw_bipush (8) dL_areNext_160 (by decide) ?_
            refine g_callV2P (Q_mill (l := l) hlt hTS (m := a) (x := nI a) (a := 8) (v := 8) ha5 rfl rfl (by decide) (y := hd S a + 1000) rfl) rfl ft4 rfl mc_X4_mill ml_L_10 mi_X4_mill ms_X4_mill in_X4 (okc_X4_mill (by decide)) dL_areNext_162 kdT (cat_le (Nat.le_of_ble_eq_true rfl)) ?_
            refine t_aload0 dL_areNext_165 ?_
            refine t_iload4 dL_areNext_166 ?_
            refine pw_bipush (8) dL_areNext_168 (by decide) ?_
            refine g_callV2P (Q_mill (l := l) hlt hTS (m := e) (x := nI e) (a := 8) (v := 8) he rfl rfl (by decide) (y := hd S e + 1000) rfl) rfl ft4 rfl mc_X4_mill ml_L_10 mi_X4_mill ms_X4_mill in_X4 (okc_X4_mill (by decide)) dL_areNext_170 kdT (cat_le (Nat.le_of_ble_eq_true rfl)) ?_
            refine pw_icmp_gt 202 dL_areNext_173 (by decide) (fun zz => absurd zz (fun z => i32_lt_irr (q2 ▸ z))) (fun _ => ?_)
            refine t_aload0 dL_areNext_176 ?_
            refine t_iload5 dL_areNext_177 ?_
            refine pw_bipush (8) dL_areNext_179 (by decide) ?_
            refine g_callV2P (Q_mill (l := l) hlt hTS (m := a) (x := nI a) (a := 8) (v := 8) ha5 rfl rfl (by decide) (y := hd S a + 1000) rfl) rfl ft4 rfl mc_X4_mill ml_L_10 mi_X4_mill ms_X4_mill in_X4 (okc_X4_mill (by decide)) dL_areNext_181 kdT (cat_le (Nat.le_of_ble_eq_true rfl)) ?_
            refine t_aload0 dL_areNext_184 ?_
            refine t_iload4 dL_areNext_185 ?_
            refine pw_bipush (8) dL_areNext_187 (by decide) ?_
            refine g_callV2P (Q_mill (l := l) hlt hTS (m := e) (x := nI e) (a := 8) (v := 8) he rfl rfl (by decide) (y := hd S e + 1000) rfl) rfl ft4 rfl mc_X4_mill ml_L_10 mi_X4_mill ms_X4_mill in_X4 (okc_X4_mill (by decide)) dL_areNext_189 kdT (cat_le (Nat.le_of_ble_eq_true rfl)) ?_
            refine pw_icmp_ne 206 dL_areNext_192 (by decide) (fun zz => absurd q2 zz) (fun _ => ?_)
            refine t_iload5 dL_areNext_195 ?_
            refine t_iload4 dL_areNext_197 ?_
            refine pw_icmp_ge 206 dL_areNext_199 (by decide) (fun zz => absurd zz (Int32.not_le.mpr q3)) (fun _ => ?_)
            refine pw_iconst (1) dL_areNext_202 (by decide) ?_
            refine pw_goto 207 dL_areNext_203 (by decide) ?_
            refine t_istore8 dL_areNext_207 (by exact Nat.le_of_ble_eq_true rfl) okp_i ?_
            refine t_iload8 dL_areNext_209 ?_
            refine pw_if_ne 216 dL_areNext_211 (by decide) (fun _ => ?_) (fun h => absurd (by decide) h)
            refine t_iload2 dL_areNext_216 ?_
            refine t_iload4 dL_areNext_217 ?_
            refine pw_if_ge 226 dL_areNext_219 (by decide) (fun _ => ?_) (fun zz => absurd (nI_pos' (n := e) (by omega)) zz)
            refine pw_iconst (1) dL_areNext_226 (by decide) ?_
            refine t_iload4 dL_areNext_227 ?_
            refine pw_ishl dL_areNext_229 ?_
            refine pw_ior dL_areNext_230 ?_
            refine t_istore2 dL_areNext_231 (by exact Nat.le_of_ble_eq_true rfl) okp_i ?_
            refine t_iinc3 (1) dL_areNext_232 (by decide) (by exact Nat.le_of_ble_eq_true rfl) okp_i ?_
            refine pw_goto 35 dL_areNext_235 (by decide) ?_
            rw [(bit_or x hx e he).1, nI_1]
            exact ih ((k + 1) + 1) (x ||| 2 ^ e) _ _ _ _ _ (by omega) (bit_or x hx e he).2 hv2
  have loop1 : ∀ (r m : Nat), m + r = 5 → PW l m_L_areNext 10 0 0 NN 6 [some (pv (some 0)), some (.int (nI (cnN S m))), some (.int 0), some (.int (nI m)), none, none, none, none, none] [] im rm lm (QP (.int 1) im rm lm) noX := by
    intro r
    induction r with
    | zero =>
      intro m hm5
      have e : m = 5 := by omega
      subst e
      refine t_iload3 dL_areNext_6 ?_
      refine pw_iconst (5) dL_areNext_7 (by decide) ?_
      refine pw_icmp_ge 33 dL_areNext_8 (by decide) (fun _ => ?_) (fun zz => absurd (show (5 : Int32) ≤ nI 5 by decide) zz)
      refine pw_iconst (0) dL_areNext_33 (by decide) ?_
      refine t_istore3 dL_areNext_34 (by exact Nat.le_of_ble_eq_true rfl) okp_i ?_
      exact loop2 7 0 0 _ _ _ _ _ rfl (by decide) fun m hm => ⟨fun z => (by rw [Nat.zero_testBit] at z; cases z), fun ⟨j, h1, _⟩ => absurd h1 (Nat.not_lt_zero _)⟩
    | succ r ih =>
      intro m hr5
      have hm : m < 5 := by omega
      by_cases h0 : rsF S m = 0
      · have e : nI (cnN S m) + 1 = nI (cnN S (m + 1)) := by rw [show cnN S (m + 1) = cnN S m + 1 from congrArg (cnN S m + ·) (if_pos h0)]; exact nI_add _ 1
        refine t_iload3 dL_areNext_6 ?_
        refine pw_iconst (5) dL_areNext_7 (by decide) ?_
        refine pw_icmp_ge 33 dL_areNext_8 (by decide) (fun zz => absurd zz (nI_ge (b := 5) (a := m) hm (by decide))) (fun _ => ?_)
        refine t_iload1 dL_areNext_11 ?_
        refine t_aload0 dL_areNext_12 ?_
        refine t_iload3 dL_areNext_13 ?_
        refine g_callV1P (Q_why (l := l) hlt hTS (m := m) (x := nI m) hm rfl) rfl ft4 rfl mc_X4_whyNot ml_L_29 mi_X4_whyNot ms_X4_whyNot in_X4 (okc_X4_whyNot (by decide)) dL_areNext_14 kdT (cat_le (Nat.le_of_ble_eq_true rfl)) ?_
        refine pw_if_ne 24 dL_areNext_17 (by decide) (fun zz => absurd h0 zz) (fun _ => ?_)
        refine pw_iconst (1) dL_areNext_20 (by decide) ?_
        refine pw_goto 25 dL_areNext_21 (by decide) ?_
        refine pw_iadd dL_areNext_25 ?_
        refine t_istore1 dL_areNext_26 (by exact Nat.le_of_ble_eq_true rfl) okp_r ?_
        refine t_iinc3 (1) dL_areNext_27 (by decide) (by exact Nat.le_of_ble_eq_true rfl) okp_i ?_
        refine pw_goto 6 dL_areNext_30 (by decide) ?_
        rw [e, nI_1]
        exact ih (m + 1) (by omega)
      · have e : nI (cnN S m) + 0 = nI (cnN S (m + 1)) := by rw [show cnN S (m + 1) = cnN S m + 0 from congrArg (cnN S m + ·) (if_neg h0)]; exact nI_add _ 0
        refine t_iload3 dL_areNext_6 ?_
        refine pw_iconst (5) dL_areNext_7 (by decide) ?_
        refine pw_icmp_ge 33 dL_areNext_8 (by decide) (fun zz => absurd zz (nI_ge (b := 5) (a := m) hm (by decide))) (fun _ => ?_)
        refine t_iload1 dL_areNext_11 ?_
        refine t_aload0 dL_areNext_12 ?_
        refine t_iload3 dL_areNext_13 ?_
        refine g_callV1P (Q_why (l := l) hlt hTS (m := m) (x := nI m) hm rfl) rfl ft4 rfl mc_X4_whyNot ml_L_29 mi_X4_whyNot ms_X4_whyNot in_X4 (okc_X4_whyNot (by decide)) dL_areNext_14 kdT (cat_le (Nat.le_of_ble_eq_true rfl)) ?_
        refine pw_if_ne 24 dL_areNext_17 (by decide) (fun _ => ?_) (fun zz => absurd h0 zz)
        refine pw_iconst (0) dL_areNext_24 (by decide) ?_
        refine pw_iadd dL_areNext_25 ?_
        refine t_istore1 dL_areNext_26 (by exact Nat.le_of_ble_eq_true rfl) okp_r ?_
        refine t_iinc3 (1) dL_areNext_27 (by decide) (by exact Nat.le_of_ble_eq_true rfl) okp_i ?_
        refine pw_goto 6 dL_areNext_30 (by decide) ?_
        rw [e, nI_1]
        exact ih (m + 1) (by omega)
  refine pw_iconst (0) dL_areNext_0 (by decide) ?_
  refine t_istore1 dL_areNext_1 (by exact Nat.le_of_ble_eq_true rfl) okp_r ?_
  refine pw_iconst (0) dL_areNext_2 (by decide) ?_
  refine t_istore2 dL_areNext_3 (by exact Nat.le_of_ble_eq_true rfl) okp_i ?_
  refine pw_iconst (0) dL_areNext_4 (by decide) ?_
  refine t_istore3 dL_areNext_5 (by exact Nat.le_of_ble_eq_true rfl) okp_i ?_
  exact loop1 5 0 rfl
set_option maxHeartbeats 4000000 in
set_option maxRecDepth 100000 in
theorem H_holds {l : Launch} (hlt : l.stackTraces = false) {im : TI} {rm : TP} {lm : TL} {Z : TI × TP} {S : CS} {n : Nat} {T : Nat → CS} {sn : Option CS} {bl : Nat} {B : Nat → Int32} (hTS : TS Z S n T sn bl B im rm) (hW : WF S) (hB : BL S) (hg0 : 0 ≤ S.1 0) : Con l m_L_holds 11 0 0 NN [pv (some 0)] im rm lm (QP (.int 1) im rm lm) noX := by
  refine Con.ofN (k := 6) (L0 := [some (pv (some 0)), none, none, none, none, none, none]) hlt (by decide +kernel) rfl rfl (by rw [en1 pv_cat, en0]; exact Nat.le_of_ble_eq_true rfl) (by rw [en1 pv_cat, en0]; rfl) ?_
  obtain ⟨b1, b2, b3, b4⟩ := id hB
  rw [Int32.add_zero] at b1
  have hla : ¬ S.1 6 < S.1 7 := by
    obtain ⟨g, la, e1, e2, h1, h2⟩ := hW.g
    rw [e1, e2]
    exact nI_nlt h1 (by omega)
  have tail : PW l m_L_holds 11 0 0 NN 189 [some (pv (some 0)), some (.int (sF S 7)), some (.int (sF S 1)), some (.int (sF S 9)), some (.int (sF S 8)), some (.double (shD S)), none] [] im rm lm (QP (.int 1) im rm lm) noX := by
    refine t_iload1 dL_holds_189 ?_
    refine t_aload0 dL_holds_190 ?_
    refine pw_iconst (2) dL_holds_191 (by decide) ?_
    refine g_callV1P (Q_count (l := l) hlt hTS (a := 2) (v := 2) rfl (by decide) (y := S.1 2) rfl) rfl ft4 rfl mc_X4_count ml_L_19 mi_X4_count ms_X4_count in_X4 (okc_X4_count (by decide)) dL_holds_192 kdT (cat_le (Nat.le_of_ble_eq_true rfl)) ?_
    refine pw_iadd dL_holds_195 ?_
    refine t_aload0 dL_holds_196 ?_
    refine pw_iconst (0) dL_holds_197 (by decide) ?_
    refine g_callV1P (Q_count (l := l) hlt hTS (a := 0) (v := 0) rfl (by decide) (y := S.1 0) rfl) rfl ft4 rfl mc_X4_count ml_L_19 mi_X4_count ms_X4_count in_X4 (okc_X4_count (by decide)) dL_holds_198 kdT (cat_le (Nat.le_of_ble_eq_true rfl)) ?_
    refine pw_icmp_ne 318 dL_holds_201 (by decide) (fun zz => absurd b1 zz) (fun _ => ?_)
    refine t_aload0 dL_holds_204 ?_
    refine pw_iconst (3) dL_holds_205 (by decide) ?_
    refine g_callV1P (Q_count (l := l) hlt hTS (a := 3) (v := 3) rfl (by decide) (y := S.1 3) rfl) rfl ft4 rfl mc_X4_count ml_L_19 mi_X4_count ms_X4_count in_X4 (okc_X4_count (by decide)) dL_holds_206 kdT (cat_le (Nat.le_of_ble_eq_true rfl)) ?_
    refine t_aload0 dL_holds_209 ?_
    refine pw_iconst (4) dL_holds_210 (by decide) ?_
    refine g_callV1P (Q_count (l := l) hlt hTS (a := 4) (v := 4) rfl (by decide) (y := S.1 4) rfl) rfl ft4 rfl mc_X4_count ml_L_19 mi_X4_count ms_X4_count in_X4 (okc_X4_count (by decide)) dL_holds_211 kdT (cat_le (Nat.le_of_ble_eq_true rfl)) ?_
    refine t_aload0 dL_holds_214 ?_
    refine pw_iconst (5) dL_holds_215 (by decide) ?_
    refine g_callV1P (Q_count (l := l) hlt hTS (a := 5) (v := 5) rfl (by decide) (y := sF S 1) rfl) rfl ft4 rfl mc_X4_count ml_L_19 mi_X4_count ms_X4_count in_X4 (okc_X4_count (by decide)) dL_holds_216 kdT (cat_le (Nat.le_of_ble_eq_true rfl)) ?_
    refine pw_iadd dL_holds_219 ?_
    refine pw_icmp_ne 318 dL_holds_220 (by decide) (fun zz => absurd b2 zz) (fun _ => ?_)
    refine t_aload0 dL_holds_223 ?_
    refine pw_iconst (5) dL_holds_224 (by decide) ?_
    refine g_callV1P (Q_count (l := l) hlt hTS (a := 5) (v := 5) rfl (by decide) (y := sF S 1) rfl) rfl ft4 rfl mc_X4_count ml_L_19 mi_X4_count ms_X4_count in_X4 (okc_X4_count (by decide)) dL_holds_225 kdT (cat_le (Nat.le_of_ble_eq_true rfl)) ?_
    refine t_iload2 dL_holds_228 ?_
    refine pw_icmp_ne 318 dL_holds_229 (by decide) (fun zz => absurd rfl zz) (fun _ => ?_)
    refine t_aload0 dL_holds_232 ?_
    refine pw_bipush (7) dL_holds_233 (by decide) ?_
    refine g_callV1P (Q_count (l := l) hlt hTS (a := 7) (v := 7) rfl (by decide) (y := sF S 9) rfl) rfl ft4 rfl mc_X4_count ml_L_19 mi_X4_count ms_X4_count in_X4 (okc_X4_count (by decide)) dL_holds_235 kdT (cat_le (Nat.le_of_ble_eq_true rfl)) ?_
    refine t_iload3 dL_holds_238 ?_
    refine pw_icmp_ne 318 dL_holds_239 (by decide) (fun zz => absurd rfl zz) (fun _ => ?_)
    refine t_aload0 dL_holds_242 ?_
    refine pw_bipush (8) dL_holds_243 (by decide) ?_
    refine g_callV1P (Q_count (l := l) hlt hTS (a := 8) (v := 8) rfl (by decide) (y := S.1 6) rfl) rfl ft4 rfl mc_X4_count ml_L_19 mi_X4_count ms_X4_count in_X4 (okc_X4_count (by decide)) dL_holds_245 kdT (cat_le (Nat.le_of_ble_eq_true rfl)) ?_
    refine t_iload4 dL_holds_248 ?_
    refine pw_icmp_ne 318 dL_holds_250 (by decide) (fun zz => absurd b3 zz) (fun _ => ?_)
    refine t_aload0 dL_holds_253 ?_
    refine pw_bipush (6) dL_holds_254 (by decide) ?_
    refine g_callV1P (Q_count (l := l) hlt hTS (a := 6) (v := 6) rfl (by decide) (y := S.1 5) rfl) rfl ft4 rfl mc_X4_count ml_L_19 mi_X4_count ms_X4_count in_X4 (okc_X4_count (by decide)) dL_holds_256 kdT (cat_le (Nat.le_of_ble_eq_true rfl)) ?_
    refine t_aload0 dL_holds_259 ?_
    refine pw_bipush (7) dL_holds_260 (by decide) ?_
    refine g_callV1P (Q_count (l := l) hlt hTS (a := 7) (v := 7) rfl (by decide) (y := sF S 9) rfl) rfl ft4 rfl mc_X4_count ml_L_19 mi_X4_count ms_X4_count in_X4 (okc_X4_count (by decide)) dL_holds_262 kdT (cat_le (Nat.le_of_ble_eq_true rfl)) ?_
    refine t_aload0 dL_holds_265 ?_
    refine pw_bipush (8) dL_holds_266 (by decide) ?_
    refine g_callV1P (Q_count (l := l) hlt hTS (a := 8) (v := 8) rfl (by decide) (y := S.1 6) rfl) rfl ft4 rfl mc_X4_count ml_L_19 mi_X4_count ms_X4_count in_X4 (okc_X4_count (by decide)) dL_holds_268 kdT (cat_le (Nat.le_of_ble_eq_true rfl)) ?_
    refine pw_iadd dL_holds_271 ?_
    refine t_aload0 dL_holds_272 ?_
    refine pw_bipush (10) dL_holds_273 (by decide) ?_
    refine g_callV1P (Q_count (l := l) hlt hTS (a := 10) (v := 10) rfl (by decide) (y := S.1 8) rfl) rfl ft4 rfl mc_X4_count ml_L_19 mi_X4_count ms_X4_count in_X4 (okc_X4_count (by decide)) dL_holds_275 kdT (cat_le (Nat.le_of_ble_eq_true rfl)) ?_
    refine pw_iadd dL_holds_278 ?_
    refine pw_icmp_ne 318 dL_holds_279 (by decide) (fun zz => absurd b4 zz) (fun _ => ?_)
    refine t_aload0 dL_holds_282 ?_
    refine pw_bipush (9) dL_holds_283 (by decide) ?_
    refine g_callV1P (Q_count (l := l) hlt hTS (a := 9) (v := 9) rfl (by decide) (y := S.1 7) rfl) rfl ft4 rfl mc_X4_count ml_L_19 mi_X4_count ms_X4_count in_X4 (okc_X4_count (by decide)) dL_holds_285 kdT (cat_le (Nat.le_of_ble_eq_true rfl)) ?_
    refine t_aload0 dL_holds_288 ?_
    refine pw_bipush (8) dL_holds_289 (by decide) ?_
    refine g_callV1P (Q_count (l := l) hlt hTS (a := 8) (v := 8) rfl (by decide) (y := S.1 6) rfl) rfl ft4 rfl mc_X4_count ml_L_19 mi_X4_count ms_X4_count in_X4 (okc_X4_count (by decide)) dL_holds_291 kdT (cat_le (Nat.le_of_ble_eq_true rfl)) ?_
    refine pw_icmp_gt 318 dL_holds_294 (by decide) (fun zz => absurd zz hla) (fun _ => ?_)
    refine t_aload0 dL_holds_297 ?_
    refine g_callV0P (C_inTime (l := l) hlt hTS hW) rfl ft4 rfl mc_X4_inTime ml_L_48 mi_X4_inTime ms_X4_inTime in_X4 (okc_X4_inTime (by decide)) dL_holds_298 kdT (cat_le (Nat.le_of_ble_eq_true rfl)) ?_
    refine t_dload5 dL_holds_301 ?_
    refine pw_dcmp dL_holds_303 ?_
    refine pw_if_ne 318 dL_holds_304 (by decide) (fun zz => absurd (by rw [(shD_ok hW).self]; rfl) zz) (fun _ => ?_)
    refine t_aload0 dL_holds_307 ?_
    refine g_callS1P (H_areNext (l := l) hlt hTS hW) rfl mc_L_areNext ml_L_52 mi_L_areNext in_L (okc_L_areNext (by decide)) dL_holds_308 (Nat.zero_le _) ?_
    refine pw_if_eq 318 dL_holds_311 (by decide) (fun h => absurd h (by decide)) (fun _ => ?_)
    refine pw_iconst (1) dL_holds_314 (by decide) ?_
    refine pw_goto 319 dL_holds_315 (by decide) ?_
    refine pw_zret dL_holds_319 rfl ?_ ?_
    · first | rfl | exact bI_n
    · exact ⟨rfl, rfl, rfl, rfl, rfl⟩
  have loop2 : ∀ (r h : Nat), h + r = 12 → PW l m_L_holds 11 0 0 NN 83 [some (pv (some 0)), some (.int (sF S 7)), some (.int (sF S 1)), some (.int (sF S 9)), some (.int (sF S 8)), some (.int (nI h)), none] [] im rm lm (QP (.int 1) im rm lm) noX := by
    intro r
    induction r with
    | zero =>
      intro h hh
      by_cases h6 : S.1 6 = 0
      · have e : shD S = FP.dconst1 := if_pos h6
        refine t_iload5 dL_holds_83 ?_
        refine pw_bipush (12) dL_holds_85 (by decide) ?_
        refine pw_icmp_ge 152 dL_holds_87 (by decide) (fun _ => ?_) (fun zz => absurd (show (12 : Int32) ≤ nI h from nI_le (a := 12) (by omega) (by omega)) zz)
        refine t_aload0 dL_holds_152 ?_
        refine pw_bipush (8) dL_holds_153 (by decide) ?_
        refine g_callV1P (Q_count (l := l) hlt hTS (a := 8) (v := 8) rfl (by decide) (y := S.1 6) rfl) rfl ft4 rfl mc_X4_count ml_L_19 mi_X4_count ms_X4_count in_X4 (okc_X4_count (by decide)) dL_holds_155 kdT (cat_le (Nat.le_of_ble_eq_true rfl)) ?_
        refine pw_if_ne 165 dL_holds_158 (by decide) (fun zz => absurd h6 zz) (fun _ => ?_)
        refine pw_dconst1 dL_holds_161 ?_
        refine pw_goto 187 dL_holds_162 (by decide) ?_
        refine t_dstore5 dL_holds_187 (by exact Nat.le_of_ble_eq_true rfl) okp_i ?_
        rw [← e]
        exact tail
      · have e : shD S = FP.ddiv (FP.i2d (S.1 6 - S.1 7)) (FP.i2d (S.1 6)) := if_neg h6
        refine t_iload5 dL_holds_83 ?_
        refine pw_bipush (12) dL_holds_85 (by decide) ?_
        refine pw_icmp_ge 152 dL_holds_87 (by decide) (fun _ => ?_) (fun zz => absurd (show (12 : Int32) ≤ nI h from nI_le (a := 12) (by omega) (by omega)) zz)
        refine t_aload0 dL_holds_152 ?_
        refine pw_bipush (8) dL_holds_153 (by decide) ?_
        refine g_callV1P (Q_count (l := l) hlt hTS (a := 8) (v := 8) rfl (by decide) (y := S.1 6) rfl) rfl ft4 rfl mc_X4_count ml_L_19 mi_X4_count ms_X4_count in_X4 (okc_X4_count (by decide)) dL_holds_155 kdT (cat_le (Nat.le_of_ble_eq_true rfl)) ?_
        refine pw_if_ne 165 dL_holds_158 (by decide) (fun _ => ?_) (fun zz => absurd h6 zz)
        refine t_aload0 dL_holds_165 ?_
        refine pw_bipush (8) dL_holds_166 (by decide) ?_
        refine g_callV1P (Q_count (l := l) hlt hTS (a := 8) (v := 8) rfl (by decide) (y := S.1 6) rfl) rfl ft4 rfl mc_X4_count ml_L_19 mi_X4_count ms_X4_count in_X4 (okc_X4_count (by decide)) dL_holds_168 kdT (cat_le (Nat.le_of_ble_eq_true rfl)) ?_
        refine t_aload0 dL_holds_171 ?_
        refine pw_bipush (9) dL_holds_172 (by decide) ?_
        refine g_callV1P (Q_count (l := l) hlt hTS (a := 9) (v := 9) rfl (by decide) (y := S.1 7) rfl) rfl ft4 rfl mc_X4_count ml_L_19 mi_X4_count ms_X4_count in_X4 (okc_X4_count (by decide)) dL_holds_174 kdT (cat_le (Nat.le_of_ble_eq_true rfl)) ?_
        refine pw_isub dL_holds_177 ?_
        refine pw_i2d dL_holds_178 ?_
        refine t_aload0 dL_holds_179 ?_
        refine pw_bipush (8) dL_holds_180 (by decide) ?_
        refine g_callV1P (Q_count (l := l) hlt hTS (a := 8) (v := 8) rfl (by decide) (y := S.1 6) rfl) rfl ft4 rfl mc_X4_count ml_L_19 mi_X4_count ms_X4_count in_X4 (okc_X4_count (by decide)) dL_holds_182 kdT (cat_le (Nat.le_of_ble_eq_true rfl)) ?_
        refine pw_i2d dL_holds_185 ?_
        refine pw_ddiv dL_holds_186 (by rw [← e]; exact (shD_ok hW).n64) ?_
        refine t_dstore5 dL_holds_187 (by exact Nat.le_of_ble_eq_true rfl) okp_i ?_
        rw [← e]
        exact tail
    | succ r ih =>
      intro h hh
      have h12 : h < 12 := by omega
      have e12 : (0 : Int32) ≤ nI h + 12 := by rw [show nI h + 12 = nI (h + 12) from nI_add h 12]; exact nI_pos' (by omega)
      by_cases h6 : nI h < 6
      · refine t_iload5 dL_holds_83 ?_
        refine pw_bipush (12) dL_holds_85 (by decide) ?_
        refine pw_icmp_ge 152 dL_holds_87 (by decide) (fun zz => absurd zz (nI_ge (b := 12) (a := h) h12 (by decide))) (fun _ => ?_)
        refine t_aload0 dL_holds_90 ?_
        refine t_iload5 dL_holds_91 ?_
        refine g_callV1P (Q_tide (l := l) hlt hTS (x := nI h) (nI_pos' (by omega))) rfl ft4 rfl mc_X4_tide ml_L_26 mi_X4_tide ms_X4_tide in_X4 (okc_X4_tide (by decide)) dL_holds_93 kdT (cat_le (Nat.le_of_ble_eq_true rfl)) ?_
        refine t_aload0 dL_holds_96 ?_
        refine t_iload5 dL_holds_97 ?_
        refine pw_bipush (12) dL_holds_99 (by decide) ?_
        refine pw_iadd dL_holds_101 ?_
        refine g_callV1P (Q_tide (l := l) hlt hTS (x := nI h + 12) e12) rfl ft4 rfl mc_X4_tide ml_L_26 mi_X4_tide ms_X4_tide in_X4 (okc_X4_tide (by decide)) dL_holds_102 kdT (cat_le (Nat.le_of_ble_eq_true rfl)) ?_
        refine pw_icmp_ne 144 dL_holds_105 (by decide) (fun zz => absurd (td_per h12) zz) (fun _ => ?_)
        refine t_aload0 dL_holds_108 ?_
        refine t_iload5 dL_holds_109 ?_
        refine g_callV1P (Q_tide (l := l) hlt hTS (x := nI h) (nI_pos' (by omega))) rfl ft4 rfl mc_X4_tide ml_L_26 mi_X4_tide ms_X4_tide in_X4 (okc_X4_tide (by decide)) dL_holds_111 kdT (cat_le (Nat.le_of_ble_eq_true rfl)) ?_
        refine t_aload0 dL_holds_114 ?_
        refine pw_bipush (11) dL_holds_115 (by decide) ?_
        refine g_callV1P (Q_count (l := l) hlt hTS (a := 11) (v := 11) rfl (by decide) (y := S.1 9) rfl) rfl ft4 rfl mc_X4_count ml_L_19 mi_X4_count ms_X4_count in_X4 (okc_X4_count (by decide)) dL_holds_117 kdT (cat_le (Nat.le_of_ble_eq_true rfl)) ?_
        refine t_iload5 dL_holds_120 ?_
        refine pw_bipush (6) dL_holds_122 (by decide) ?_
        refine pw_icmp_ge 135 dL_holds_124 (by decide) (fun zz => absurd zz (Int32.not_le.mpr h6)) (fun _ => ?_)
        refine pw_bipush (6) dL_holds_127 (by decide) ?_
        refine t_iload5 dL_holds_129 ?_
        refine pw_isub dL_holds_131 ?_
        refine pw_goto 140 dL_holds_132 (by decide) ?_
        refine pw_imul dL_holds_140 ?_
        refine pw_icmp_eq 146 dL_holds_141 (by decide) (fun _ => ?_) (fun zz => absurd ((td_val h12).trans (by rw [if_pos h6])) zz)
        refine t_iinc5 (1) dL_holds_146 (by decide) (by exact Nat.le_of_ble_eq_true rfl) okp_i ?_
        refine pw_goto 83 dL_holds_149 (by decide) ?_
        rw [nI_1]
        exact ih (h + 1) (by omega)
      · refine t_iload5 dL_holds_83 ?_
        refine pw_bipush (12) dL_holds_85 (by decide) ?_
        refine pw_icmp_ge 152 dL_holds_87 (by decide) (fun zz => absurd zz (nI_ge (b := 12) (a := h) h12 (by decide))) (fun _ => ?_)
        refine t_aload0 dL_holds_90 ?_
        refine t_iload5 dL_holds_91 ?_
        refine g_callV1P (Q_tide (l := l) hlt hTS (x := nI h) (nI_pos' (by omega))) rfl ft4 rfl mc_X4_tide ml_L_26 mi_X4_tide ms_X4_tide in_X4 (okc_X4_tide (by decide)) dL_holds_93 kdT (cat_le (Nat.le_of_ble_eq_true rfl)) ?_
        refine t_aload0 dL_holds_96 ?_
        refine t_iload5 dL_holds_97 ?_
        refine pw_bipush (12) dL_holds_99 (by decide) ?_
        refine pw_iadd dL_holds_101 ?_
        refine g_callV1P (Q_tide (l := l) hlt hTS (x := nI h + 12) e12) rfl ft4 rfl mc_X4_tide ml_L_26 mi_X4_tide ms_X4_tide in_X4 (okc_X4_tide (by decide)) dL_holds_102 kdT (cat_le (Nat.le_of_ble_eq_true rfl)) ?_
        refine pw_icmp_ne 144 dL_holds_105 (by decide) (fun zz => absurd (td_per h12) zz) (fun _ => ?_)
        refine t_aload0 dL_holds_108 ?_
        refine t_iload5 dL_holds_109 ?_
        refine g_callV1P (Q_tide (l := l) hlt hTS (x := nI h) (nI_pos' (by omega))) rfl ft4 rfl mc_X4_tide ml_L_26 mi_X4_tide ms_X4_tide in_X4 (okc_X4_tide (by decide)) dL_holds_111 kdT (cat_le (Nat.le_of_ble_eq_true rfl)) ?_
        refine t_aload0 dL_holds_114 ?_
        refine pw_bipush (11) dL_holds_115 (by decide) ?_
        refine g_callV1P (Q_count (l := l) hlt hTS (a := 11) (v := 11) rfl (by decide) (y := S.1 9) rfl) rfl ft4 rfl mc_X4_count ml_L_19 mi_X4_count ms_X4_count in_X4 (okc_X4_count (by decide)) dL_holds_117 kdT (cat_le (Nat.le_of_ble_eq_true rfl)) ?_
        refine t_iload5 dL_holds_120 ?_
        refine pw_bipush (6) dL_holds_122 (by decide) ?_
        refine pw_icmp_ge 135 dL_holds_124 (by decide) (fun _ => ?_) (fun zz => absurd (Int32.not_lt.mp h6) zz)
        refine t_iload5 dL_holds_135 ?_
        refine pw_bipush (6) dL_holds_137 (by decide) ?_
        refine pw_isub dL_holds_139 ?_
        refine pw_imul dL_holds_140 ?_
        refine pw_icmp_eq 146 dL_holds_141 (by decide) (fun _ => ?_) (fun zz => absurd ((td_val h12).trans (by rw [if_neg h6])) zz)
        refine t_iinc5 (1) dL_holds_146 (by decide) (by exact Nat.le_of_ble_eq_true rfl) okp_i ?_
        refine pw_goto 83 dL_holds_149 (by decide) ?_
        rw [nI_1]
        exact ih (h + 1) (by omega)
  have loop1 : ∀ (r m : Nat) (t w s g : Int32), m + r = 5 → smN (fun j => S.2.1 j 7) r m t = sF S 7 → smN (fun j => S.2.1 j 1) r m w = sF S 1 → smN (fun j => S.2.1 j 9) r m s = sF S 9 → smN (fun j => S.2.1 j 8) r m g = sF S 8 → PW l m_L_holds 11 0 0 NN 12 [some (pv (some 0)), some (.int t), some (.int w), some (.int s), some (.int g), some (.int (nI m)), none] [] im rm lm (QP (.int 1) im rm lm) noX := by
    intro r
    induction r with
    | zero =>
      intro m t w s g hm5 ht hw hs hg
      have ht : t = sF S 7 := ht
      have hw : w = sF S 1 := hw
      have hs : s = sF S 9 := hs
      have hg : g = sF S 8 := hg
      rw [ht, hw, hs, hg]
      refine t_iload5 dL_holds_12 ?_
      refine pw_iconst (5) dL_holds_14 (by decide) ?_
      refine pw_icmp_ge 80 dL_holds_15 (by decide) (fun _ => ?_) (fun zz => absurd (show (5 : Int32) ≤ nI m from nI_le (a := 5) (by omega) (by omega)) zz)
      refine pw_iconst (0) dL_holds_80 (by decide) ?_
      refine t_istore5 dL_holds_81 (by exact Nat.le_of_ble_eq_true rfl) okp_i ?_
      exact loop2 12 0 rfl
    | succ r ih =>
      intro m t w s g hm5 ht hw hs hg
      have hm : m < 5 := by omega
      refine t_iload5 dL_holds_12 ?_
      refine pw_iconst (5) dL_holds_14 (by decide) ?_
      refine pw_icmp_ge 80 dL_holds_15 (by decide) (fun zz => absurd zz (nI_ge (b := 5) (a := m) hm (by decide))) (fun _ => ?_)
      refine t_iload1 dL_holds_18 ?_
      refine t_aload0 dL_holds_19 ?_
      refine t_iload5 dL_holds_20 ?_
      refine pw_bipush (9) dL_holds_22 (by decide) ?_
      refine g_callV2P (Q_mill (l := l) hlt hTS (m := m) (x := nI m) (a := 9) (v := 9) hm rfl rfl (by decide) (y := S.2.1 m 7) rfl) rfl ft4 rfl mc_X4_mill ml_L_10 mi_X4_mill ms_X4_mill in_X4 (okc_X4_mill (by decide)) dL_holds_24 kdT (cat_le (Nat.le_of_ble_eq_true rfl)) ?_
      refine pw_iadd dL_holds_27 ?_
      refine t_istore1 dL_holds_28 (by exact Nat.le_of_ble_eq_true rfl) okp_r ?_
      refine t_iload2 dL_holds_29 ?_
      refine t_aload0 dL_holds_30 ?_
      refine t_iload5 dL_holds_31 ?_
      refine pw_iconst (1) dL_holds_33 (by decide) ?_
      refine g_callV2P (Q_mill (l := l) hlt hTS (m := m) (x := nI m) (a := 1) (v := 1) hm rfl rfl (by decide) (y := S.2.1 m 1) rfl) rfl ft4 rfl mc_X4_mill ml_L_10 mi_X4_mill ms_X4_mill in_X4 (okc_X4_mill (by decide)) dL_holds_34 kdT (cat_le (Nat.le_of_ble_eq_true rfl)) ?_
      refine pw_iadd dL_holds_37 ?_
      refine t_istore2 dL_holds_38 (by exact Nat.le_of_ble_eq_true rfl) okp_i ?_
      refine t_iload3 dL_holds_39 ?_
      refine t_aload0 dL_holds_40 ?_
      refine t_iload5 dL_holds_41 ?_
      refine pw_bipush (7) dL_holds_43 (by decide) ?_
      refine g_callV2P (Q_mill (l := l) hlt hTS (m := m) (x := nI m) (a := 7) (v := 7) hm rfl rfl (by decide) (y := S.2.1 m 9) rfl) rfl ft4 rfl mc_X4_mill ml_L_10 mi_X4_mill ms_X4_mill in_X4 (okc_X4_mill (by decide)) dL_holds_45 kdT (cat_le (Nat.le_of_ble_eq_true rfl)) ?_
      refine pw_iadd dL_holds_48 ?_
      refine t_istore3 dL_holds_49 (by exact Nat.le_of_ble_eq_true rfl) okp_i ?_
      refine t_iload4 dL_holds_50 ?_
      refine t_aload0 dL_holds_52 ?_
      refine t_iload5 dL_holds_53 ?_
      refine pw_bipush (10) dL_holds_55 (by decide) ?_
      refine g_callV2P (Q_mill (l := l) hlt hTS (m := m) (x := nI m) (a := 10) (v := 10) hm rfl rfl (by decide) (y := S.2.1 m 8) rfl) rfl ft4 rfl mc_X4_mill ml_L_10 mi_X4_mill ms_X4_mill in_X4 (okc_X4_mill (by decide)) dL_holds_57 kdT (cat_le (Nat.le_of_ble_eq_true rfl)) ?_
      refine pw_iadd dL_holds_60 ?_
      refine t_istore4 dL_holds_61 (by exact Nat.le_of_ble_eq_true rfl) okp_i ?_
      refine t_aload0 dL_holds_63 ?_
      refine t_iload5 dL_holds_64 ?_
      refine g_callS2P (H_isMill (l := l) hlt hTS hW hg0 hm) rfl mc_L_isMill ml_L_45 mi_L_isMill in_L (okc_L_isMill (by decide)) dL_holds_66 (Nat.zero_le _) ?_
      refine pw_if_ne 74 dL_holds_69 (by decide) (fun _ => ?_) (fun h => absurd (by decide) h)
      refine t_iinc5 (1) dL_holds_74 (by decide) (by exact Nat.le_of_ble_eq_true rfl) okp_i ?_
      refine pw_goto 12 dL_holds_77 (by decide) ?_
      rw [nI_1]
      exact ih (m + 1) _ _ _ _ (by omega) ht hw hs hg
  refine pw_iconst (0) dL_holds_0 (by decide) ?_
  refine t_istore1 dL_holds_1 (by exact Nat.le_of_ble_eq_true rfl) okp_r ?_
  refine pw_iconst (0) dL_holds_2 (by decide) ?_
  refine t_istore2 dL_holds_3 (by exact Nat.le_of_ble_eq_true rfl) okp_i ?_
  refine pw_iconst (0) dL_holds_4 (by decide) ?_
  refine t_istore3 dL_holds_5 (by exact Nat.le_of_ble_eq_true rfl) okp_i ?_
  refine pw_iconst (0) dL_holds_6 (by decide) ?_
  refine t_istore4 dL_holds_7 (by exact Nat.le_of_ble_eq_true rfl) okp_i ?_
  refine pw_iconst (0) dL_holds_9 (by decide) ?_
  refine t_istore5 dL_holds_10 (by exact Nat.le_of_ble_eq_true rfl) okp_i ?_
  exact loop1 5 0 0 0 0 0 rfl rfl rfl rfl rfl

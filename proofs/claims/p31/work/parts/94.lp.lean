/-! The law: hours bring what was told -/
section Q34
variable {l : Launch} {im : TI} {rm : TP} {lm : TL} {Z : TI × TP} {S : CS} {n : Nat} {T : Nat → CS} {sn : Option CS} {bl : Nat} {B : Nat → Int32}
theorem Q_if0 (hlt : l.stackTraces = false) (hTS : TS Z S n T sn bl B im rm) {N : Nat} (h1 : 1 ≤ N) (h2 : N ≤ 48) : Con l m_X4_ifPassed 8 0 0 NN [pv (some 0), .int (nI N), .int 0] im rm lm (QT ((hsS N S).1 6 - S.1 6) lm Z S n T sn bl B) noX := C_ifPassed0 hlt hTS (by omega) ⟨nI_le (a := 1) h1 (by omega), nI_le (b := 48) h2 (by decide)⟩
theorem Q_if1 (hlt : l.stackTraces = false) (hTS : TS Z S n T sn bl B im rm) {N : Nat} (h1 : 1 ≤ N) (h2 : N ≤ 48) : Con l m_X4_ifPassed 8 0 0 NN [pv (some 0), .int (nI N), .int 1] im rm lm (QT ((hsS N S).1 7 - S.1 7) lm Z S n T sn bl B) noX := C_ifPassed1 hlt hTS (by omega) ⟨nI_le (a := 1) h1 (by omega), nI_le (b := 48) h2 (by decide)⟩
theorem Q_if2 (hlt : l.stackTraces = false) (hTS : TS Z S n T sn bl B im rm) {N : Nat} (h1 : 1 ≤ N) (h2 : N ≤ 48) : Con l m_X4_ifPassed 8 0 0 NN [pv (some 0), .int (nI N), .int 2] im rm lm (QT ((hsS N S).1 2 - S.1 2) lm Z S n T sn bl B) noX := C_ifPassed2 hlt hTS (by omega) ⟨nI_le (a := 1) h1 (by omega), nI_le (b := 48) h2 (by decide)⟩
theorem Q_if3 (hlt : l.stackTraces = false) (hTS : TS Z S n T sn bl B im rm) {N : Nat} (h1 : 1 ≤ N) (h2 : N ≤ 48) : Con l m_X4_ifPassed 8 0 0 NN [pv (some 0), .int (nI N), .int 3] im rm lm (QT ((hsS N S).1 4 - S.1 4) lm Z S n T sn bl B) noX := C_ifPassed3 hlt hTS (by omega) ⟨nI_le (a := 1) h1 (by omega), nI_le (b := 48) h2 (by decide)⟩
end Q34
set_option maxHeartbeats 4000000 in
set_option maxRecDepth 100000 in
theorem H_passes0 {l : Launch} (hlt : l.stackTraces = false) {im : TI} {rm : TP} {lm : TL} {S : CS} {n : Nat} {T : Nat → CS} {sn : Option CS} {bl : Nat} {B : Nat → Int32} (hTS : TS (fun _ _ => 0, fun _ _ => none) S n T sn bl B im rm) (hl : lm = fun _ _ => 0) {N : Nat} (hN : 1 ≤ N ∧ N ≤ 48) : Con l m_L_passes 10 3 14 NN [pv (some 0), .int (nI N)] im rm lm (fun N' v i r q => N' = NN + 1 + 1 + 1 ∧ v = some (.int 1) ∧ q = lm ∧ ∃ A R n T, TS (A, R) (hsS N S) n T sn bl B i r) noX := by
  refine Con.ofN (k := 6) (L0 := [some (pv (some 0)), some (.int (nI N)), none, none, none, none, none, none]) hlt (by decide +kernel) rfl rfl (by rw [en1 pv_cat, en1 rfl, en0]; exact Nat.le_of_ble_eq_true rfl) (by rw [en1 pv_cat, en1 rfl, en0]; rfl) ?_
  obtain ⟨h1, h48⟩ := hN
  have tail : ∀ (A : TI) (R : TP) (im : TI) (rm : TP) (z5 z6 z7 : Option Value) (n : Nat) (T : Nat → CS), TS (A, R) S n T sn bl B im rm → ((A 240 0 = S.1 6 ∧ A 240 1 = S.1 7 ∧ A 240 2 = S.1 2 ∧ A 240 3 = S.1 4) ∧ (A 242 0 = ((hsS N S).1 6 - S.1 6) ∧ A 242 1 = ((hsS N S).1 7 - S.1 7) ∧ A 242 2 = ((hsS N S).1 2 - S.1 2) ∧ A 242 3 = ((hsS N S).1 4 - S.1 4)) ∧ ∀ j, j < 5 → A 241 j = S.2.1 j 7) → PW l m_L_passes 10 0 0 (NN + 1 + 1 + 1) 107 [some (pv (some 0)), some (.int (nI N)), some (pv (some NN)), some (pv (some (NN + 1))), some (pv (some (NN + 1 + 1))), z5, z6, z7] [] im rm lm (fun N' v i r q => N' = NN + 1 + 1 + 1 ∧ v = some (.int 1) ∧ q = lm ∧ ∃ A R n T, TS (A, R) (hsS N S) n T sn bl B i r) noX := by
    intro A R im rm z5 z6 z7 n T hTS hA
    obtain ⟨⟨a0, a1, a2, a3⟩, ⟨b0, b1, b2, b3⟩, ht⟩ := hA
    by_cases hn1 : N ≤ 1
    · have e1 : hsS N S = hoS S := by rw [show N = 1 by omega]; rfl
      have loopC : ∀ (im : TI) (rm : TP), TS (A, R) (hsS N S) (shN n) (shT n T S) sn bl B im rm → ∀ (r k : Nat), k + r = 5 → PW l m_L_passes 10 0 0 (NN + 1 + 1 + 1) 222 [some (pv (some 0)), some (.int (nI N)), some (pv (some NN)), some (pv (some (NN + 1))), some (pv (some (NN + 1 + 1))), some (.int (S.1 0)), some (.int 1), some (.int (nI k))] [] im rm lm (fun N' v i r q => N' = NN + 1 + 1 + 1 ∧ v = some (.int 1) ∧ q = lm ∧ ∃ A R n T, TS (A, R) (hsS N S) n T sn bl B i r) noX := by
        intro im rm hT1 r
        induction r with
        | zero =>
          intro k hk
          have i0 := ho_idle (S := S)
          rw [← e1] at i0
          rcases i0 with ⟨i1, i2⟩ | ⟨i1, i2⟩
          · refine t_iload7 dL_passes_222 ?_
            refine pw_iconst (5) dL_passes_224 (by decide) ?_
            refine pw_icmp_ge 277 dL_passes_225 (by decide) (fun _ => ?_) (fun zz => absurd (show (5 : Int32) ≤ nI k from nI_le (a := 5) (by omega) (by omega)) zz)
            refine t_iload6 dL_passes_277 ?_
            refine pw_if_eq 314 dL_passes_279 (by decide) (fun h => absurd h (by decide)) (fun _ => ?_)
            refine t_aload0 dL_passes_282 ?_
            refine pw_iconst (1) dL_passes_283 (by decide) ?_
            refine w_callV1P (show NN ≤ NN + 1 + 1 + 1 by decide) (Q_count (l := l) hlt hT1 (a := 1) (v := 1) rfl (by decide) (y := (hsS N S).1 1 - 1) rfl) rfl ft4 rfl mc_X4_count ml_L_19 mi_X4_count ms_X4_count in_X4 (okc_X4_count (by decide)) dL_passes_284 kdT (cat_le (Nat.le_of_ble_eq_true rfl)) ?_
            refine pw_if_lt 294 dL_passes_287 (by decide) (fun _ => ?_) (fun zz => absurd i1 zz)
            refine pw_iconst (0) dL_passes_294 (by decide) ?_
            refine t_aload4 dL_passes_295 ?_
            refine pw_iconst (2) dL_passes_297 (by decide) ?_
            refine pw_iald9v (k := NN + 1 + 1) (j := 2) (x := ((hsS N S).1 2 - S.1 2)) dL_passes_298 kd242 (by decide) rfl (by rw [show al (NN + 1 + 1) = _ from al242]; first | decide | omega) (by rw [show al (NN + 1 + 1) = _ from al242]; decide) (hT1.at (by decide) b2) ?_
            refine pw_if_ne 306 dL_passes_299 (by decide) (fun _ => ?_) (fun zz => absurd i2 zz)
            refine pw_iconst (0) dL_passes_306 (by decide) ?_
            refine pw_icmp_ne 314 dL_passes_307 (by decide) (fun h => absurd h (by decide)) (fun _ => ?_)
            refine pw_iconst (1) dL_passes_310 (by decide) ?_
            refine pw_goto 315 dL_passes_311 (by decide) ?_
            refine pw_zret dL_passes_315 rfl ?_ ?_
            · first | rfl | exact bI_n
            · exact ⟨rfl, rfl, rfl, _, _, _, _, hT1⟩
          · refine t_iload7 dL_passes_222 ?_
            refine pw_iconst (5) dL_passes_224 (by decide) ?_
            refine pw_icmp_ge 277 dL_passes_225 (by decide) (fun _ => ?_) (fun zz => absurd (show (5 : Int32) ≤ nI k from nI_le (a := 5) (by omega) (by omega)) zz)
            refine t_iload6 dL_passes_277 ?_
            refine pw_if_eq 314 dL_passes_279 (by decide) (fun h => absurd h (by decide)) (fun _ => ?_)
            refine t_aload0 dL_passes_282 ?_
            refine pw_iconst (1) dL_passes_283 (by decide) ?_
            refine w_callV1P (show NN ≤ NN + 1 + 1 + 1 by decide) (Q_count (l := l) hlt hT1 (a := 1) (v := 1) rfl (by decide) (y := (hsS N S).1 1 - 1) rfl) rfl ft4 rfl mc_X4_count ml_L_19 mi_X4_count ms_X4_count in_X4 (okc_X4_count (by decide)) dL_passes_284 kdT (cat_le (Nat.le_of_ble_eq_true rfl)) ?_
            refine pw_if_lt 294 dL_passes_287 (by decide) (fun zz => absurd zz i1) (fun _ => ?_)
            refine pw_iconst (1) dL_passes_290 (by decide) ?_
            refine pw_goto 295 dL_passes_291 (by decide) ?_
            refine t_aload4 dL_passes_295 ?_
            refine pw_iconst (2) dL_passes_297 (by decide) ?_
            refine pw_iald9v (k := NN + 1 + 1) (j := 2) (x := ((hsS N S).1 2 - S.1 2)) dL_passes_298 kd242 (by decide) rfl (by rw [show al (NN + 1 + 1) = _ from al242]; first | decide | omega) (by rw [show al (NN + 1 + 1) = _ from al242]; decide) (hT1.at (by decide) b2) ?_
            refine pw_if_ne 306 dL_passes_299 (by decide) (fun zz => absurd i2 zz) (fun _ => ?_)
            refine pw_iconst (1) dL_passes_302 (by decide) ?_
            refine pw_goto 307 dL_passes_303 (by decide) ?_
            refine pw_icmp_ne 314 dL_passes_307 (by decide) (fun h => absurd h (by decide)) (fun _ => ?_)
            refine pw_iconst (1) dL_passes_310 (by decide) ?_
            refine pw_goto 315 dL_passes_311 (by decide) ?_
            refine pw_zret dL_passes_315 rfl ?_ ?_
            · first | rfl | exact bI_n
            · exact ⟨rfl, rfl, rfl, _, _, _, _, hT1⟩
        | succ r ih =>
          intro k hk
          have hk5 : k < 5 := by omega
          have w := ho_k (S := S) hk5
          rw [← e1] at w
          by_cases hw : (hsS N S).1 1 - 1 = nI k
          · refine t_iload7 dL_passes_222 ?_
            refine pw_iconst (5) dL_passes_224 (by decide) ?_
            refine pw_icmp_ge 277 dL_passes_225 (by decide) (fun zz => absurd zz (nI_ge (b := 5) (a := k) hk5 (by decide))) (fun _ => ?_)
            refine t_iload6 dL_passes_228 ?_
            refine pw_if_eq 268 dL_passes_230 (by decide) (fun h => absurd h (by decide)) (fun _ => ?_)
            refine t_aload0 dL_passes_233 ?_
            refine t_iload7 dL_passes_234 ?_
            refine pw_bipush (9) dL_passes_236 (by decide) ?_
            refine w_callV2P (show NN ≤ NN + 1 + 1 + 1 by decide) (Q_mill (l := l) hlt hT1 (m := k) (x := nI k) (a := 9) (v := 9) hk5 rfl rfl (by decide) (y := (hsS N S).2.1 k 7) rfl) rfl ft4 rfl mc_X4_mill ml_L_10 mi_X4_mill ms_X4_mill in_X4 (okc_X4_mill (by decide)) dL_passes_238 kdT (cat_le (Nat.le_of_ble_eq_true rfl)) ?_
            refine t_aload3 dL_passes_241 ?_
            refine t_iload7 dL_passes_242 ?_
            refine pw_iald9v (k := NN + 1) (j := k) (x := S.2.1 k 7) dL_passes_244 kd241 (by decide) rfl (by rw [show al (NN + 1) = _ from al241]; first | decide | omega) (by rw [show al (NN + 1) = _ from al241]; decide) (hT1.at (by decide) (ht k hk5)) ?_
            refine t_aload0 dL_passes_245 ?_
            refine pw_iconst (1) dL_passes_246 (by decide) ?_
            refine w_callV1P (show NN ≤ NN + 1 + 1 + 1 by decide) (Q_count (l := l) hlt hT1 (a := 1) (v := 1) rfl (by decide) (y := (hsS N S).1 1 - 1) rfl) rfl ft4 rfl mc_X4_count ml_L_19 mi_X4_count ms_X4_count in_X4 (okc_X4_count (by decide)) dL_passes_247 kdT (cat_le (Nat.le_of_ble_eq_true rfl)) ?_
            refine t_iload7 dL_passes_250 ?_
            refine pw_icmp_ne 259 dL_passes_252 (by decide) (fun zz => absurd hw zz) (fun _ => ?_)
            refine pw_iconst (1) dL_passes_255 (by decide) ?_
            refine pw_goto 260 dL_passes_256 (by decide) ?_
            refine pw_iadd dL_passes_260 ?_
            refine pw_icmp_ne 268 dL_passes_261 (by decide) (fun zz => absurd (w.1 hw) zz) (fun _ => ?_)
            refine pw_iconst (1) dL_passes_264 (by decide) ?_
            refine pw_goto 269 dL_passes_265 (by decide) ?_
            refine t_istore6 dL_passes_269 (by exact Nat.le_of_ble_eq_true rfl) okp_i ?_
            refine t_iinc7 (1) dL_passes_271 (by decide) (by exact Nat.le_of_ble_eq_true rfl) okp_i ?_
            refine pw_goto 222 dL_passes_274 (by decide) ?_
            rw [nI_1]
            exact ih (k + 1) (by omega)
          · refine t_iload7 dL_passes_222 ?_
            refine pw_iconst (5) dL_passes_224 (by decide) ?_
            refine pw_icmp_ge 277 dL_passes_225 (by decide) (fun zz => absurd zz (nI_ge (b := 5) (a := k) hk5 (by decide))) (fun _ => ?_)
            refine t_iload6 dL_passes_228 ?_
            refine pw_if_eq 268 dL_passes_230 (by decide) (fun h => absurd h (by decide)) (fun _ => ?_)
            refine t_aload0 dL_passes_233 ?_
            refine t_iload7 dL_passes_234 ?_
            refine pw_bipush (9) dL_passes_236 (by decide) ?_
            refine w_callV2P (show NN ≤ NN + 1 + 1 + 1 by decide) (Q_mill (l := l) hlt hT1 (m := k) (x := nI k) (a := 9) (v := 9) hk5 rfl rfl (by decide) (y := (hsS N S).2.1 k 7) rfl) rfl ft4 rfl mc_X4_mill ml_L_10 mi_X4_mill ms_X4_mill in_X4 (okc_X4_mill (by decide)) dL_passes_238 kdT (cat_le (Nat.le_of_ble_eq_true rfl)) ?_
            refine t_aload3 dL_passes_241 ?_
            refine t_iload7 dL_passes_242 ?_
            refine pw_iald9v (k := NN + 1) (j := k) (x := S.2.1 k 7) dL_passes_244 kd241 (by decide) rfl (by rw [show al (NN + 1) = _ from al241]; first | decide | omega) (by rw [show al (NN + 1) = _ from al241]; decide) (hT1.at (by decide) (ht k hk5)) ?_
            refine t_aload0 dL_passes_245 ?_
            refine pw_iconst (1) dL_passes_246 (by decide) ?_
            refine w_callV1P (show NN ≤ NN + 1 + 1 + 1 by decide) (Q_count (l := l) hlt hT1 (a := 1) (v := 1) rfl (by decide) (y := (hsS N S).1 1 - 1) rfl) rfl ft4 rfl mc_X4_count ml_L_19 mi_X4_count ms_X4_count in_X4 (okc_X4_count (by decide)) dL_passes_247 kdT (cat_le (Nat.le_of_ble_eq_true rfl)) ?_
            refine t_iload7 dL_passes_250 ?_
            refine pw_icmp_ne 259 dL_passes_252 (by decide) (fun _ => ?_) (fun zz => absurd hw zz)
            refine pw_iconst (0) dL_passes_259 (by decide) ?_
            refine pw_iadd dL_passes_260 ?_
            refine pw_icmp_ne 268 dL_passes_261 (by decide) (fun zz => absurd (w.2 hw) zz) (fun _ => ?_)
            refine pw_iconst (1) dL_passes_264 (by decide) ?_
            refine pw_goto 269 dL_passes_265 (by decide) ?_
            refine t_istore6 dL_passes_269 (by exact Nat.le_of_ble_eq_true rfl) okp_i ?_
            refine t_iinc7 (1) dL_passes_271 (by decide) (by exact Nat.le_of_ble_eq_true rfl) okp_i ?_
            refine pw_goto 222 dL_passes_274 (by decide) ?_
            rw [nI_1]
            exact ih (k + 1) (by omega)
      refine t_aload0 dL_passes_107 ?_
      refine pw_iconst (0) dL_passes_108 (by decide) ?_
      refine w_callV1P (show NN ≤ NN + 1 + 1 + 1 by decide) (Q_count (l := l) hlt hTS (a := 0) (v := 0) rfl (by decide) (y := S.1 0) rfl) rfl ft4 rfl mc_X4_count ml_L_19 mi_X4_count ms_X4_count in_X4 (okc_X4_count (by decide)) dL_passes_109 kdT (cat_le (Nat.le_of_ble_eq_true rfl)) ?_
      refine t_istore5 dL_passes_112 (by exact Nat.le_of_ble_eq_true rfl) okp_r ?_
      refine t_aload0 dL_passes_114 ?_
      refine t_iload1 dL_passes_115 ?_
      refine w_callV1T (show NN ≤ NN + 1 + 1 + 1 by decide) hTS (Q_pass (l := l) hlt hTS (N := N) (x := nI N) rfl h1 h48) rfl ft4 rfl mc_X4_pass ml_L_59 mi_X4_pass ms_X4_pass in_X4 (okc_X4_pass (by decide)) dL_passes_116 kdT (cat_le (Nat.le_of_ble_eq_true rfl)) (fun zi116 zr116 hT1 => ?_)
      refine t_aload4 dL_passes_119 ?_
      refine pw_iconst (0) dL_passes_121 (by decide) ?_
      refine pw_iald9v (k := NN + 1 + 1) (j := 0) (x := ((hsS N S).1 6 - S.1 6)) dL_passes_122 kd242 (by decide) rfl (by rw [show al (NN + 1 + 1) = _ from al242]; first | decide | omega) (by rw [show al (NN + 1 + 1) = _ from al242]; decide) (hT1.at (by decide) b0) ?_
      refine pw_icmp_ne 208 dL_passes_123 (by decide) (fun zz => absurd rfl zz) (fun _ => ?_)
      refine t_aload0 dL_passes_126 ?_
      refine pw_iconst (0) dL_passes_127 (by decide) ?_
      refine w_callV1P (show NN ≤ NN + 1 + 1 + 1 by decide) (Q_count (l := l) hlt hT1 (a := 0) (v := 0) rfl (by decide) (y := (hsS N S).1 0) rfl) rfl ft4 rfl mc_X4_count ml_L_19 mi_X4_count ms_X4_count in_X4 (okc_X4_count (by decide)) dL_passes_128 kdT (cat_le (Nat.le_of_ble_eq_true rfl)) ?_
      refine t_iload5 dL_passes_131 ?_
      refine t_iload1 dL_passes_133 ?_
      refine pw_iadd dL_passes_134 ?_
      refine pw_icmp_ne 208 dL_passes_135 (by decide) (fun zz => absurd (hs_g0 N) zz) (fun _ => ?_)
      refine t_aload0 dL_passes_138 ?_
      refine pw_bipush (8) dL_passes_139 (by decide) ?_
      refine w_callV1P (show NN ≤ NN + 1 + 1 + 1 by decide) (Q_count (l := l) hlt hT1 (a := 8) (v := 8) rfl (by decide) (y := (hsS N S).1 6) rfl) rfl ft4 rfl mc_X4_count ml_L_19 mi_X4_count ms_X4_count in_X4 (okc_X4_count (by decide)) dL_passes_141 kdT (cat_le (Nat.le_of_ble_eq_true rfl)) ?_
      refine t_aload2 dL_passes_144 ?_
      refine pw_iconst (0) dL_passes_145 (by decide) ?_
      refine pw_iald9v (k := NN) (j := 0) (x := S.1 6) dL_passes_146 kd240 (by decide) rfl (by rw [show al (NN) = _ from al240]; first | decide | omega) (by rw [show al (NN) = _ from al240]; decide) (hT1.at (by decide) a0) ?_
      refine t_aload4 dL_passes_147 ?_
      refine pw_iconst (0) dL_passes_149 (by decide) ?_
      refine pw_iald9v (k := NN + 1 + 1) (j := 0) (x := ((hsS N S).1 6 - S.1 6)) dL_passes_150 kd242 (by decide) rfl (by rw [show al (NN + 1 + 1) = _ from al242]; first | decide | omega) (by rw [show al (NN + 1 + 1) = _ from al242]; decide) (hT1.at (by decide) b0) ?_
      refine pw_iadd dL_passes_151 ?_
      refine pw_icmp_ne 208 dL_passes_152 (by decide) (fun zz => absurd (i32_pd _ _) zz) (fun _ => ?_)
      refine t_aload0 dL_passes_155 ?_
      refine pw_bipush (9) dL_passes_156 (by decide) ?_
      refine w_callV1P (show NN ≤ NN + 1 + 1 + 1 by decide) (Q_count (l := l) hlt hT1 (a := 9) (v := 9) rfl (by decide) (y := (hsS N S).1 7) rfl) rfl ft4 rfl mc_X4_count ml_L_19 mi_X4_count ms_X4_count in_X4 (okc_X4_count (by decide)) dL_passes_158 kdT (cat_le (Nat.le_of_ble_eq_true rfl)) ?_
      refine t_aload2 dL_passes_161 ?_
      refine pw_iconst (1) dL_passes_162 (by decide) ?_
      refine pw_iald9v (k := NN) (j := 1) (x := S.1 7) dL_passes_163 kd240 (by decide) rfl (by rw [show al (NN) = _ from al240]; first | decide | omega) (by rw [show al (NN) = _ from al240]; decide) (hT1.at (by decide) a1) ?_
      refine t_aload4 dL_passes_164 ?_
      refine pw_iconst (1) dL_passes_166 (by decide) ?_
      refine pw_iald9v (k := NN + 1 + 1) (j := 1) (x := ((hsS N S).1 7 - S.1 7)) dL_passes_167 kd242 (by decide) rfl (by rw [show al (NN + 1 + 1) = _ from al242]; first | decide | omega) (by rw [show al (NN + 1 + 1) = _ from al242]; decide) (hT1.at (by decide) b1) ?_
      refine pw_iadd dL_passes_168 ?_
      refine pw_icmp_ne 208 dL_passes_169 (by decide) (fun zz => absurd (i32_pd _ _) zz) (fun _ => ?_)
      refine t_aload0 dL_passes_172 ?_
      refine pw_iconst (2) dL_passes_173 (by decide) ?_
      refine w_callV1P (show NN ≤ NN + 1 + 1 + 1 by decide) (Q_count (l := l) hlt hT1 (a := 2) (v := 2) rfl (by decide) (y := (hsS N S).1 2) rfl) rfl ft4 rfl mc_X4_count ml_L_19 mi_X4_count ms_X4_count in_X4 (okc_X4_count (by decide)) dL_passes_174 kdT (cat_le (Nat.le_of_ble_eq_true rfl)) ?_
      refine t_aload2 dL_passes_177 ?_
      refine pw_iconst (2) dL_passes_178 (by decide) ?_
      refine pw_iald9v (k := NN) (j := 2) (x := S.1 2) dL_passes_179 kd240 (by decide) rfl (by rw [show al (NN) = _ from al240]; first | decide | omega) (by rw [show al (NN) = _ from al240]; decide) (hT1.at (by decide) a2) ?_
      refine t_aload4 dL_passes_180 ?_
      refine pw_iconst (2) dL_passes_182 (by decide) ?_
      refine pw_iald9v (k := NN + 1 + 1) (j := 2) (x := ((hsS N S).1 2 - S.1 2)) dL_passes_183 kd242 (by decide) rfl (by rw [show al (NN + 1 + 1) = _ from al242]; first | decide | omega) (by rw [show al (NN + 1 + 1) = _ from al242]; decide) (hT1.at (by decide) b2) ?_
      refine pw_iadd dL_passes_184 ?_
      refine pw_icmp_ne 208 dL_passes_185 (by decide) (fun zz => absurd (i32_pd _ _) zz) (fun _ => ?_)
      refine t_aload0 dL_passes_188 ?_
      refine pw_iconst (4) dL_passes_189 (by decide) ?_
      refine w_callV1P (show NN ≤ NN + 1 + 1 + 1 by decide) (Q_count (l := l) hlt hT1 (a := 4) (v := 4) rfl (by decide) (y := (hsS N S).1 4) rfl) rfl ft4 rfl mc_X4_count ml_L_19 mi_X4_count ms_X4_count in_X4 (okc_X4_count (by decide)) dL_passes_190 kdT (cat_le (Nat.le_of_ble_eq_true rfl)) ?_
      refine t_aload2 dL_passes_193 ?_
      refine pw_iconst (3) dL_passes_194 (by decide) ?_
      refine pw_iald9v (k := NN) (j := 3) (x := S.1 4) dL_passes_195 kd240 (by decide) rfl (by rw [show al (NN) = _ from al240]; first | decide | omega) (by rw [show al (NN) = _ from al240]; decide) (hT1.at (by decide) a3) ?_
      refine t_aload4 dL_passes_196 ?_
      refine pw_iconst (3) dL_passes_198 (by decide) ?_
      refine pw_iald9v (k := NN + 1 + 1) (j := 3) (x := ((hsS N S).1 4 - S.1 4)) dL_passes_199 kd242 (by decide) rfl (by rw [show al (NN + 1 + 1) = _ from al242]; first | decide | omega) (by rw [show al (NN + 1 + 1) = _ from al242]; decide) (hT1.at (by decide) b3) ?_
      refine pw_iadd dL_passes_200 ?_
      refine pw_icmp_ne 208 dL_passes_201 (by decide) (fun zz => absurd (i32_pd _ _) zz) (fun _ => ?_)
      refine pw_iconst (1) dL_passes_204 (by decide) ?_
      refine pw_goto 209 dL_passes_205 (by decide) ?_
      refine t_istore6 dL_passes_209 (by exact Nat.le_of_ble_eq_true rfl) okp_i ?_
      refine t_iload1 dL_passes_211 ?_
      refine pw_iconst (1) dL_passes_212 (by decide) ?_
      refine pw_icmp_le 219 dL_passes_213 (by decide) (fun _ => ?_) (fun zz => absurd (nI_le (a := N) (b := 1) (by omega) (by decide)) zz)
      refine pw_iconst (0) dL_passes_219 (by decide) ?_
      refine t_istore7 dL_passes_220 (by exact Nat.le_of_ble_eq_true rfl) okp_i ?_
      exact loopC _ _ hT1 5 0 rfl
    · refine t_aload0 dL_passes_107 ?_
      refine pw_iconst (0) dL_passes_108 (by decide) ?_
      refine w_callV1P (show NN ≤ NN + 1 + 1 + 1 by decide) (Q_count (l := l) hlt hTS (a := 0) (v := 0) rfl (by decide) (y := S.1 0) rfl) rfl ft4 rfl mc_X4_count ml_L_19 mi_X4_count ms_X4_count in_X4 (okc_X4_count (by decide)) dL_passes_109 kdT (cat_le (Nat.le_of_ble_eq_true rfl)) ?_
      refine t_istore5 dL_passes_112 (by exact Nat.le_of_ble_eq_true rfl) okp_r ?_
      refine t_aload0 dL_passes_114 ?_
      refine t_iload1 dL_passes_115 ?_
      refine w_callV1T (show NN ≤ NN + 1 + 1 + 1 by decide) hTS (Q_pass (l := l) hlt hTS (N := N) (x := nI N) rfl h1 h48) rfl ft4 rfl mc_X4_pass ml_L_59 mi_X4_pass ms_X4_pass in_X4 (okc_X4_pass (by decide)) dL_passes_116 kdT (cat_le (Nat.le_of_ble_eq_true rfl)) (fun zi116 zr116 hT1 => ?_)
      refine t_aload4 dL_passes_119 ?_
      refine pw_iconst (0) dL_passes_121 (by decide) ?_
      refine pw_iald9v (k := NN + 1 + 1) (j := 0) (x := ((hsS N S).1 6 - S.1 6)) dL_passes_122 kd242 (by decide) rfl (by rw [show al (NN + 1 + 1) = _ from al242]; first | decide | omega) (by rw [show al (NN + 1 + 1) = _ from al242]; decide) (hT1.at (by decide) b0) ?_
      refine pw_icmp_ne 208 dL_passes_123 (by decide) (fun zz => absurd rfl zz) (fun _ => ?_)
      refine t_aload0 dL_passes_126 ?_
      refine pw_iconst (0) dL_passes_127 (by decide) ?_
      refine w_callV1P (show NN ≤ NN + 1 + 1 + 1 by decide) (Q_count (l := l) hlt hT1 (a := 0) (v := 0) rfl (by decide) (y := (hsS N S).1 0) rfl) rfl ft4 rfl mc_X4_count ml_L_19 mi_X4_count ms_X4_count in_X4 (okc_X4_count (by decide)) dL_passes_128 kdT (cat_le (Nat.le_of_ble_eq_true rfl)) ?_
      refine t_iload5 dL_passes_131 ?_
      refine t_iload1 dL_passes_133 ?_
      refine pw_iadd dL_passes_134 ?_
      refine pw_icmp_ne 208 dL_passes_135 (by decide) (fun zz => absurd (hs_g0 N) zz) (fun _ => ?_)
      refine t_aload0 dL_passes_138 ?_
      refine pw_bipush (8) dL_passes_139 (by decide) ?_
      refine w_callV1P (show NN ≤ NN + 1 + 1 + 1 by decide) (Q_count (l := l) hlt hT1 (a := 8) (v := 8) rfl (by decide) (y := (hsS N S).1 6) rfl) rfl ft4 rfl mc_X4_count ml_L_19 mi_X4_count ms_X4_count in_X4 (okc_X4_count (by decide)) dL_passes_141 kdT (cat_le (Nat.le_of_ble_eq_true rfl)) ?_
      refine t_aload2 dL_passes_144 ?_
      refine pw_iconst (0) dL_passes_145 (by decide) ?_
      refine pw_iald9v (k := NN) (j := 0) (x := S.1 6) dL_passes_146 kd240 (by decide) rfl (by rw [show al (NN) = _ from al240]; first | decide | omega) (by rw [show al (NN) = _ from al240]; decide) (hT1.at (by decide) a0) ?_
      refine t_aload4 dL_passes_147 ?_
      refine pw_iconst (0) dL_passes_149 (by decide) ?_
      refine pw_iald9v (k := NN + 1 + 1) (j := 0) (x := ((hsS N S).1 6 - S.1 6)) dL_passes_150 kd242 (by decide) rfl (by rw [show al (NN + 1 + 1) = _ from al242]; first | decide | omega) (by rw [show al (NN + 1 + 1) = _ from al242]; decide) (hT1.at (by decide) b0) ?_
      refine pw_iadd dL_passes_151 ?_
      refine pw_icmp_ne 208 dL_passes_152 (by decide) (fun zz => absurd (i32_pd _ _) zz) (fun _ => ?_)
      refine t_aload0 dL_passes_155 ?_
      refine pw_bipush (9) dL_passes_156 (by decide) ?_
      refine w_callV1P (show NN ≤ NN + 1 + 1 + 1 by decide) (Q_count (l := l) hlt hT1 (a := 9) (v := 9) rfl (by decide) (y := (hsS N S).1 7) rfl) rfl ft4 rfl mc_X4_count ml_L_19 mi_X4_count ms_X4_count in_X4 (okc_X4_count (by decide)) dL_passes_158 kdT (cat_le (Nat.le_of_ble_eq_true rfl)) ?_
      refine t_aload2 dL_passes_161 ?_
      refine pw_iconst (1) dL_passes_162 (by decide) ?_
      refine pw_iald9v (k := NN) (j := 1) (x := S.1 7) dL_passes_163 kd240 (by decide) rfl (by rw [show al (NN) = _ from al240]; first | decide | omega) (by rw [show al (NN) = _ from al240]; decide) (hT1.at (by decide) a1) ?_
      refine t_aload4 dL_passes_164 ?_
      refine pw_iconst (1) dL_passes_166 (by decide) ?_
      refine pw_iald9v (k := NN + 1 + 1) (j := 1) (x := ((hsS N S).1 7 - S.1 7)) dL_passes_167 kd242 (by decide) rfl (by rw [show al (NN + 1 + 1) = _ from al242]; first | decide | omega) (by rw [show al (NN + 1 + 1) = _ from al242]; decide) (hT1.at (by decide) b1) ?_
      refine pw_iadd dL_passes_168 ?_
      refine pw_icmp_ne 208 dL_passes_169 (by decide) (fun zz => absurd (i32_pd _ _) zz) (fun _ => ?_)
      refine t_aload0 dL_passes_172 ?_
      refine pw_iconst (2) dL_passes_173 (by decide) ?_
      refine w_callV1P (show NN ≤ NN + 1 + 1 + 1 by decide) (Q_count (l := l) hlt hT1 (a := 2) (v := 2) rfl (by decide) (y := (hsS N S).1 2) rfl) rfl ft4 rfl mc_X4_count ml_L_19 mi_X4_count ms_X4_count in_X4 (okc_X4_count (by decide)) dL_passes_174 kdT (cat_le (Nat.le_of_ble_eq_true rfl)) ?_
      refine t_aload2 dL_passes_177 ?_
      refine pw_iconst (2) dL_passes_178 (by decide) ?_
      refine pw_iald9v (k := NN) (j := 2) (x := S.1 2) dL_passes_179 kd240 (by decide) rfl (by rw [show al (NN) = _ from al240]; first | decide | omega) (by rw [show al (NN) = _ from al240]; decide) (hT1.at (by decide) a2) ?_
      refine t_aload4 dL_passes_180 ?_
      refine pw_iconst (2) dL_passes_182 (by decide) ?_
      refine pw_iald9v (k := NN + 1 + 1) (j := 2) (x := ((hsS N S).1 2 - S.1 2)) dL_passes_183 kd242 (by decide) rfl (by rw [show al (NN + 1 + 1) = _ from al242]; first | decide | omega) (by rw [show al (NN + 1 + 1) = _ from al242]; decide) (hT1.at (by decide) b2) ?_
      refine pw_iadd dL_passes_184 ?_
      refine pw_icmp_ne 208 dL_passes_185 (by decide) (fun zz => absurd (i32_pd _ _) zz) (fun _ => ?_)
      refine t_aload0 dL_passes_188 ?_
      refine pw_iconst (4) dL_passes_189 (by decide) ?_
      refine w_callV1P (show NN ≤ NN + 1 + 1 + 1 by decide) (Q_count (l := l) hlt hT1 (a := 4) (v := 4) rfl (by decide) (y := (hsS N S).1 4) rfl) rfl ft4 rfl mc_X4_count ml_L_19 mi_X4_count ms_X4_count in_X4 (okc_X4_count (by decide)) dL_passes_190 kdT (cat_le (Nat.le_of_ble_eq_true rfl)) ?_
      refine t_aload2 dL_passes_193 ?_
      refine pw_iconst (3) dL_passes_194 (by decide) ?_
      refine pw_iald9v (k := NN) (j := 3) (x := S.1 4) dL_passes_195 kd240 (by decide) rfl (by rw [show al (NN) = _ from al240]; first | decide | omega) (by rw [show al (NN) = _ from al240]; decide) (hT1.at (by decide) a3) ?_
      refine t_aload4 dL_passes_196 ?_
      refine pw_iconst (3) dL_passes_198 (by decide) ?_
      refine pw_iald9v (k := NN + 1 + 1) (j := 3) (x := ((hsS N S).1 4 - S.1 4)) dL_passes_199 kd242 (by decide) rfl (by rw [show al (NN + 1 + 1) = _ from al242]; first | decide | omega) (by rw [show al (NN + 1 + 1) = _ from al242]; decide) (hT1.at (by decide) b3) ?_
      refine pw_iadd dL_passes_200 ?_
      refine pw_icmp_ne 208 dL_passes_201 (by decide) (fun zz => absurd (i32_pd _ _) zz) (fun _ => ?_)
      refine pw_iconst (1) dL_passes_204 (by decide) ?_
      refine pw_goto 209 dL_passes_205 (by decide) ?_
      refine t_istore6 dL_passes_209 (by exact Nat.le_of_ble_eq_true rfl) okp_i ?_
      refine t_iload1 dL_passes_211 ?_
      refine pw_iconst (1) dL_passes_212 (by decide) ?_
      refine pw_icmp_le 219 dL_passes_213 (by decide) (fun zz => absurd zz (nI_ge (a := 1) (b := N) (by omega) (by omega))) (fun _ => ?_)
      refine t_iload6 dL_passes_216 ?_
      refine pw_zret dL_passes_218 rfl ?_ ?_
      · first | rfl | exact bI_n
      · exact ⟨rfl, rfl, rfl, _, _, _, _, hT1⟩
  have loopB : ∀ (A : TI) (R : TP) (im : TI) (rm : TP) (z6 z7 : Option Value), TS (A, R) S n T sn bl B im rm → (∀ j, j < 5 → A 241 j = S.2.1 j 7) → PW l m_L_passes 10 0 0 (NN + 1 + 1 + 1) 43 [some (pv (some 0)), some (.int (nI N)), some (pv (some NN)), some (pv (some (NN + 1))), some (pv (some (NN + 1 + 1))), some (.int 0), z6, z7] [] im rm lm (fun N' v i r q => N' = NN + 1 + 1 + 1 ∧ v = some (.int 1) ∧ q = lm ∧ ∃ A R n T, TS (A, R) (hsS N S) n T sn bl B i r) noX := by
    intro A R im rm z6 z7 hTS ht
    refine t_iload5 dL_passes_43 ?_
    refine pw_iconst (4) dL_passes_45 (by decide) ?_
    refine pw_icmp_ge 107 dL_passes_46 (by decide) (fun h => absurd h (by decide)) (fun _ => ?_)
    refine t_aload2 dL_passes_49 ?_
    refine t_iload5 dL_passes_50 ?_
    refine t_aload0 dL_passes_52 ?_
    refine t_iload5 dL_passes_53 ?_
    refine pw_if_ne 63 dL_passes_55 (by decide) (fun h => absurd h (by decide)) (fun _ => ?_)
    refine pw_bipush (8) dL_passes_58 (by decide) ?_
    refine pw_goto 85 dL_passes_60 (by decide) ?_
    refine w_callV1P (show NN ≤ NN + 1 + 1 + 1 by decide) (Q_count (l := l) hlt hTS (a := 8) (v := 8) rfl (by decide) (y := S.1 6) rfl) rfl ft4 rfl mc_X4_count ml_L_19 mi_X4_count ms_X4_count in_X4 (okc_X4_count (by decide)) dL_passes_85 kdT (cat_le (Nat.le_of_ble_eq_true rfl)) ?_
    refine pw_iast9v (k := NN) (j := 0) dL_passes_88 kd240 (by decide) rfl (by rw [show al (NN) = _ from al240]; first | decide | omega) (by rw [show al (NN) = _ from al240]; decide) ?_
    have hJ1 := hTS.arr (o := 240) (j := 0) (x := (S.1 6)) (by decide)
    refine t_aload4 dL_passes_89 ?_
    refine t_iload5 dL_passes_91 ?_
    refine t_aload0 dL_passes_93 ?_
    refine t_iload1 dL_passes_94 ?_
    refine t_iload5 dL_passes_95 ?_
    refine w_callV2T (show NN ≤ NN + 1 + 1 + 1 by decide) hJ1 (Q_if0 (l := l) hlt hJ1 h1 h48) rfl ft4 rfl mc_X4_ifPassed ml_L_56 mi_X4_ifPassed ms_X4_ifPassed in_X4 (okc_X4_ifPassed (by decide)) dL_passes_97 kdT (cat_le (Nat.le_of_ble_eq_true rfl)) (fun zi97 zr97 hI2 => ?_)
    refine pw_iast9v (k := NN + 1 + 1) (j := 0) dL_passes_100 kd242 (by decide) rfl (by rw [show al (NN + 1 + 1) = _ from al242]; first | decide | omega) (by rw [show al (NN + 1 + 1) = _ from al242]; decide) ?_
    have hJ3 := hI2.arr (o := 242) (j := 0) (x := ((hsS N S).1 6 - S.1 6)) (by decide)
    refine t_iinc5 (1) dL_passes_101 (by decide) (by exact Nat.le_of_ble_eq_true rfl) okp_r ?_
    rw [show ((0 : Int32) + (1)) = 1 by decide]
    refine pw_goto 43 dL_passes_104 (by decide) ?_
    refine t_iload5 dL_passes_43 ?_
    refine pw_iconst (4) dL_passes_45 (by decide) ?_
    refine pw_icmp_ge 107 dL_passes_46 (by decide) (fun h => absurd h (by decide)) (fun _ => ?_)
    refine t_aload2 dL_passes_49 ?_
    refine t_iload5 dL_passes_50 ?_
    refine t_aload0 dL_passes_52 ?_
    refine t_iload5 dL_passes_53 ?_
    refine pw_if_ne 63 dL_passes_55 (by decide) (fun _ => ?_) (fun h => absurd (by decide) h)
    refine t_iload5 dL_passes_63 ?_
    refine pw_iconst (1) dL_passes_65 (by decide) ?_
    refine pw_icmp_ne 74 dL_passes_66 (by decide) (fun h => absurd h (by decide)) (fun _ => ?_)
    refine pw_bipush (9) dL_passes_69 (by decide) ?_
    refine pw_goto 85 dL_passes_71 (by decide) ?_
    refine w_callV1P (show NN ≤ NN + 1 + 1 + 1 by decide) (Q_count (l := l) hlt hJ3 (a := 9) (v := 9) rfl (by decide) (y := S.1 7) rfl) rfl ft4 rfl mc_X4_count ml_L_19 mi_X4_count ms_X4_count in_X4 (okc_X4_count (by decide)) dL_passes_85 kdT (cat_le (Nat.le_of_ble_eq_true rfl)) ?_
    refine pw_iast9v (k := NN) (j := 1) dL_passes_88 kd240 (by decide) rfl (by rw [show al (NN) = _ from al240]; first | decide | omega) (by rw [show al (NN) = _ from al240]; decide) ?_
    have hJ4 := hJ3.arr (o := 240) (j := 1) (x := (S.1 7)) (by decide)
    refine t_aload4 dL_passes_89 ?_
    refine t_iload5 dL_passes_91 ?_
    refine t_aload0 dL_passes_93 ?_
    refine t_iload1 dL_passes_94 ?_
    refine t_iload5 dL_passes_95 ?_
    refine w_callV2T (show NN ≤ NN + 1 + 1 + 1 by decide) hJ4 (Q_if1 (l := l) hlt hJ4 h1 h48) rfl ft4 rfl mc_X4_ifPassed ml_L_56 mi_X4_ifPassed ms_X4_ifPassed in_X4 (okc_X4_ifPassed (by decide)) dL_passes_97 kdT (cat_le (Nat.le_of_ble_eq_true rfl)) (fun zi97 zr97 hI5 => ?_)
    refine pw_iast9v (k := NN + 1 + 1) (j := 1) dL_passes_100 kd242 (by decide) rfl (by rw [show al (NN + 1 + 1) = _ from al242]; first | decide | omega) (by rw [show al (NN + 1 + 1) = _ from al242]; decide) ?_
    have hJ6 := hI5.arr (o := 242) (j := 1) (x := ((hsS N S).1 7 - S.1 7)) (by decide)
    refine t_iinc5 (1) dL_passes_101 (by decide) (by exact Nat.le_of_ble_eq_true rfl) okp_r ?_
    rw [show ((1 : Int32) + (1)) = 2 by decide]
    refine pw_goto 43 dL_passes_104 (by decide) ?_
    refine t_iload5 dL_passes_43 ?_
    refine pw_iconst (4) dL_passes_45 (by decide) ?_
    refine pw_icmp_ge 107 dL_passes_46 (by decide) (fun h => absurd h (by decide)) (fun _ => ?_)
    refine t_aload2 dL_passes_49 ?_
    refine t_iload5 dL_passes_50 ?_
    refine t_aload0 dL_passes_52 ?_
    refine t_iload5 dL_passes_53 ?_
    refine pw_if_ne 63 dL_passes_55 (by decide) (fun _ => ?_) (fun h => absurd (by decide) h)
    refine t_iload5 dL_passes_63 ?_
    refine pw_iconst (1) dL_passes_65 (by decide) ?_
    refine pw_icmp_ne 74 dL_passes_66 (by decide) (fun _ => ?_) (fun h => absurd (by decide) h)
    refine t_iload5 dL_passes_74 ?_
    refine pw_iconst (2) dL_passes_76 (by decide) ?_
    refine pw_icmp_ne 84 dL_passes_77 (by decide) (fun h => absurd h (by decide)) (fun _ => ?_)
    refine pw_iconst (2) dL_passes_80 (by decide) ?_
    refine pw_goto 85 dL_passes_81 (by decide) ?_
    refine w_callV1P (show NN ≤ NN + 1 + 1 + 1 by decide) (Q_count (l := l) hlt hJ6 (a := 2) (v := 2) rfl (by decide) (y := S.1 2) rfl) rfl ft4 rfl mc_X4_count ml_L_19 mi_X4_count ms_X4_count in_X4 (okc_X4_count (by decide)) dL_passes_85 kdT (cat_le (Nat.le_of_ble_eq_true rfl)) ?_
    refine pw_iast9v (k := NN) (j := 2) dL_passes_88 kd240 (by decide) rfl (by rw [show al (NN) = _ from al240]; first | decide | omega) (by rw [show al (NN) = _ from al240]; decide) ?_
    have hJ7 := hJ6.arr (o := 240) (j := 2) (x := (S.1 2)) (by decide)
    refine t_aload4 dL_passes_89 ?_
    refine t_iload5 dL_passes_91 ?_
    refine t_aload0 dL_passes_93 ?_
    refine t_iload1 dL_passes_94 ?_
    refine t_iload5 dL_passes_95 ?_
    refine w_callV2T (show NN ≤ NN + 1 + 1 + 1 by decide) hJ7 (Q_if2 (l := l) hlt hJ7 h1 h48) rfl ft4 rfl mc_X4_ifPassed ml_L_56 mi_X4_ifPassed ms_X4_ifPassed in_X4 (okc_X4_ifPassed (by decide)) dL_passes_97 kdT (cat_le (Nat.le_of_ble_eq_true rfl)) (fun zi97 zr97 hI8 => ?_)
    refine pw_iast9v (k := NN + 1 + 1) (j := 2) dL_passes_100 kd242 (by decide) rfl (by rw [show al (NN + 1 + 1) = _ from al242]; first | decide | omega) (by rw [show al (NN + 1 + 1) = _ from al242]; decide) ?_
    have hJ9 := hI8.arr (o := 242) (j := 2) (x := ((hsS N S).1 2 - S.1 2)) (by decide)
    refine t_iinc5 (1) dL_passes_101 (by decide) (by exact Nat.le_of_ble_eq_true rfl) okp_r ?_
    rw [show ((2 : Int32) + (1)) = 3 by decide]
    refine pw_goto 43 dL_passes_104 (by decide) ?_
    refine t_iload5 dL_passes_43 ?_
    refine pw_iconst (4) dL_passes_45 (by decide) ?_
    refine pw_icmp_ge 107 dL_passes_46 (by decide) (fun h => absurd h (by decide)) (fun _ => ?_)
    refine t_aload2 dL_passes_49 ?_
    refine t_iload5 dL_passes_50 ?_
    refine t_aload0 dL_passes_52 ?_
    refine t_iload5 dL_passes_53 ?_
    refine pw_if_ne 63 dL_passes_55 (by decide) (fun _ => ?_) (fun h => absurd (by decide) h)
    refine t_iload5 dL_passes_63 ?_
    refine pw_iconst (1) dL_passes_65 (by decide) ?_
    refine pw_icmp_ne 74 dL_passes_66 (by decide) (fun _ => ?_) (fun h => absurd (by decide) h)
    refine t_iload5 dL_passes_74 ?_
    refine pw_iconst (2) dL_passes_76 (by decide) ?_
    refine pw_icmp_ne 84 dL_passes_77 (by decide) (fun _ => ?_) (fun h => absurd (by decide) h)
    refine pw_iconst (4) dL_passes_84 (by decide) ?_
    refine w_callV1P (show NN ≤ NN + 1 + 1 + 1 by decide) (Q_count (l := l) hlt hJ9 (a := 4) (v := 4) rfl (by decide) (y := S.1 4) rfl) rfl ft4 rfl mc_X4_count ml_L_19 mi_X4_count ms_X4_count in_X4 (okc_X4_count (by decide)) dL_passes_85 kdT (cat_le (Nat.le_of_ble_eq_true rfl)) ?_
    refine pw_iast9v (k := NN) (j := 3) dL_passes_88 kd240 (by decide) rfl (by rw [show al (NN) = _ from al240]; first | decide | omega) (by rw [show al (NN) = _ from al240]; decide) ?_
    have hJ10 := hJ9.arr (o := 240) (j := 3) (x := (S.1 4)) (by decide)
    refine t_aload4 dL_passes_89 ?_
    refine t_iload5 dL_passes_91 ?_
    refine t_aload0 dL_passes_93 ?_
    refine t_iload1 dL_passes_94 ?_
    refine t_iload5 dL_passes_95 ?_
    refine w_callV2T (show NN ≤ NN + 1 + 1 + 1 by decide) hJ10 (Q_if3 (l := l) hlt hJ10 h1 h48) rfl ft4 rfl mc_X4_ifPassed ml_L_56 mi_X4_ifPassed ms_X4_ifPassed in_X4 (okc_X4_ifPassed (by decide)) dL_passes_97 kdT (cat_le (Nat.le_of_ble_eq_true rfl)) (fun zi97 zr97 hI11 => ?_)
    refine pw_iast9v (k := NN + 1 + 1) (j := 3) dL_passes_100 kd242 (by decide) rfl (by rw [show al (NN + 1 + 1) = _ from al242]; first | decide | omega) (by rw [show al (NN + 1 + 1) = _ from al242]; decide) ?_
    have hJ12 := hI11.arr (o := 242) (j := 3) (x := ((hsS N S).1 4 - S.1 4)) (by decide)
    refine t_iinc5 (1) dL_passes_101 (by decide) (by exact Nat.le_of_ble_eq_true rfl) okp_r ?_
    rw [show ((3 : Int32) + (1)) = 4 by decide]
    refine pw_goto 43 dL_passes_104 (by decide) ?_
    refine t_iload5 dL_passes_43 ?_
    refine pw_iconst (4) dL_passes_45 (by decide) ?_
    refine pw_icmp_ge 107 dL_passes_46 (by decide) (fun _ => ?_) (fun h => absurd (by decide) h)
    exact tail _ _ _ _ _ _ _ _ _ hJ12 ⟨⟨by simp [ui_ap], by simp [ui_ap], by simp [ui_ap], by simp [ui_ap]⟩, ⟨by simp [ui_ap], by simp [ui_ap], by simp [ui_ap], by simp [ui_ap]⟩, fun j hj => by simp [ui_ap]; exact ht j hj⟩
  have loopA : ∀ (r k : Nat) (A : TI) (R : TP) (im : TI) (rm : TP), k + r = 5 → TS (A, R) S n T sn bl B im rm → (∀ j, j < k → A 241 j = S.2.1 j 7) → PW l m_L_passes 10 0 0 (NN + 1 + 1 + 1) 16 [some (pv (some 0)), some (.int (nI N)), some (pv (some NN)), some (pv (some (NN + 1))), some (pv (some (NN + 1 + 1))), some (.int (nI k)), none, none] [] im rm lm (fun N' v i r q => N' = NN + 1 + 1 + 1 ∧ v = some (.int 1) ∧ q = lm ∧ ∃ A R n T, TS (A, R) (hsS N S) n T sn bl B i r) noX := by
    intro r
    induction r with
    | zero =>
      intro k A R im rm hk hTS ht
      refine t_iload5 dL_passes_16 ?_
      refine pw_iconst (5) dL_passes_18 (by decide) ?_
      refine pw_icmp_ge 40 dL_passes_19 (by decide) (fun _ => ?_) (fun zz => absurd (show (5 : Int32) ≤ nI k from nI_le (a := 5) (by omega) (by omega)) zz)
      refine pw_iconst (0) dL_passes_40 (by decide) ?_
      refine t_istore5 dL_passes_41 (by exact Nat.le_of_ble_eq_true rfl) okp_r ?_
      exact loopB _ _ _ _ _ _ hTS fun j hj => ht j (by omega)
    | succ r ih =>
      intro k A R im rm hk hTS ht
      have hk5 : k < 5 := by omega
      refine t_iload5 dL_passes_16 ?_
      refine pw_iconst (5) dL_passes_18 (by decide) ?_
      refine pw_icmp_ge 40 dL_passes_19 (by decide) (fun zz => absurd zz (nI_ge (b := 5) (a := k) hk5 (by decide))) (fun _ => ?_)
      refine t_aload3 dL_passes_22 ?_
      refine t_iload5 dL_passes_23 ?_
      refine t_aload0 dL_passes_25 ?_
      refine t_iload5 dL_passes_26 ?_
      refine pw_bipush (9) dL_passes_28 (by decide) ?_
      refine w_callV2P (show NN ≤ NN + 1 + 1 + 1 by decide) (Q_mill (l := l) hlt hTS (m := k) (x := nI k) (a := 9) (v := 9) hk5 rfl rfl (by decide) (y := S.2.1 k 7) rfl) rfl ft4 rfl mc_X4_mill ml_L_10 mi_X4_mill ms_X4_mill in_X4 (okc_X4_mill (by decide)) dL_passes_30 kdT (cat_le (Nat.le_of_ble_eq_true rfl)) ?_
      refine pw_iast9v (k := NN + 1) (j := k) dL_passes_33 kd241 (by decide) rfl (by rw [show al (NN + 1) = _ from al241]; first | decide | omega) (by rw [show al (NN + 1) = _ from al241]; decide) ?_
      have hT1 := hTS.arr (o := 241) (j := k) (x := (S.2.1 k 7)) (by decide)
      refine t_iinc5 (1) dL_passes_34 (by decide) (by exact Nat.le_of_ble_eq_true rfl) okp_r ?_
      refine pw_goto 16 dL_passes_37 (by decide) ?_
      rw [nI_1]
      refine ih (k + 1) _ _ _ _ (by omega) hT1 fun j hj => ?_
      rw [ui_ap]
      by_cases e : j = k
      · subst e; exact if_pos ⟨rfl, rfl⟩
      · rw [if_neg fun z => e z.2]; exact ht j (by omega)
  refine PW.nrm hTS.fz.2.2 hTS.h80 ?_
  have hF := hTS.fs hl
  have hTn := hTS.nrm31
  refine pw_iconst (5) dL_passes_0 (by decide) ?_
  refine PW.room (mc' := 2 + 1) (ms' := 9 + al (NN)) (by decide) (by rw [show al (NN) = _ from al240]; decide) ?_
  refine pw_newi9 dL_passes_1 kd240 (by decide) (by rw [show al (NN) = _ from al240]; decide) (by rw [show al (NN) = _ from al240]; decide) (by decide) hF noXe (okL_s (okr (by decide)) (okL_s trivial (okL_n (okL_n (okL_n (okL_n (okL_n (okL_n okL_z)))))))) okS_z ?_
  have hF := hF.up (N2 := NN + 1) (Nat.le_succ _)
  refine t_astore2 (x := some (NN)) dL_passes_3 (by decide) okp_i ?_
  refine pw_iconst (5) dL_passes_4 (by decide) ?_
  refine PW.room (mc' := 1 + 1) (ms' := 4 + al (NN + 1)) (by decide) (by rw [show al (NN + 1) = _ from al241]; decide) ?_
  refine pw_newi9 dL_passes_5 kd241 (by decide) (by rw [show al (NN + 1) = _ from al241]; decide) (by rw [show al (NN + 1) = _ from al241]; decide) (by decide) hF noXe (okL_s (okr (by decide)) (okL_s trivial (okL_s (okr (by decide)) (okL_n (okL_n (okL_n (okL_n (okL_n okL_z)))))))) okS_z ?_
  have hF := hF.up (N2 := NN + 1 + 1) (Nat.le_succ _)
  refine t_astore3 (x := some (NN + 1)) dL_passes_7 (by decide) okp_r ?_
  refine pw_iconst (4) dL_passes_8 (by decide) ?_
  refine PW.room (mc' := 0 + 1) (ms' := 0 + al (NN + 1 + 1)) (by decide) (by rw [show al (NN + 1 + 1) = _ from al242]; decide) ?_
  refine pw_newi9 dL_passes_9 kd242 (by decide) (by rw [show al (NN + 1 + 1) = _ from al242]; decide) (by rw [show al (NN + 1 + 1) = _ from al242]; decide) (by decide) hF noXe (okL_s (okr (by decide)) (okL_s trivial (okL_s (okr (by decide)) (okL_s (okr (by decide)) (okL_n (okL_n (okL_n (okL_n okL_z)))))))) okS_z ?_
  have hF := hF.up (N2 := NN + 1 + 1 + 1) (Nat.le_succ _)
  refine t_astore4 (x := some (NN + 1 + 1)) dL_passes_11 (by decide) okp_r ?_
  refine pw_iconst (0) dL_passes_13 (by decide) ?_
  refine t_istore5 dL_passes_14 (by exact Nat.le_of_ble_eq_true rfl) okp_r ?_
  exact loopA 5 0 _ _ _ _ rfl hTn fun j hj => absurd hj (Nat.not_lt_zero _)
theorem H_passes {l : Launch} (hlt : l.stackTraces = false) {im : TI} {rm : TP} {lm : TL} {S : CS} {n : Nat} {T : Nat → CS} {sn : Option CS} {bl : Nat} {B : Nat → Int32} (hTS : TS (fun _ _ => 0, fun _ _ => none) S n T sn bl B im rm) (hl : lm = fun _ _ => 0) {N : Nat} (hN : 1 ≤ N ∧ N ≤ 48) : Con l m_L_passes 10 3 14 NN [pv (some 0), .int (nI N)] im rm lm (QK lm (fun _ _ => 0, fun _ _ => none) (hsS N S) sn bl B) noX := by
  refine Con.shrink (H_passes0 hlt hTS hl hN) fun N' v i r q h => ?_
  obtain ⟨rfl, rfl, rfl, A, R, n2, T2, h4⟩ := h
  exact ⟨by decide, ⟨_, rfl⟩, h4.fz.2.2, h4.h80, rfl, rfl, rfl, n2, T2, h4.cut⟩

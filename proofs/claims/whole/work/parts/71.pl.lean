/-! TideMills: the parts of a text, play -/
def frD (im im2 : TI) : Prop := ∀ o, (o < 1 ∨ 26 < o) → o ≠ 238 → o ≠ 239 → im2 o = im o
theorem dpf_do {S : CS} {im : TI} {r : PTT} (hP : PR r) (h0 : im 238 0 = nI r.1) (h1 : nuI im 0 = nI r.2.1) (h2 : r.1 = 43 ∨ (nuI im 1 = nI r.2.2.1 ∧ nuI im 2 = nI r.2.2.2)) : dpf S im = doP S r := by
  unfold dpf doP
  rw [h0, h1]
  rcases hP with ⟨e, g1, g2⟩ | ⟨e, g1, g2, g3⟩ | ⟨e, g1, g2, g3⟩
  · rw [e, if_pos (by decide), if_pos rfl, nI_clamp (by omega)]
  · obtain ⟨h2, h3⟩ := h2.resolve_left (by omega)
    rw [e, if_neg (by decide), if_neg (by decide), maO_nI g1, if_pos rfl, h2, h3]
    dsimp only
    rw [if_pos (by decide)]
  · obtain ⟨h2, h3⟩ := h2.resolve_left (by omega)
    rw [e, if_neg (by decide), if_neg (by decide), if_neg (by decide), maO_nI g1, h2, h3]
    dsimp only
    rw [if_neg (by decide)]
set_option maxHeartbeats 4000000 in
set_option maxRecDepth 100000 in
theorem C_doParts {l : Launch} (hlt : l.stackTraces = false) {im : TI} {rm : TP} {lm : TL} {S : CS} (hT : RT rm) (hC : RC rm) (hR : CR 1 S im) (hW : WF S) {b : Nat → Nat} {bl : Nat} (hL : im 0 6 = nI bl) (hbl : bl ≤ 60) (hB : ∀ j, j < bl → im 237 j = nI (b j) ∧ b j < 128) (hv : (vt b bl (bl + 1) 0).1 = true) : Con l m_X4_doParts 6 0 0 NN [pv (some 0)] im rm lm (QI (fun x im2 => x = nI (py b bl (bl + 1) 0 0 S).1 ∧ CR 1 (py b bl (bl + 1) 0 0 S).2 im2 ∧ WF (py b bl (bl + 1) 0 0 S).2 ∧ frD im im2) rm lm) noX := by
  have hk0 := kdT
  have hkr := kdR
  have hkb := kdB
  obtain ⟨t0, t1, t2, t4, t5, t7, t8⟩ := id hT
  refine Con.ofN (k := 2) (L0 := [some (pv (some 0)), none, none]) hlt (by decide +kernel) rfl rfl (by rw [en1 pv_cat, en0]; exact Nat.le_of_ble_eq_true rfl) (by rw [en1 pv_cat, en0]; rfl) ?_
  have exit : ∀ (k : Nat) (Sk : CS) (imk : TI), CR 1 Sk imk → WF Sk → frD im imk → py b bl (bl + 1) 0 0 S = (k, Sk) → PW l m_X4_doParts 6 0 0 NN 11 [some (pv (some 0)), some (.int (nI (k))), some (.int (nI (bl + 1)))] [] imk rm lm (QI (fun x im2 => x = nI (py b bl (bl + 1) 0 0 S).1 ∧ CR 1 (py b bl (bl + 1) 0 0 S).2 im2 ∧ WF (py b bl (bl + 1) 0 0 S).2 ∧ frD im im2) rm lm) noX := by
    intro k Sk imk hRk hWk hfr hf
    refine t_iload2 dX4_doParts_11 ?_
    refine t_aload0 dX4_doParts_12 ?_
    refine g_geti ft4 fl_X4_37 (j := 6) (by decide) dX4_doParts_13 (by assumption) ?_
    rw [(congrFun (hfr 0 (Or.inl (by decide)) (by decide) (by decide)) 6).trans hL]
    refine pw_icmp_gt 89 dX4_doParts_16 (by decide) (fun zc16 => ?_) (fun zc16 => ?_)
    · refine t_iload1 dX4_doParts_89 ?_
      refine pw_iret dX4_doParts_90 rfl ?_
      exact ⟨rfl, rfl, rfl, _, rfl, by rw [hf], by rw [hf]; exact hRk, by rw [hf]; exact hWk, hfr⟩
    · exact absurd ((nI_ltI (by omega) (by omega)).mpr (Nat.lt_succ_self bl)) zc16
  have outer : ∀ (n p k : Nat) (Sk : CS) (im0 : TI), p ≤ bl → bl + 1 ≤ n + p → (vt b bl n p).1 = true → BG im0 → CR 1 Sk im0 → WF Sk → frD im im0 → py b bl (bl + 1) 0 0 S = py b bl n p k Sk → PW l m_X4_doParts 6 0 0 NN 11 [some (pv (some 0)), some (.int (nI (k))), some (.int (nI (p)))] [] im0 rm lm (QI (fun x im2 => x = nI (py b bl (bl + 1) 0 0 S).1 ∧ CR 1 (py b bl (bl + 1) 0 0 S).2 im2 ∧ WF (py b bl (bl + 1) 0 0 S).2 ∧ frD im im2) rm lm) noX := by
    intro n
    induction n using Nat.strongRecOn with
    | _ n ih =>
      intro p k Sk im0 hpb hnb hv0 hBG hRk hWk hfr hf
      obtain ⟨n', rfl⟩ : ∃ n', n = n' + 1 := ⟨n - 1, by omega⟩
      obtain ⟨hok, hst⟩ := vt_step hv0
      obtain ⟨hp1, hPR⟩ := rdP_ok hok
      obtain ⟨im1, ⟨g1, g2, g3, g4⟩, h1, h2, h3, h4⟩ := sim_part hB hbl hpb hBG
      obtain ⟨n0, n1, n2⟩ := h4 hok
      have f1 : ∀ o, o ≠ 238 → o ≠ 239 → im1 o = im0 o := fun o a c => by rw [← g3]; exact rnI_fr a c _ _
      have hR1 : CR 1 Sk im1 := hRk.keep fun o a c => f1 o (by omega) (by omega)
      have hfr1 : frD im im1 := fun o a c e => (f1 o c e).trans (hfr o a c e)
      have hdp : dpf Sk im1 = doP Sk (rdP b bl p).2.2 := dpf_do hPR n0 n1 n2
      have h43 : im1 238 0 = 43 → ∃ N, N < 2 ^ 31 ∧ nuI im1 0 = nI N := fun _ => ⟨_, by rcases hPR with z | z | z <;> omega, n1⟩
      have hs5 : ¬ Sk.1 5 = -1 := by obtain ⟨-, -, -, c, g, la, k1, k2, -⟩ := hWk.2.1; rw [k2]; exact nI_m1 (by omega)
      have at64 : PW l m_X4_doParts 6 0 0 NN 64 [some (pv (some 0)), some (.int (nI (k))), some (.int (nI ((rdP b bl p).2.1)))] [] im1 rm lm (QI (fun x im2 => x = nI (py b bl (bl + 1) 0 0 S).1 ∧ CR 1 (py b bl (bl + 1) 0 0 S).2 im2 ∧ WF (py b bl (bl + 1) 0 0 S).2 ∧ frD im im2) rm lm) noX := by
        rcases hdo : doP Sk (rdP b bl p).2.2 with _ | S2
        · refine t_aload0 dX4_doParts_64 ?_
          refine g_callV0I (C_doPart (l := l) hlt hT hC hR1 hWk.1.1 h43 hs5) rfl ft4 rfl mc_X4_doPart ml_X4_279 mi_X4_doPart ms_X4_doPart in_X4 (okc_X4_doPart (by decide)) dX4_doParts_65 (by assumption) (cat_le (Nat.le_of_ble_eq_true rfl)) (fun zx65 zim65 zh65 => ?_)
          rw [hdp, hdo] at zh65
          refine pw_if_ne 73 dX4_doParts_68 (by decide) (fun zc68 => ?_) (fun zc68 => ?_)
          · exact absurd (zh65.1 rfl).1 zc68
          · refine t_iload1 dX4_doParts_71 ?_
            refine pw_iret dX4_doParts_72 rfl ?_
            obtain ⟨zx, rfl⟩ := zh65.1 rfl
            exact ⟨rfl, rfl, rfl, _, rfl, by rw [hf, py, hdo], by rw [hf, py, hdo]; exact hR1, by rw [hf, py, hdo]; exact hWk, hfr1⟩
        · refine t_aload0 dX4_doParts_64 ?_
          refine g_callV0I (C_doPart (l := l) hlt hT hC hR1 hWk.1.1 h43 hs5) rfl ft4 rfl mc_X4_doPart ml_X4_279 mi_X4_doPart ms_X4_doPart in_X4 (okc_X4_doPart (by decide)) dX4_doParts_65 (by assumption) (cat_le (Nat.le_of_ble_eq_true rfl)) (fun zx65 zim65 zh65 => ?_)
          rw [hdp, hdo] at zh65
          refine pw_if_ne 73 dX4_doParts_68 (by decide) (fun zc68 => ?_) (fun zc68 => ?_)
          · refine t_iinc1 (1) dX4_doParts_73 (by decide) (by decide) okp_r ?_
            refine t_aload0 dX4_doParts_76 ?_
            refine g_getr ft4 fl_X4_44 (j := 7) (by decide) dX4_doParts_77 (by assumption) (by assumption) ?_
            refine g_callV0V (C_rBeg (l := l) hlt t8) rfl ft3 rfl mc_X3_begin ml_X4_272 mi_X3_begin ms_X3_begin in_X3 (okc_X3_begin (by decide)) dX4_doParts_80 (by assumption) (cat_le (Nat.le_of_ble_eq_true rfl)) (fun zim80 zh80 => ?_)
            rw [show zim80 = beM zim65 from zh80]
            refine t_iinc2 (1) dX4_doParts_83 (by decide) (by decide) okp_i ?_
            refine pw_goto 11 dX4_doParts_86 (by decide) ?_
            rw [nI_1, nI_1]
            obtain ⟨zx1, zR2, zf2⟩ := zh65.2 S2 rfl
            have zW2 := hWk.do hPR hdo
            have zR3 : CR 1 S2 (beM zim65) := zR2.keep fun o a c => beM_fr (by omega) (by omega)
            have zf3 : frD im (beM zim65) := fun o a c e => by rw [beM_fr c e, zf2 o (by omega)]; exact hfr1 o a c e
            by_cases he : (rdP b bl p).2.1 = bl
            · rw [he]
              exact exit (k + 1) S2 _ zR3 zW2 zf3 (by rw [hf, py, hdo]; dsimp only; rw [if_pos he])
            · obtain ⟨q1, q2, q3⟩ := hst.resolve_left he
              exact ih n' (by omega) ((rdP b bl p).2.1 + 1) (k + 1) S2 _ (by omega) (by omega) q3 beM_BG zR3 zW2 zf3 (by rw [hf, py, hdo]; dsimp only; rw [if_neg he])
          · exact absurd (Classical.not_not.mp zc68) (by rw [(zh65.2 S2 rfl).1]; decide)
      have inner : ∀ (m q : Nat), q + m = (rdP b bl p).2.1 → p ≤ q → PW l m_X4_doParts 6 0 0 NN 11 [some (pv (some 0)), some (.int (nI (k))), some (.int (nI (q)))] [] (rnI (im 237) p (q - p) im0) rm lm (QI (fun x im2 => x = nI (py b bl (bl + 1) 0 0 S).1 ∧ CR 1 (py b bl (bl + 1) 0 0 S).2 im2 ∧ WF (py b bl (bl + 1) 0 0 S).2 ∧ frD im im2) rm lm) noX := by
        intro m
        induction m with
        | zero =>
          intro q hq hpq
          have hM0 : ∀ o, o ≠ 238 → o ≠ 239 → (rnI (im 237) p (q - p) im0) o = im0 o := fun o a c => rnI_fr a c _ _
          have hb6 : (rnI (im 237) p (q - p) im0) 0 6 = nI bl := by rw [hM0 0 (by decide) (by decide), hfr 0 (Or.inl (by decide)) (by decide) (by decide)]; exact hL
          have hbu : (rnI (im 237) p (q - p) im0) 237 = im 237 := by rw [hM0 237 (by decide) (by decide), hfr 237 (Or.inr (by decide)) (by decide) (by decide)]
          have eq : q = (rdP b bl p).2.1 := by omega
          have g3M : PW l m_X4_doParts 6 0 0 NN 64 [some (pv (some 0)), some (.int (nI (k))), some (.int (nI (q)))] [] (rnI (im 237) p (q - p) im0) rm lm (QI (fun x im2 => x = nI (py b bl (bl + 1) 0 0 S).1 ∧ CR 1 (py b bl (bl + 1) 0 0 S).2 im2 ∧ WF (py b bl (bl + 1) 0 0 S).2 ∧ frD im im2) rm lm) noX := by
            rw [eq, g3]; exact at64
          refine t_iload2 dX4_doParts_11 ?_
          refine t_aload0 dX4_doParts_12 ?_
          refine g_geti ft4 fl_X4_37 (j := 6) (by decide) dX4_doParts_13 (by assumption) ?_
          rw [hb6]
          refine pw_icmp_gt 89 dX4_doParts_16 (by decide) (fun zc16 => ?_) (fun zc16 => ?_)
          · exact absurd ((nI_ltI (by omega) (by omega)).mp zc16) (by omega)
          · refine t_iload2 dX4_doParts_19 ?_
            refine t_aload0 dX4_doParts_20 ?_
            refine g_geti ft4 fl_X4_37 (j := 6) (by decide) dX4_doParts_21 (by assumption) ?_
            rw [hb6]
            refine pw_icmp_ge 64 dX4_doParts_24 (by decide) (fun zc24 => ?_) (fun zc24 => ?_)
            · exact g3M
            · have hqb : q < bl := (nI_ltI (by omega) (by omega)).mp (Int32.not_le.mp zc24)
              refine t_iload2 dX4_doParts_27 ?_
              refine t_aload0 dX4_doParts_28 ?_
              refine g_getr ft4 fl_X4_33 (j := 5) (by decide) dX4_doParts_29 (by assumption) (by assumption) ?_
              refine g_alen dX4_doParts_32 (by assumption) (by rw [alB]) ?_
              refine pw_icmp_ge 64 dX4_doParts_33 (by decide) (fun zc33 => ?_) (fun zc33 => ?_)
              · exact absurd ((nI_leI (a := 60) (by decide) (by omega)).mp zc33) (by omega)
              · refine t_aload0 dX4_doParts_36 ?_
                refine g_getr ft4 fl_X4_33 (j := 5) (by decide) dX4_doParts_37 (by assumption) (by assumption) ?_
                refine t_iload2 dX4_doParts_40 ?_
                refine g_iald dX4_doParts_41 (by assumption) (by rw [al_eq]; exact vin_nI (by show q < 60; omega) (by decide)) ?_
                rw [nI_clamp (by omega), hbu, (hB q hqb).1]
                refine pw_bipush (59) dX4_doParts_42 (by decide) ?_
                refine pw_icmp_eq 64 dX4_doParts_44 (by decide) (fun zc44 => ?_) (fun zc44 => ?_)
                · exact g3M
                · exact absurd ((hst.resolve_left (by omega)).2.1) (fun z => zc44 (by rw [eq, z]; rfl))
        | succ m ihm =>
          intro q hq hpq
          have hM0 : ∀ o, o ≠ 238 → o ≠ 239 → (rnI (im 237) p (q - p) im0) o = im0 o := fun o a c => rnI_fr a c _ _
          have hb6 : (rnI (im 237) p (q - p) im0) 0 6 = nI bl := by rw [hM0 0 (by decide) (by decide), hfr 0 (Or.inl (by decide)) (by decide) (by decide)]; exact hL
          have hbu : (rnI (im 237) p (q - p) im0) 237 = im 237 := by rw [hM0 237 (by decide) (by decide), hfr 237 (Or.inr (by decide)) (by decide) (by decide)]
          have hqb : q < bl := by omega
          refine t_iload2 dX4_doParts_11 ?_
          refine t_aload0 dX4_doParts_12 ?_
          refine g_geti ft4 fl_X4_37 (j := 6) (by decide) dX4_doParts_13 (by assumption) ?_
          rw [hb6]
          refine pw_icmp_gt 89 dX4_doParts_16 (by decide) (fun zc16 => ?_) (fun zc16 => ?_)
          · exact absurd ((nI_ltI (by omega) (by omega)).mp zc16) (by omega)
          · refine t_iload2 dX4_doParts_19 ?_
            refine t_aload0 dX4_doParts_20 ?_
            refine g_geti ft4 fl_X4_37 (j := 6) (by decide) dX4_doParts_21 (by assumption) ?_
            rw [hb6]
            refine pw_icmp_ge 64 dX4_doParts_24 (by decide) (fun zc24 => ?_) (fun zc24 => ?_)
            · exact absurd ((nI_leI (by omega) (by omega)).mp zc24) (by omega)
            · refine t_iload2 dX4_doParts_27 ?_
              refine t_aload0 dX4_doParts_28 ?_
              refine g_getr ft4 fl_X4_33 (j := 5) (by decide) dX4_doParts_29 (by assumption) (by assumption) ?_
              refine g_alen dX4_doParts_32 (by assumption) (by rw [alB]) ?_
              refine pw_icmp_ge 64 dX4_doParts_33 (by decide) (fun zc33 => ?_) (fun zc33 => ?_)
              · exact absurd ((nI_leI (a := 60) (by decide) (by omega)).mp zc33) (by omega)
              · refine t_aload0 dX4_doParts_36 ?_
                refine g_getr ft4 fl_X4_33 (j := 5) (by decide) dX4_doParts_37 (by assumption) (by assumption) ?_
                refine t_iload2 dX4_doParts_40 ?_
                refine g_iald dX4_doParts_41 (by assumption) (by rw [al_eq]; exact vin_nI (by show q < 60; omega) (by decide)) ?_
                rw [nI_clamp (by omega), hbu, (hB q hqb).1]
                refine pw_bipush (59) dX4_doParts_42 (by decide) ?_
                refine pw_icmp_eq 64 dX4_doParts_44 (by decide) (fun zc44 => ?_) (fun zc44 => ?_)
                · exact absurd ((nI_eq (b := 59) (by have := (hB q hqb).2; omega) (by decide)).mp zc44) (g4 q hpq (by omega))
                · refine t_aload0 dX4_doParts_47 ?_
                  refine g_getr ft4 fl_X4_44 (j := 7) (by decide) dX4_doParts_48 (by assumption) (by assumption) ?_
                  refine t_aload0 dX4_doParts_51 ?_
                  refine g_getr ft4 fl_X4_33 (j := 5) (by decide) dX4_doParts_52 (by assumption) (by assumption) ?_
                  refine t_iload2 dX4_doParts_55 ?_
                  refine g_iald dX4_doParts_56 (by assumption) (by rw [al_eq]; exact vin_nI (by show q < 60; omega) (by decide)) ?_
                  rw [nI_clamp (by omega), hbu, (hB q hqb).1]
                  refine g_callV1I (C_rTake (l := l) hlt t8) rfl ft3 rfl mc_X3_take ml_X4_275 mi_X3_take ms_X3_take in_X3 (okc_X3_take (by decide)) dX4_doParts_57 (by assumption) (cat_le (Nat.le_of_ble_eq_true rfl)) (fun zx57 zim57 zh57 => ?_)
                  have hz : zim57 = rnI (im 237) p (q + 1 - p) im0 := by
                    rw [show q + 1 - p = (q - p) + 1 by omega, rnI, show p + (q - p) = q by omega, (hB q hqb).1]
                    exact congrArg Prod.snd zh57
                  subst hz
                  refine pw_pop dX4_doParts_60 rfl ?_
                  refine pw_goto 83 dX4_doParts_61 (by decide) ?_
                  refine t_iinc2 (1) dX4_doParts_83 (by decide) (by decide) okp_i ?_
                  refine pw_goto 11 dX4_doParts_86 (by decide) ?_
                  rw [nI_1]
                  exact ihm (q + 1) (by omega) (by omega)
      have h0 := inner ((rdP b bl p).2.1 - p) p (by omega) (Nat.le_refl _)
      rw [Nat.sub_self] at h0
      exact h0
  refine pw_iconst (0) dX4_doParts_0 (by decide) ?_
  refine t_istore1 dX4_doParts_1 (by decide) okp_r ?_
  refine t_aload0 dX4_doParts_2 ?_
  refine g_getr ft4 fl_X4_44 (j := 7) (by decide) dX4_doParts_3 (by assumption) (by assumption) ?_
  refine g_callV0V (C_rBeg (l := l) hlt t8) rfl ft3 rfl mc_X3_begin ml_X4_272 mi_X3_begin ms_X3_begin in_X3 (okc_X3_begin (by decide)) dX4_doParts_6 (by assumption) (cat_le (Nat.le_of_ble_eq_true rfl)) (fun zim6 zh6 => ?_)
  rw [show zim6 = beM im from zh6]
  refine pw_iconst (0) dX4_doParts_9 (by decide) ?_
  refine t_istore2 dX4_doParts_10 (by decide) okp_i ?_
  exact outer (bl + 1) 0 0 S _ (Nat.zero_le _) (by omega) hv beM_BG (hR.keep fun o a c => beM_fr (by omega) (by omega)) hW (fun o a c e => beM_fr c e) rfl

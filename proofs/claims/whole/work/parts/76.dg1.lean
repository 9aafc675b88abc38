/-! The digest, the class's way -/
/-- numbers mixed in, n of them from k on -/
def mxN (g : Nat → Int64) : Nat → Nat → Int64 → Int64
  | 0, _, h => h
  | n + 1, k, h => mxN g n (k + 1) (31 * h + g k)
def mxK (S : CS) (m : Nat) : Nat → Nat → Int64 → Int64
  | 0, _, h => h
  | n + 1, p, h => mxK S m n (p + 1) (31 * (31 * h + (S.2.2 m p 0).toInt64) + (S.2.2 m p 2).toInt64)
def wmS (S : CS) (m : Nat) (h : Int64) : Int64 :=
  31 * (31 * mxK S m (cnt S m) 0 (31 * mxN (fun w => (mlS S m w).toInt64) 11 0 h + (rsF S m).toInt64) + (if cnt S m = 0 then (-1 : Int32) else oI (gbS S (S.2.2 m 0 0))).toInt64) + (bsS S m).toInt64
def wbS (S : CS) (N v : Nat) : Int32 := if v = 0 then (hsS N S).1 6 - S.1 6 else if v = 1 then (hsS N S).1 7 - S.1 7 else if v = 2 then (hsS N S).1 2 - S.1 2 else (hsS N S).1 4 - S.1 4
def d1S (S : CS) (n : Nat) : Int64 := mxN (fun w => (alS S n w).toInt64) 15 0 3659
def d2S (S : CS) (h : Int64) : Int64 := wmS S 4 (wmS S 3 (wmS S 2 (wmS S 1 (wmS S 0 h))))
def d3S (S : CS) (h : Int64) : Int64 := 31 * mxN (fun r => (oI (rkS S r)).toInt64) 5 0 (mxN (fun k => (tdF S (nI k)).toInt64) 12 0 h) + (oI (chS S)).toInt64
def d4S (S : CS) (h : Int64) : Int64 := 31 * mxN (fun v => (wbS S 12 v).toInt64) 4 0 h + btS (shD S)
def d5S (bl : Nat) (B : Nat → Int32) (h : Int64) : Int64 := mxN (fun j => (B j).toInt64) bl 0 (31 * h + (nI bl).toInt64)
def dgS (S : CS) (n bl : Nat) (B : Nat → Int32) : Int64 := d5S bl B (d4S S (d3S S (d2S S (d1S S n))))
theorem at_n {c m p k : Nat} {S : CS} {im : TI} (hR : CR c S im) (hI : CI S) (hm : m < 5) (hp : p < cnt S m) : (¬ nI p < 0 ∧ nI p < im (mA c m) 11 ∧ nI p < 6) ∧ (nI p).toNatClampNeg = p ∧ p < 6 := by
  have hc := hI.c hm
  exact ⟨⟨nI_pos (by omega), by rw [w11 hR hm, hc.2]; exact (nI_ltI (by omega) (by omega)).mpr hp, (nI_ltI (b := 6) (by omega) (by decide)).mpr (by omega)⟩, nI_clamp (by omega), by omega⟩
theorem at_num {c m p : Nat} {S : CS} {im : TI} (hR : CR c S im) (hI : CI S) (hm : m < 5) (hp : p < cnt S m) : (if ¬ nI p < 0 ∧ nI p < im (mA c m) 11 ∧ nI p < 6 then im (mA c m + 1) (nI p).toNatClampNeg else -1) = S.2.2 m p 0 := by
  obtain ⟨h1, h2, h3⟩ := at_n (k := 0) hR hI hm hp
  rw [if_pos h1, h2]
  exact ((hR.2 m hm).2.2 p h3).1
theorem at_rst {c m p : Nat} {S : CS} {im : TI} (hR : CR c S im) (hI : CI S) (hm : m < 5) (hp : p < cnt S m) : (if ¬ nI p < 0 ∧ nI p < im (mA c m) 11 ∧ nI p < 6 then im (mA c m + 3) (nI p).toNatClampNeg else -1) = S.2.2 m p 2 := by
  obtain ⟨h1, h2, h3⟩ := at_n (k := 0) hR hI hm hp
  rw [if_pos h1, h2]
  exact ((hR.2 m hm).2.2 p h3).2.2.1
theorem at_no {c m : Nat} {S : CS} {im : TI} (hR : CR c S im) (hI : CI S) (hm : m < 5) (h0 : cnt S m = 0) : (if ¬ nI 0 < 0 ∧ nI 0 < im (mA c m) 11 ∧ nI 0 < 6 then im (mA c m + 1) (nI 0).toNatClampNeg else -1) = -1 := by
  rw [if_neg (fun z => by
    have := z.2.1
    rw [w11 hR hm, (hI.c hm).2, h0] at this
    exact absurd this (by decide))]
theorem at_num0 {c m : Nat} {S : CS} {im : TI} (hR : CR c S im) (hI : CI S) (hm : m < 5) (h0 : 0 < cnt S m) : (if ¬ (0 : Int32) < 0 ∧ (0 : Int32) < im (mA c m) 11 ∧ (0 : Int32) < 6 then im (mA c m + 1) (0 : Int32).toNatClampNeg else -1) = S.2.2 m 0 0 := at_num (p := 0) hR hI hm h0
theorem at_no0 {c m : Nat} {S : CS} {im : TI} (hR : CR c S im) (hI : CI S) (hm : m < 5) (h0 : cnt S m = 0) : (if ¬ (0 : Int32) < 0 ∧ (0 : Int32) < im (mA c m) 11 ∧ (0 : Int32) < 6 then im (mA c m + 1) (0 : Int32).toNatClampNeg else -1) = -1 := at_no hR hI hm h0
theorem WF.num {S : CS} (h : WF S) {m p : Nat} (hm : m < 5) (hp : p < cnt S m) : ¬ S.2.2 m p 0 = -1 := by
  obtain ⟨-, -, -, c, g, la, k1, k2, k3, -⟩ := h.2.1
  obtain ⟨q, q1, q2⟩ := k3 m p hm hp
  rw [q2]
  exact nI_m1 (by omega)
set_option maxHeartbeats 4000000 in
set_option maxRecDepth 100000 in
theorem C_withMill {l : Launch} (hlt : l.stackTraces = false) {im : TI} {rm : TP} {lm : TL} {S : CS} (hT : RT rm) (hC : RC rm) (hR : CR 1 S im) (hW : WF S) (hN : NB 27 im) {m : Nat} (hm : m < 5) {h : Int64} : Con l m_X4_withMill 6 0 0 NN [pv (some 0), .long (h), pv (some (mA 1 m))] im rm lm (QG (fun v i r q => v = some (.long (wmS S m h)) ∧ r = rm ∧ q = lm ∧ fr 27 im i ∧ NB 27 i)) noX := by
  have hk0 := kdT
  have hC1 := c1 hC
  have hk1 := hC1.1
  obtain ⟨t0, t1, t2, t4, t5, t7, t8⟩ := id hT
  have hI := hW.1.1
  have hkm := ck_of hC1 hm
  have hM := hC1.2.2.1 m hm
  have hc := hI.c hm
  refine Con.ofN (k := 3) (L0 := [some (pv (some 0)), some (.long (h)), none, some (pv (some (mA 1 m))), none, none, none]) hlt (by decide +kernel) rfl rfl (by rw [en1 pv_cat, en2 rfl, en1 pv_cat, en0]; exact Nat.le_of_ble_eq_true rfl) (by rw [en1 pv_cat, en2 rfl, en1 pv_cat, en0]; rfl) ?_
  have tail : ∀ (x : Int32), PW l m_X4_withMill 6 0 0 NN 104 [some (pv (some 0)), some (.long h), none, some (pv (some (mA 1 m))), some (.long (mxK S m (cnt S m) 0 (31 * mxN (fun w => (mlS S m w).toInt64) 11 0 h + (rsF S m).toInt64))), none, some (.int x)] [] im rm lm (QG (fun v i r q => v = some (.long (wmS S m h)) ∧ r = rm ∧ q = lm ∧ fr 27 im i ∧ NB 27 i)) noX := by
    intro x
    by_cases hc0 : cnt S m = 0
    · refine t_aload3 dX4_withMill_104 ?_
      refine pw_iconst (0) dX4_withMill_105 (by decide) ?_
      refine g_callV1P (C_numberAt (l := l) hlt hM) rfl ft2 rfl mc_X2_numberAt ml_X4_194 mi_X2_numberAt ms_X2_numberAt in_X2 (okc_X2_numberAt (by decide)) dX4_withMill_106 (by assumption) (cat_le (Nat.le_of_ble_eq_true rfl)) ?_
      rw [at_no0 hR hI hm hc0]
      refine t_istore6 dX4_withMill_109 (by decide) okp_n ?_
      refine pw_ldc2 k_X4_239 dX4_withMill_111 ?_
      refine t_lload4 dX4_withMill_114 ?_
      refine pw_lmul dX4_withMill_116 ?_
      refine t_iload6 dX4_withMill_117 ?_
      refine pw_iconst (-1) dX4_withMill_119 (by decide) ?_
      refine pw_icmp_ne 127 dX4_withMill_120 (by decide) (fun h => absurd h (by decide)) (fun _ => ?_)
      refine pw_iconst (-1) dX4_withMill_123 (by decide) ?_
      refine pw_goto 133 dX4_withMill_124 (by decide) ?_
      refine pw_i2l dX4_withMill_133 ?_
      refine pw_ladd dX4_withMill_134 ?_
      refine t_lstore4 dX4_withMill_135 (by decide) okp_r ?_
      refine pw_ldc2 k_X4_239 dX4_withMill_137 ?_
      refine t_lload4 dX4_withMill_140 ?_
      refine pw_lmul dX4_withMill_142 ?_
      refine t_aload0 dX4_withMill_143 ?_
      refine t_aload3 dX4_withMill_144 ?_
      refine g_callV1I (C_stone (l := l) hlt hT hC hR hI hN hm) rfl ft4 rfl mc_X4_stoneThatGrindsMost ml_X4_230 mi_X4_stoneThatGrindsMost ms_X4_stoneThatGrindsMost in_X4 (okc_X4_stoneThatGrindsMost (by decide)) dX4_withMill_145 (by assumption) (cat_le (Nat.le_of_ble_eq_true rfl)) (fun zx145 zim145 zh145 => ?_)
      refine pw_i2l dX4_withMill_148 ?_
      refine pw_ladd dX4_withMill_149 ?_
      refine pw_lret dX4_withMill_150 rfl ?_
      exact ⟨rfl, by rw [zh145.1, wmS, if_pos hc0], rfl, rfl, zh145.2⟩
    · refine t_aload3 dX4_withMill_104 ?_
      refine pw_iconst (0) dX4_withMill_105 (by decide) ?_
      refine g_callV1P (C_numberAt (l := l) hlt hM) rfl ft2 rfl mc_X2_numberAt ml_X4_194 mi_X2_numberAt ms_X2_numberAt in_X2 (okc_X2_numberAt (by decide)) dX4_withMill_106 (by assumption) (cat_le (Nat.le_of_ble_eq_true rfl)) ?_
      rw [at_num0 hR hI hm (by omega)]
      refine t_istore6 dX4_withMill_109 (by decide) okp_n ?_
      refine pw_ldc2 k_X4_239 dX4_withMill_111 ?_
      refine t_lload4 dX4_withMill_114 ?_
      refine pw_lmul dX4_withMill_116 ?_
      refine t_iload6 dX4_withMill_117 ?_
      refine pw_iconst (-1) dX4_withMill_119 (by decide) ?_
      refine pw_icmp_ne 127 dX4_withMill_120 (by decide) (fun zc120 => ?_) (fun zc120 => ?_)
      · refine t_aload0 dX4_withMill_127 ?_
        refine t_iload6 dX4_withMill_128 ?_
        refine g_callV1I (C_hoursTo (l := l) hlt hT hC hR hI hN) rfl ft4 rfl mc_X4_hoursToGround ml_X4_227 mi_X4_hoursToGround ms_X4_hoursToGround in_X4 (okc_X4_hoursToGround (by decide)) dX4_withMill_130 (by assumption) (cat_le (Nat.le_of_ble_eq_true rfl)) (fun zx130 zim130 zh130 => ?_)
        obtain ⟨zg, zf, hN2⟩ := zh130
        have hR2 : CR 1 S zim130 := hR.keep fun q a b => zf q (by omega)
        refine pw_i2l dX4_withMill_133 ?_
        refine pw_ladd dX4_withMill_134 ?_
        refine t_lstore4 dX4_withMill_135 (by decide) okp_r ?_
        refine pw_ldc2 k_X4_239 dX4_withMill_137 ?_
        refine t_lload4 dX4_withMill_140 ?_
        refine pw_lmul dX4_withMill_142 ?_
        refine t_aload0 dX4_withMill_143 ?_
        refine t_aload3 dX4_withMill_144 ?_
        refine g_callV1I (C_stone (l := l) hlt hT hC hR2 hI hN2 hm) rfl ft4 rfl mc_X4_stoneThatGrindsMost ml_X4_230 mi_X4_stoneThatGrindsMost ms_X4_stoneThatGrindsMost in_X4 (okc_X4_stoneThatGrindsMost (by decide)) dX4_withMill_145 (by assumption) (cat_le (Nat.le_of_ble_eq_true rfl)) (fun zx145 zim145 zh145 => ?_)
        refine pw_i2l dX4_withMill_148 ?_
        refine pw_ladd dX4_withMill_149 ?_
        refine pw_lret dX4_withMill_150 rfl ?_
        exact ⟨rfl, by rw [zh145.1, zg, wmS, if_neg hc0], rfl, rfl, zf.trans zh145.2.1, zh145.2.2⟩
      · exact absurd (Classical.not_not.mp zc120) (hW.num hm (by omega))
  have sacks : ∀ (n j : Nat) (x : Int64), j + n = cnt S m → (mxK S m (cnt S m) 0 (31 * mxN (fun w => (mlS S m w).toInt64) 11 0 h + (rsF S m).toInt64)) = mxK S m n j x → PW l m_X4_withMill 6 0 0 NN 57 [some (pv (some 0)), some (.long h), none, some (pv (some (mA 1 m))), some (.long x), none, some (.int (nI j))] [] im rm lm (QG (fun v i r q => v = some (.long (wmS S m h)) ∧ r = rm ∧ q = lm ∧ fr 27 im i ∧ NB 27 i)) noX := by
    intro n
    induction n using Nat.strongRecOn with
    | _ n ih =>
      intro j x hj hf
      refine t_iload6 dX4_withMill_57 ?_
      refine t_aload3 dX4_withMill_59 ?_
      refine g_geti ft2 fl_X4_129 (j := 11) (by decide) dX4_withMill_60 (by assumption) ?_
      rw [w11 hR hm, hc.2]
      refine pw_icmp_ge 104 dX4_withMill_63 (by decide) (fun zc63 => ?_) (fun zc63 => ?_)
      · have zj : cnt S m ≤ j := (nI_leI (by omega) (by omega)).mp zc63
        have zn : n = 0 := by omega
        subst zn
        rw [show x = (mxK S m (cnt S m) 0 (31 * mxN (fun w => (mlS S m w).toInt64) 11 0 h + (rsF S m).toInt64)) from hf.symm]
        exact tail _
      · have zj : j < cnt S m := (nI_ltI (by omega) (by omega)).mp (Int32.not_le.mp zc63)
        obtain ⟨n', rfl⟩ : ∃ n', n = n' + 1 := ⟨n - 1, by omega⟩
        refine pw_ldc2 k_X4_239 dX4_withMill_66 ?_
        refine t_lload4 dX4_withMill_69 ?_
        refine pw_lmul dX4_withMill_71 ?_
        refine t_aload3 dX4_withMill_72 ?_
        refine t_iload6 dX4_withMill_73 ?_
        refine g_callV1P (C_numberAt (l := l) hlt hM) rfl ft2 rfl mc_X2_numberAt ml_X4_194 mi_X2_numberAt ms_X2_numberAt in_X2 (okc_X2_numberAt (by decide)) dX4_withMill_75 (by assumption) (cat_le (Nat.le_of_ble_eq_true rfl)) ?_
        rw [at_num hR hI hm zj]
        refine pw_i2l dX4_withMill_78 ?_
        refine pw_ladd dX4_withMill_79 ?_
        refine t_lstore4 dX4_withMill_80 (by decide) okp_r ?_
        refine pw_ldc2 k_X4_239 dX4_withMill_82 ?_
        refine t_lload4 dX4_withMill_85 ?_
        refine pw_lmul dX4_withMill_87 ?_
        refine t_aload3 dX4_withMill_88 ?_
        refine t_iload6 dX4_withMill_89 ?_
        refine g_callV1P (C_restAt (l := l) hlt hM) rfl ft2 rfl mc_X2_restAt ml_X4_138 mi_X2_restAt ms_X2_restAt in_X2 (okc_X2_restAt (by decide)) dX4_withMill_91 (by assumption) (cat_le (Nat.le_of_ble_eq_true rfl)) ?_
        rw [at_rst hR hI hm zj]
        refine pw_i2l dX4_withMill_94 ?_
        refine pw_ladd dX4_withMill_95 ?_
        refine t_lstore4 dX4_withMill_96 (by decide) okp_r ?_
        refine t_iinc6 (1) dX4_withMill_98 (by decide) (by decide) okp_n ?_
        refine pw_goto 57 dX4_withMill_101 (by decide) ?_
        rw [nI_1]
        exact ih n' (by omega) (j + 1) _ (by omega) (by rw [hf, mxK])
  have nums : ∀ (n j : Nat) (x : Int64), j + n = 11 → mxN (fun w => (mlS S m w).toInt64) 11 0 h = mxN (fun w => (mlS S m w).toInt64) n j x → PW l m_X4_withMill 6 0 0 NN 6 [some (pv (some 0)), some (.long h), none, some (pv (some (mA 1 m))), some (.long x), none, some (.int (nI j))] [] im rm lm (QG (fun v i r q => v = some (.long (wmS S m h)) ∧ r = rm ∧ q = lm ∧ fr 27 im i ∧ NB 27 i)) noX := by
    intro n
    induction n using Nat.strongRecOn with
    | _ n ih =>
      intro j x hj hf
      refine t_iload6 dX4_withMill_6 ?_
      refine pw_bipush (10) dX4_withMill_8 (by decide) ?_
      refine pw_icmp_gt 36 dX4_withMill_10 (by decide) (fun zc10 => ?_) (fun zc10 => ?_)
      · have zj : 10 < j := (nI_ltI (a := 10) (by decide) (by omega)).mp zc10
        have zn : n = 0 := by omega
        subst zn
        refine pw_ldc2 k_X4_239 dX4_withMill_36 ?_
        refine t_lload4 dX4_withMill_39 ?_
        refine pw_lmul dX4_withMill_41 ?_
        refine t_aload0 dX4_withMill_42 ?_
        refine g_getr ft4 fl_X4_10 (j := 0) (by decide) dX4_withMill_43 (by assumption) (by assumption) ?_
        refine t_aload3 dX4_withMill_46 ?_
        refine g_callV1P (C_reason (l := l) hlt hC1 hR hm) rfl ft0 rfl mc_X0_reasonToRest ml_X4_203 mi_X0_reasonToRest ms_X0_reasonToRest in_X0 (okc_X0_reasonToRest (by decide)) dX4_withMill_47 (by assumption) (cat_le (Nat.le_of_ble_eq_true rfl)) ?_
        refine pw_i2l dX4_withMill_50 ?_
        refine pw_ladd dX4_withMill_51 ?_
        refine t_lstore4 dX4_withMill_52 (by decide) okp_r ?_
        refine pw_iconst (0) dX4_withMill_54 (by decide) ?_
        refine t_istore6 dX4_withMill_55 (by decide) okp_n ?_
        rw [show x = mxN (fun w => (mlS S m w).toInt64) 11 0 h from hf.symm]
        exact sacks (cnt S m) 0 _ (by omega) rfl
      · have zj : j ≤ 10 := (nI_leI (b := 10) (by omega) (by decide)).mp (Int32.not_lt.mp zc10)
        obtain ⟨n', rfl⟩ : ∃ n', n = n' + 1 := ⟨n - 1, by omega⟩
        refine pw_ldc2 k_X4_239 dX4_withMill_13 ?_
        refine t_lload4 dX4_withMill_16 ?_
        refine pw_lmul dX4_withMill_18 ?_
        refine t_aload0 dX4_withMill_19 ?_
        refine t_aload3 dX4_withMill_20 ?_
        refine t_iload6 dX4_withMill_21 ?_
        refine g_callV2P (C_numMill (l := l) hlt hT hC hR hm (v := j) (by omega) rfl) rfl ft4 rfl mc_X4_numberOfMill ml_X4_187 mi_X4_numberOfMill ms_X4_numberOfMill in_X4 (okc_X4_numberOfMill (by decide)) dX4_withMill_23 (by assumption) (cat_le (Nat.le_of_ble_eq_true rfl)) ?_
        refine pw_i2l dX4_withMill_26 ?_
        refine pw_ladd dX4_withMill_27 ?_
        refine t_lstore4 dX4_withMill_28 (by decide) okp_r ?_
        refine t_iinc6 (1) dX4_withMill_30 (by decide) (by decide) okp_n ?_
        refine pw_goto 6 dX4_withMill_33 (by decide) ?_
        rw [nI_1]
        exact ih n' (by omega) (j + 1) _ (by omega) (by rw [hf, mxN])
  refine t_lload1 dX4_withMill_0 ?_
  refine t_lstore4 dX4_withMill_1 (by decide) okp_r ?_
  refine pw_iconst (0) dX4_withMill_3 (by decide) ?_
  refine t_istore6 dX4_withMill_4 (by decide) okp_n ?_
  exact nums 11 0 h rfl rfl
theorem C_foreseen {l : Launch} (hlt : l.stackTraces = false) {im : TI} {rm : TP} {lm : TL} {S : CS} (hT : RT rm) (hC : RC rm) (hR : CR 1 S im) (hI : CI S) (hN : NB 27 im) {v : Nat} (hv : v < 4) : Con l m_X4_foreseen 5 0 0 NN [pv (some 0), .int 12, .int (nI v)] im rm lm (QI (fun x im2 => x = wbS S 12 v ∧ fr 27 im im2 ∧ NB 27 im2) rm lm) noX := by
  rcases (show v = 0 ∨ v = 1 ∨ v = 2 ∨ v = 3 by omega) with rfl | rfl | rfl | rfl
  · exact C_foreseen0 hlt hT hC hR hI hN (N := 12) rfl (by decide)
  · exact C_foreseen1 hlt hT hC hR hI hN (N := 12) rfl (by decide)
  · exact C_foreseen2 hlt hT hC hR hI hN (N := 12) rfl (by decide)
  · exact C_foreseen3 hlt hT hC hR hI hN (N := 12) rfl (by decide)

/-! TideMillsModel: digest -/
theorem ul_ap {f : TL} {o k o' k' : Nat} {v : Int64} : ul f o k v o' k' = if o' = o ∧ k' = k then v else f o' k' := by
  unfold ul
  by_cases h : o' = o
  · subst h; simp [vp_updL]
  · simp [h]
theorem ul_at {lm : TL} {h : Int64} : (ul lm 240 13 h) 240 13 = h := by rw [ul_ap, if_pos ⟨rfl, rfl⟩]
theorem ul_ul {lm : TL} {h g : Int64} : ul (ul lm 240 13 h) 240 13 g = ul lm 240 13 g := by
  funext o k
  rw [ul_ap, ul_ap, ul_ap]
  by_cases e : o = 240 ∧ k = 13
  · rw [if_pos e, if_pos e]
  · rw [if_neg e, if_neg e, if_neg e]
theorem m1l : (-1 : Int32).toInt64 = (-1 : Int64) := by decide
set_option maxHeartbeats 4000000 in
set_option maxRecDepth 100000 in
theorem M_mix {l : Launch} (hlt : l.stackTraces = false) {im : TI} {rm : TP} {lm : TL} {h x : Int64} : Con l m_X5_mix 0 0 0 NN [pv (some 240), .long (x)] im rm (ul lm 240 13 h) (QG (fun v i r q => v = none ∧ i = im ∧ r = rm ∧ q = ul lm 240 13 (31 * h + x))) noX := by
  have hk0 := kdM
  refine Con.ofN (k := 0) (L0 := [some (pv (some 240)), some (.long (x)), none]) hlt (by decide +kernel) rfl rfl (by rw [en1 pv_cat, en2 rfl, en0]; exact Nat.le_of_ble_eq_true rfl) (by rw [en1 pv_cat, en2 rfl, en0]; rfl) ?_
  refine t_aload0 dX5_mix_0 ?_
  refine pw_ldc2 k_X5_200 dX5_mix_1 ?_
  refine t_aload0 dX5_mix_4 ?_
  refine g_getl ft5 fl_X5_202 (j := 13) (by decide) dX5_mix_5 (by assumption) ?_
  rw [ul_at]
  refine pw_lmul dX5_mix_8 ?_
  refine t_lload1 dX5_mix_9 ?_
  refine pw_ladd dX5_mix_10 ?_
  refine g_putl ft5 fl_X5_202 (j := 13) (by decide) ⟨rfl, rfl⟩ dX5_mix_11 (by assumption) ?_
  refine pw_vret dX5_mix_14 rfl ?_
  exact ⟨rfl, rfl, rfl, rfl, ul_ul⟩
theorem M_would {l : Launch} (hlt : l.stackTraces = false) {im : TI} {rm : TP} {lm : TL} {i0 : TI} {S : CS} (hM : MM rm) (hB : MB i0 S im) (hW : CW S) {v : Nat} (hv : v < 4) : Con l m_X5_wouldBring 6 0 0 NN [pv (some 240), .int 12, .int (nI v)] im rm lm (QI (fun x im2 => x = wbS S 12 v ∧ MB i0 S im2) rm lm) noX := by
  rcases (show v = 0 ∨ v = 1 ∨ v = 2 ∨ v = 3 by omega) with rfl | rfl | rfl | rfl
  · exact M_would0 hlt hM hB hW (N := 12) (by decide)
  · exact M_would1 hlt hM hB hW (N := 12) (by decide)
  · exact M_would2 hlt hM hB hW (N := 12) (by decide)
  · exact M_would3 hlt hM hB hW (N := 12) (by decide)
set_option maxHeartbeats 4000000 in
set_option maxRecDepth 100000 in
theorem M_mixMill {l : Launch} (hlt : l.stackTraces = false) {im : TI} {rm : TP} {lm : TL} {i0 : TI} {S : CS} (hM : MM rm) (hB : MB i0 S im) (hW : WF S) {m : Nat} (hm : m < 5) {h : Int64} : Con l m_X5_mixMill 7 0 0 NN [pv (some 240), .int (nI m)] im rm (ul lm 240 13 h) (QG (fun v i r q => v = none ∧ r = rm ∧ q = ul lm 240 13 (wmS S m h) ∧ MB i0 S i)) noX := by
  have hk0 := kdM
  have hks := kds
  obtain ⟨r0, r1, r3, r5, r6, r11⟩ := id hM
  refine Con.ofN (k := 1) (L0 := [some (pv (some 240)), some (.int (nI m)), none]) hlt (by decide +kernel) rfl rfl (by rw [en1 pv_cat, en1 rfl, en0]; exact Nat.le_of_ble_eq_true rfl) (by rw [en1 pv_cat, en1 rfl, en0]; rfl) ?_
  have hR := hB.s
  have tail : ∀ (j : Nat) (x : Int64), x = (mxK S m (cnt S m) 0 (31 * mxN (fun w => (mlS S m w).toInt64) 11 0 h + (rsF S m).toInt64)) → PW l m_X5_mixMill 7 0 0 NN 78 [some (pv (some 240)), some (.int (nI m)), none] [] im rm (ul lm 240 13 x) (QG (fun v i r q => v = none ∧ r = rm ∧ q = ul lm 240 13 (wmS S m h) ∧ MB i0 S i)) noX := by
    intro j x hf
    by_cases hc0 : cnt S m = 0
    · refine t_aload0 dX5_mixMill_78 ?_
      refine t_aload0 dX5_mixMill_79 ?_
      refine t_iload1 dX5_mixMill_80 ?_
      refine pw_bipush (9) dX5_mixMill_81 (by decide) ?_
      refine g_callV2P (M_of (l := l) hlt hM hR (m := m) (w := 9) hm (by decide)) rfl ft5 rfl mc_X5_of ml_X5_47 mi_X5_of ms_X5_of in_X5 (okc_X5_of (by decide)) dX5_mixMill_83 (by assumption) (cat_le (Nat.le_of_ble_eq_true rfl)) ?_
      rw [(cnt_z hW.1.1 hm).mpr hc0]
      refine pw_if_ne 95 dX5_mixMill_86 (by decide) (fun h => absurd h (by decide)) (fun _ => ?_)
      refine pw_ldc2 k_X5_210 dX5_mixMill_89 ?_
      refine pw_goto 107 dX5_mixMill_92 (by decide) ?_
      refine g_callV1G (M_mix (l := l) hlt) rfl ft5 rfl mc_X5_mix ml_X5_206 mi_X5_mix ms_X5_mix in_X5 (okc_X5_mix (by decide)) dX5_mixMill_107 (by assumption) (cat_le (Nat.le_of_ble_eq_true rfl)) (fun _ _ _ _ h => h.elim) (by decide) (fun zv107 zim107 zrm107 zlm107 zh107 => ?_)
      obtain ⟨zv, zi, zr, zq⟩ := zh107
      rw [zv, zi, zr, zq]
      refine t_aload0 dX5_mixMill_110 ?_
      refine t_aload0 dX5_mixMill_111 ?_
      refine t_iload1 dX5_mixMill_112 ?_
      refine g_callV1I (M_best (l := l) hlt hM hB hW.1 (m := m) hm) rfl ft5 rfl mc_X5_bestFor ml_X5_185 mi_X5_bestFor ms_X5_bestFor in_X5 (okc_X5_bestFor (by decide)) dX5_mixMill_113 (by assumption) (cat_le (Nat.le_of_ble_eq_true rfl)) (fun zx113 zim113 zh113 => ?_)
      obtain ⟨zx, hBe⟩ := zh113
      rw [zx, bm_bs hW.1 hW.2.2]
      refine pw_i2l dX5_mixMill_116 ?_
      refine g_callV1G (M_mix (l := l) hlt) rfl ft5 rfl mc_X5_mix ml_X5_206 mi_X5_mix ms_X5_mix in_X5 (okc_X5_mix (by decide)) dX5_mixMill_117 (by assumption) (cat_le (Nat.le_of_ble_eq_true rfl)) (fun _ _ _ _ h => h.elim) (by decide) (fun zv117 zim117 zrm117 zlm117 zh117 => ?_)
      obtain ⟨zv, zi, zr, zq⟩ := zh117
      rw [zv, zi, zr, zq]
      refine pw_vret dX5_mixMill_120 rfl ?_
      exact ⟨rfl, rfl, rfl, by rw [wmS, if_pos hc0, ← hf, m1l], hBe⟩
    · refine t_aload0 dX5_mixMill_78 ?_
      refine t_aload0 dX5_mixMill_79 ?_
      refine t_iload1 dX5_mixMill_80 ?_
      refine pw_bipush (9) dX5_mixMill_81 (by decide) ?_
      refine g_callV2P (M_of (l := l) hlt hM hR (m := m) (w := 9) hm (by decide)) rfl ft5 rfl mc_X5_of ml_X5_47 mi_X5_of ms_X5_of in_X5 (okc_X5_of (by decide)) dX5_mixMill_83 (by assumption) (cat_le (Nat.le_of_ble_eq_true rfl)) ?_
      refine pw_if_ne 95 dX5_mixMill_86 (by decide) (fun zc86 => ?_) (fun zc86 => ?_)
      · refine t_aload0 dX5_mixMill_95 ?_
        refine t_aload0 dX5_mixMill_96 ?_
        refine t_iload1 dX5_mixMill_97 ?_
        refine pw_iconst (0) dX5_mixMill_98 (by decide) ?_
        refine pw_iconst (0) dX5_mixMill_99 (by decide) ?_
        refine g_callV3P (M_sackTold (l := l) hlt hM hR hW.1.1 (m := m) (p := 0) (w := 0) hm (by decide) (by decide)) rfl ft5 rfl mc_X5_sackTold ml_X5_166 mi_X5_sackTold ms_X5_sackTold in_X5 (okc_X5_sackTold (by decide)) dX5_mixMill_100 (by assumption) (cat_le (Nat.le_of_ble_eq_true rfl)) ?_
        rw [stS, if_pos (by omega : 0 < cnt S m)]
        refine g_callV1I (M_ground (l := l) hlt hM hB hW.1) rfl ft5 rfl mc_X5_groundBehind ml_X5_178 mi_X5_groundBehind ms_X5_groundBehind in_X5 (okc_X5_groundBehind (by decide)) dX5_mixMill_103 (by assumption) (cat_le (Nat.le_of_ble_eq_true rfl)) (fun zx103 zim103 zh103 => ?_)
        obtain ⟨zg, hB2⟩ := zh103
        rw [zg, gm_gb hW.1.1 hW.nus]
        refine pw_i2l dX5_mixMill_106 ?_
        refine g_callV1G (M_mix (l := l) hlt) rfl ft5 rfl mc_X5_mix ml_X5_206 mi_X5_mix ms_X5_mix in_X5 (okc_X5_mix (by decide)) dX5_mixMill_107 (by assumption) (cat_le (Nat.le_of_ble_eq_true rfl)) (fun _ _ _ _ h => h.elim) (by decide) (fun zv107 zim107 zrm107 zlm107 zh107 => ?_)
        obtain ⟨zv, zi, zr, zq⟩ := zh107
        rw [zv, zi, zr, zq]
        refine t_aload0 dX5_mixMill_110 ?_
        refine t_aload0 dX5_mixMill_111 ?_
        refine t_iload1 dX5_mixMill_112 ?_
        refine g_callV1I (M_best (l := l) hlt hM hB2 hW.1 (m := m) hm) rfl ft5 rfl mc_X5_bestFor ml_X5_185 mi_X5_bestFor ms_X5_bestFor in_X5 (okc_X5_bestFor (by decide)) dX5_mixMill_113 (by assumption) (cat_le (Nat.le_of_ble_eq_true rfl)) (fun zx113 zim113 zh113 => ?_)
        obtain ⟨zx, hBe⟩ := zh113
        rw [zx, bm_bs hW.1 hW.2.2]
        refine pw_i2l dX5_mixMill_116 ?_
        refine g_callV1G (M_mix (l := l) hlt) rfl ft5 rfl mc_X5_mix ml_X5_206 mi_X5_mix ms_X5_mix in_X5 (okc_X5_mix (by decide)) dX5_mixMill_117 (by assumption) (cat_le (Nat.le_of_ble_eq_true rfl)) (fun _ _ _ _ h => h.elim) (by decide) (fun zv117 zim117 zrm117 zlm117 zh117 => ?_)
        obtain ⟨zv, zi, zr, zq⟩ := zh117
        rw [zv, zi, zr, zq]
        refine pw_vret dX5_mixMill_120 rfl ?_
        exact ⟨rfl, rfl, rfl, by rw [wmS, if_neg hc0, ← hf], hBe⟩
      · exact absurd ((cnt_z hW.1.1 hm).mp (Classical.not_not.mp zc86)) hc0
  have hc6 := (hW.1.1.c hm).1
  have sacks : ∀ (n j : Nat) (x : Int64), j + n = cnt S m → (mxK S m (cnt S m) 0 (31 * mxN (fun w => (mlS S m w).toInt64) 11 0 h + (rsF S m).toInt64)) = mxK S m n j x → PW l m_X5_mixMill 7 0 0 NN 37 [some (pv (some 240)), some (.int (nI m)), some (.int (nI j))] [] im rm (ul lm 240 13 x) (QG (fun v i r q => v = none ∧ r = rm ∧ q = ul lm 240 13 (wmS S m h) ∧ MB i0 S i)) noX := by
    intro n
    induction n using Nat.strongRecOn with
    | _ n ih =>
      intro j x hj hf
      refine t_iload2 dX5_mixMill_37 ?_
      refine t_aload0 dX5_mixMill_38 ?_
      refine t_iload1 dX5_mixMill_39 ?_
      refine pw_bipush (9) dX5_mixMill_40 (by decide) ?_
      refine g_callV2P (M_of (l := l) hlt hM hR (m := m) (w := 9) hm (by decide)) rfl ft5 rfl mc_X5_of ml_X5_47 mi_X5_of ms_X5_of in_X5 (okc_X5_of (by decide)) dX5_mixMill_42 (by assumption) (cat_le (Nat.le_of_ble_eq_true rfl)) ?_
      rw [(hW.1.1.c hm).2]
      refine pw_icmp_ge 78 dX5_mixMill_45 (by decide) (fun zc45 => ?_) (fun zc45 => ?_)
      · have zj : cnt S m ≤ j := (nI_leI (by omega) (by omega)).mp zc45
        have zn : n = 0 := by omega
        subst zn
        refine PW.sub (L' := [some (pv (some 240)), some (.int (nI m)), none]) (s_e (s_e (s_n s_z))) ?_
        exact tail j x hf.symm
      · have zj : j < cnt S m := (nI_ltI (by omega) (by omega)).mp (Int32.not_le.mp zc45)
        obtain ⟨n', rfl⟩ : ∃ n', n = n' + 1 := ⟨n - 1, by omega⟩
        refine t_aload0 dX5_mixMill_48 ?_
        refine t_aload0 dX5_mixMill_49 ?_
        refine t_iload1 dX5_mixMill_50 ?_
        refine t_iload2 dX5_mixMill_51 ?_
        refine pw_iconst (0) dX5_mixMill_52 (by decide) ?_
        refine g_callV3P (M_sackTold (l := l) hlt hM hR hW.1.1 (m := m) (p := j) (w := 0) hm (by omega) (by decide)) rfl ft5 rfl mc_X5_sackTold ml_X5_166 mi_X5_sackTold ms_X5_sackTold in_X5 (okc_X5_sackTold (by decide)) dX5_mixMill_53 (by assumption) (cat_le (Nat.le_of_ble_eq_true rfl)) ?_
        rw [stS, if_pos zj]
        refine pw_i2l dX5_mixMill_56 ?_
        refine g_callV1G (M_mix (l := l) hlt) rfl ft5 rfl mc_X5_mix ml_X5_206 mi_X5_mix ms_X5_mix in_X5 (okc_X5_mix (by decide)) dX5_mixMill_57 (by assumption) (cat_le (Nat.le_of_ble_eq_true rfl)) (fun _ _ _ _ h => h.elim) (by decide) (fun zv57 zim57 zrm57 zlm57 zh57 => ?_)
        obtain ⟨zv, zi, zr, zq⟩ := zh57
        rw [zv, zi, zr, zq]
        refine t_aload0 dX5_mixMill_60 ?_
        refine t_aload0 dX5_mixMill_61 ?_
        refine t_iload1 dX5_mixMill_62 ?_
        refine t_iload2 dX5_mixMill_63 ?_
        refine pw_iconst (2) dX5_mixMill_64 (by decide) ?_
        refine g_callV3P (M_sackTold (l := l) hlt hM hR hW.1.1 (m := m) (p := j) (w := 2) hm (by omega) (by decide)) rfl ft5 rfl mc_X5_sackTold ml_X5_166 mi_X5_sackTold ms_X5_sackTold in_X5 (okc_X5_sackTold (by decide)) dX5_mixMill_65 (by assumption) (cat_le (Nat.le_of_ble_eq_true rfl)) ?_
        rw [stS, if_pos zj]
        refine pw_i2l dX5_mixMill_68 ?_
        refine g_callV1G (M_mix (l := l) hlt) rfl ft5 rfl mc_X5_mix ml_X5_206 mi_X5_mix ms_X5_mix in_X5 (okc_X5_mix (by decide)) dX5_mixMill_69 (by assumption) (cat_le (Nat.le_of_ble_eq_true rfl)) (fun _ _ _ _ h => h.elim) (by decide) (fun zv69 zim69 zrm69 zlm69 zh69 => ?_)
        obtain ⟨zv, zi, zr, zq⟩ := zh69
        rw [zv, zi, zr, zq]
        refine t_iinc2 (1) dX5_mixMill_72 (by decide) (by decide) okp_i ?_
        refine pw_goto 37 dX5_mixMill_75 (by decide) ?_
        rw [nI_1]
        exact ih n' (by omega) (j + 1) _ (by omega) (by rw [hf, mxK])
  have nums : ∀ (n j : Nat) (x : Int64), j + n = 11 → mxN (fun w => (mlS S m w).toInt64) 11 0 h = mxN (fun w => (mlS S m w).toInt64) n j x → PW l m_X5_mixMill 7 0 0 NN 2 [some (pv (some 240)), some (.int (nI m)), some (.int (nI j))] [] im rm (ul lm 240 13 x) (QG (fun v i r q => v = none ∧ r = rm ∧ q = ul lm 240 13 (wmS S m h) ∧ MB i0 S i)) noX := by
    intro n
    induction n using Nat.strongRecOn with
    | _ n ih =>
      intro j x hj hf
      refine t_iload2 dX5_mixMill_2 ?_
      refine pw_bipush (11) dX5_mixMill_3 (by decide) ?_
      refine pw_icmp_ge 25 dX5_mixMill_5 (by decide) (fun zc5 => ?_) (fun zc5 => ?_)
      · have zj : 11 ≤ j := (nI_leI (a := 11) (by decide) (by omega)).mp zc5
        have zn : n = 0 := by omega
        subst zn
        refine t_aload0 dX5_mixMill_25 ?_
        refine t_aload0 dX5_mixMill_26 ?_
        refine t_iload1 dX5_mixMill_27 ?_
        refine g_callV1P (M_reason (l := l) hlt hM hR hW.1.2.1 hm) rfl ft5 rfl mc_X5_reason ml_X5_67 mi_X5_reason ms_X5_reason in_X5 (okc_X5_reason (by decide)) dX5_mixMill_28 (by assumption) (cat_le (Nat.le_of_ble_eq_true rfl)) ?_
        refine pw_i2l dX5_mixMill_31 ?_
        refine g_callV1G (M_mix (l := l) hlt) rfl ft5 rfl mc_X5_mix ml_X5_206 mi_X5_mix ms_X5_mix in_X5 (okc_X5_mix (by decide)) dX5_mixMill_32 (by assumption) (cat_le (Nat.le_of_ble_eq_true rfl)) (fun _ _ _ _ h => h.elim) (by decide) (fun zv32 zim32 zrm32 zlm32 zh32 => ?_)
        obtain ⟨zv, zi, zr, zq⟩ := zh32
        rw [zv, zi, zr, zq]
        refine pw_iconst (0) dX5_mixMill_35 (by decide) ?_
        refine t_istore2 dX5_mixMill_36 (by decide) okp_i ?_
        exact sacks (cnt S m) 0 _ (by omega) (by rw [show x = mxN (fun w => (mlS S m w).toInt64) 11 0 h from hf.symm])
      · have zj : j < 11 := (nI_ltI (b := 11) (by omega) (by decide)).mp (Int32.not_le.mp zc5)
        obtain ⟨n', rfl⟩ : ∃ n', n = n' + 1 := ⟨n - 1, by omega⟩
        refine t_aload0 dX5_mixMill_8 ?_
        refine t_aload0 dX5_mixMill_9 ?_
        refine t_iload1 dX5_mixMill_10 ?_
        refine t_iload2 dX5_mixMill_11 ?_
        refine g_callV2P (M_millTold (l := l) hlt hM hR hW.1.2.1 hm (v := j) (by omega)) rfl ft5 rfl mc_X5_millTold ml_X5_163 mi_X5_millTold ms_X5_millTold in_X5 (okc_X5_millTold (by decide)) dX5_mixMill_12 (by assumption) (cat_le (Nat.le_of_ble_eq_true rfl)) ?_
        refine pw_i2l dX5_mixMill_15 ?_
        refine g_callV1G (M_mix (l := l) hlt) rfl ft5 rfl mc_X5_mix ml_X5_206 mi_X5_mix ms_X5_mix in_X5 (okc_X5_mix (by decide)) dX5_mixMill_16 (by assumption) (cat_le (Nat.le_of_ble_eq_true rfl)) (fun _ _ _ _ h => h.elim) (by decide) (fun zv16 zim16 zrm16 zlm16 zh16 => ?_)
        obtain ⟨zv, zi, zr, zq⟩ := zh16
        rw [zv, zi, zr, zq]
        refine t_iinc2 (1) dX5_mixMill_19 (by decide) (by decide) okp_i ?_
        refine pw_goto 2 dX5_mixMill_22 (by decide) ?_
        rw [nI_1]
        exact ih n' (by omega) (j + 1) _ (by omega) (by rw [hf, mxN])
  refine pw_iconst (0) dX5_mixMill_0 (by decide) ?_
  refine t_istore2 dX5_mixMill_1 (by decide) okp_i ?_
  exact nums 11 0 h rfl rfl
set_option maxHeartbeats 4000000 in
set_option maxRecDepth 100000 in
theorem M_digest {l : Launch} (hlt : l.stackTraces = false) {im : TI} {rm : TP} {lm : TL} {Y : TI} {S : CS} {n : Nat} {T : Nat → CS} {sn : Option CS} {bl : Nat} {B : Nat → Int32} (hM : MM rm) (hZ : MZ Y S n T sn bl B im) (hW : WF S) : Con l m_X5_digest 9 0 0 NN [pv (some 240)] im rm lm (QG (fun v i r q => v = some (.long (dgS S n bl B)) ∧ r = rm ∧ q = ul lm 240 13 (dgS S n bl B) ∧ i 240 8 = 0 ∧ MZ Y S n T sn bl B i)) noX := by
  have hk0 := kdM
  have hks := kds
  obtain ⟨r0, r1, r3, r5, r6, r11⟩ := id hM
  refine Con.ofN (k := 1) (L0 := [some (pv (some 240)), none]) hlt (by decide +kernel) rfl rfl (by rw [en1 pv_cat, en0]; exact Nat.le_of_ble_eq_true rfl) (by rw [en1 pv_cat, en0]; rfl) ?_
  have hb60 := hZ.2.2.2.1.2
  have hkt := kdt
  have p158 : ∀ (z j : Nat) (x : Int64) (imk : TI), j + z = bl → MZ Y S n T sn bl B imk → imk 240 8 = 0 → dgS S n bl B = mxN (fun j => (B j).toInt64) z j x → PW l m_X5_digest 9 0 0 NN 158 [some (pv (some 240)), some (.int (nI j))] [] imk rm (ul lm 240 13 x) (QG (fun v i r q => v = some (.long (dgS S n bl B)) ∧ r = rm ∧ q = ul lm 240 13 (dgS S n bl B) ∧ i 240 8 = 0 ∧ MZ Y S n T sn bl B i)) noX := by
    intro z
    induction z using Nat.strongRecOn with
    | _ z ih =>
      intro j x imk hj hZ hth hf
      have hR : MS imk S imk := ⟨hZ.1, fun _ _ => rfl⟩
      refine t_iload1 dX5_digest_158 ?_
      refine t_aload0 dX5_digest_159 ?_
      refine g_geti ft5 fl_X5_124 (j := 7) (by decide) dX5_digest_160 (by assumption) ?_
      rw [hZ.2.2.2.1.1]
      refine pw_icmp_ge 183 dX5_digest_163 (by decide) (fun zc163 => ?_) (fun zc163 => ?_)
      · have zj : bl ≤ j := (nI_leI (a := bl) (by omega) (by omega)).mp zc163
        have zn : z = 0 := by omega
        subst zn
        refine t_aload0 dX5_digest_183 ?_
        refine g_getl ft5 fl_X5_202 (j := 13) (by decide) dX5_digest_184 (by assumption) ?_
        rw [ul_at]
        refine pw_lret dX5_digest_187 rfl ?_
        exact ⟨rfl, by rw [hf]; rfl, rfl, by rw [hf]; rfl, hth, hZ⟩
      · have zj : j < bl := (nI_ltI (by omega) (by omega)).mp (Int32.not_le.mp zc163)
        obtain ⟨z', rfl⟩ : ∃ z', z = z' + 1 := ⟨z - 1, by omega⟩
        refine t_aload0 dX5_digest_166 ?_
        refine t_aload0 dX5_digest_167 ?_
        refine g_getr ft5 fl_X5_22 (j := 6) (by decide) dX5_digest_168 (by assumption) (by assumption) ?_
        refine t_iload1 dX5_digest_171 ?_
        refine g_iald dX5_digest_172 (by assumption) (by rw [alt]; exact vin_nI (by omega) (by decide)) ?_
        rw [nI_clamp (by omega), hZ.2.2.2.2.1 j (by omega)]
        refine pw_i2l dX5_digest_173 ?_
        refine g_callV1G (M_mix (l := l) hlt) rfl ft5 rfl mc_X5_mix ml_X5_206 mi_X5_mix ms_X5_mix in_X5 (okc_X5_mix (by decide)) dX5_digest_174 (by assumption) (cat_le (Nat.le_of_ble_eq_true rfl)) (fun _ _ _ _ h => h.elim) (by decide) (fun zv174 zim174 zrm174 zlm174 zh174 => ?_)
        obtain ⟨zv, zi, zr, zq⟩ := zh174
        rw [zv, zi, zr, zq]
        refine t_iinc1 (1) dX5_digest_177 (by decide) (by decide) okp_r ?_
        refine pw_goto 158 dX5_digest_180 (by decide) ?_
        rw [nI_1]
        exact ih z' (by omega) (j + 1) _ _ (by omega) hZ hth (by rw [hf]; rfl)
  have p113 : ∀ (z j : Nat) (x : Int64) (imk : TI), j + z = 4 → MZ Y S n T sn bl B imk → imk 240 8 = 0 → dgS S n bl B = d5S bl B (31 * mxN (fun v => (wbS S 12 v).toInt64) z j x + btS (shD S)) → PW l m_X5_digest 9 0 0 NN 113 [some (pv (some 240)), some (.int (nI j))] [] imk rm (ul lm 240 13 x) (QG (fun v i r q => v = some (.long (dgS S n bl B)) ∧ r = rm ∧ q = ul lm 240 13 (dgS S n bl B) ∧ i 240 8 = 0 ∧ MZ Y S n T sn bl B i)) noX := by
    intro z
    induction z using Nat.strongRecOn with
    | _ z ih =>
      intro j x imk hj hZ hth hf
      have hR : MS imk S imk := ⟨hZ.1, fun _ _ => rfl⟩
      refine t_iload1 dX5_digest_113 ?_
      refine pw_iconst (4) dX5_digest_114 (by decide) ?_
      refine pw_icmp_ge 136 dX5_digest_115 (by decide) (fun zc115 => ?_) (fun zc115 => ?_)
      · have zj : 4 ≤ j := (nI_leI (a := 4) (by decide) (by omega)).mp zc115
        have zn : z = 0 := by omega
        subst zn
        refine t_aload0 dX5_digest_136 ?_
        refine t_aload0 dX5_digest_137 ?_
        refine g_callV0P (M_share (l := l) hlt hM hR hW) rfl ft5 rfl mc_X5_shareInTime ml_X5_188 mi_X5_shareInTime ms_X5_shareInTime in_X5 (okc_X5_shareInTime (by decide)) dX5_digest_138 (by assumption) (cat_le (Nat.le_of_ble_eq_true rfl)) ?_
        refine g_callS1P (M_bits (l := l) hlt (shD_ok hW)) rfl mc_X5_bitsOf ml_X5_217 mi_X5_bitsOf in_X5 (okc_X5_bitsOf (by decide)) dX5_digest_141 (cat_le (Nat.le_of_ble_eq_true rfl)) ?_
        refine g_callV1G (M_mix (l := l) hlt) rfl ft5 rfl mc_X5_mix ml_X5_206 mi_X5_mix ms_X5_mix in_X5 (okc_X5_mix (by decide)) dX5_digest_144 (by assumption) (cat_le (Nat.le_of_ble_eq_true rfl)) (fun _ _ _ _ h => h.elim) (by decide) (fun zv144 zim144 zrm144 zlm144 zh144 => ?_)
        obtain ⟨zv, zi, zr, zq⟩ := zh144
        rw [zv, zi, zr, zq]
        refine t_aload0 dX5_digest_147 ?_
        refine t_aload0 dX5_digest_148 ?_
        refine g_geti ft5 fl_X5_124 (j := 7) (by decide) dX5_digest_149 (by assumption) ?_
        rw [hZ.2.2.2.1.1]
        refine pw_i2l dX5_digest_152 ?_
        refine g_callV1G (M_mix (l := l) hlt) rfl ft5 rfl mc_X5_mix ml_X5_206 mi_X5_mix ms_X5_mix in_X5 (okc_X5_mix (by decide)) dX5_digest_153 (by assumption) (cat_le (Nat.le_of_ble_eq_true rfl)) (fun _ _ _ _ h => h.elim) (by decide) (fun zv153 zim153 zrm153 zlm153 zh153 => ?_)
        obtain ⟨zv, zi, zr, zq⟩ := zh153
        rw [zv, zi, zr, zq]
        refine pw_iconst (0) dX5_digest_156 (by decide) ?_
        refine t_istore1 dX5_digest_157 (by decide) okp_r ?_
        exact p158 bl 0 _ imk (by omega) hZ hth (by rw [hf]; rfl)
      · have zj : j < 4 := (nI_ltI (b := 4) (by omega) (by decide)).mp (Int32.not_le.mp zc115)
        obtain ⟨z', rfl⟩ : ∃ z', z = z' + 1 := ⟨z - 1, by omega⟩
        refine t_aload0 dX5_digest_118 ?_
        refine t_aload0 dX5_digest_119 ?_
        refine pw_bipush (12) dX5_digest_120 (by decide) ?_
        refine t_iload1 dX5_digest_122 ?_
        refine g_callV2I (M_would (l := l) hlt hM hZ.1.mb hW.1 (v := j) (by omega)) rfl ft5 rfl mc_X5_wouldBring ml_X5_175 mi_X5_wouldBring ms_X5_wouldBring in_X5 (okc_X5_wouldBring (by decide)) dX5_digest_123 (by assumption) (cat_le (Nat.le_of_ble_eq_true rfl)) (fun zx123 zim123 zh123 => ?_)
        obtain ⟨zx, zB⟩ := zh123
        have hZ := hZ.tri zB
        have hth := (congrFun (zB.2 240 (by decide) (by decide)) 8).trans hth
        rw [zx]
        refine pw_i2l dX5_digest_126 ?_
        refine g_callV1G (M_mix (l := l) hlt) rfl ft5 rfl mc_X5_mix ml_X5_206 mi_X5_mix ms_X5_mix in_X5 (okc_X5_mix (by decide)) dX5_digest_127 (by assumption) (cat_le (Nat.le_of_ble_eq_true rfl)) (fun _ _ _ _ h => h.elim) (by decide) (fun zv127 zim127 zrm127 zlm127 zh127 => ?_)
        obtain ⟨zv, zi, zr, zq⟩ := zh127
        rw [zv, zi, zr, zq]
        refine t_iinc1 (1) dX5_digest_130 (by decide) (by decide) okp_r ?_
        refine pw_goto 113 dX5_digest_133 (by decide) ?_
        rw [nI_1]
        exact ih z' (by omega) (j + 1) _ _ (by omega) hZ hth (by rw [hf]; rfl)
  have p80 : ∀ (z j : Nat) (x : Int64) (imk : TI), j + z = 5 → MZ Y S n T sn bl B imk → imk 240 8 = 0 → dgS S n bl B = d5S bl B (d4S S (31 * mxN (fun r => (oI (rkS S r)).toInt64) z j x + (oI (chS S)).toInt64)) → PW l m_X5_digest 9 0 0 NN 80 [some (pv (some 240)), some (.int (nI j))] [] imk rm (ul lm 240 13 x) (QG (fun v i r q => v = some (.long (dgS S n bl B)) ∧ r = rm ∧ q = ul lm 240 13 (dgS S n bl B) ∧ i 240 8 = 0 ∧ MZ Y S n T sn bl B i)) noX := by
    intro z
    induction z using Nat.strongRecOn with
    | _ z ih =>
      intro j x imk hj hZ hth hf
      have hR : MS imk S imk := ⟨hZ.1, fun _ _ => rfl⟩
      refine t_iload1 dX5_digest_80 ?_
      refine pw_iconst (5) dX5_digest_81 (by decide) ?_
      refine pw_icmp_ge 101 dX5_digest_82 (by decide) (fun zc82 => ?_) (fun zc82 => ?_)
      · have zj : 5 ≤ j := (nI_leI (a := 5) (by decide) (by omega)).mp zc82
        have zn : z = 0 := by omega
        subst zn
        refine t_aload0 dX5_digest_101 ?_
        refine t_aload0 dX5_digest_102 ?_
        refine pw_iconst (0) dX5_digest_103 (by decide) ?_
        refine g_callV1P (M_ranked (l := l) hlt hM hR hW.1.1 hW.1.2.1) rfl ft5 rfl mc_X5_ranked ml_X5_85 mi_X5_ranked ms_X5_ranked in_X5 (okc_X5_ranked (by decide)) dX5_digest_104 (by assumption) (cat_le (Nat.le_of_ble_eq_true rfl)) ?_
        rw [← ch_eq]
        refine pw_i2l dX5_digest_107 ?_
        refine g_callV1G (M_mix (l := l) hlt) rfl ft5 rfl mc_X5_mix ml_X5_206 mi_X5_mix ms_X5_mix in_X5 (okc_X5_mix (by decide)) dX5_digest_108 (by assumption) (cat_le (Nat.le_of_ble_eq_true rfl)) (fun _ _ _ _ h => h.elim) (by decide) (fun zv108 zim108 zrm108 zlm108 zh108 => ?_)
        obtain ⟨zv, zi, zr, zq⟩ := zh108
        rw [zv, zi, zr, zq]
        refine pw_iconst (0) dX5_digest_111 (by decide) ?_
        refine t_istore1 dX5_digest_112 (by decide) okp_r ?_
        exact p113 4 0 _ imk rfl hZ hth (by rw [hf]; rfl)
      · have zj : j < 5 := (nI_ltI (b := 5) (by omega) (by decide)).mp (Int32.not_le.mp zc82)
        obtain ⟨z', rfl⟩ : ∃ z', z = z' + 1 := ⟨z - 1, by omega⟩
        refine t_aload0 dX5_digest_85 ?_
        refine t_aload0 dX5_digest_86 ?_
        refine t_iload1 dX5_digest_87 ?_
        refine g_callV1P (M_ranked (l := l) hlt hM hR hW.1.1 hW.1.2.1) rfl ft5 rfl mc_X5_ranked ml_X5_85 mi_X5_ranked ms_X5_ranked in_X5 (okc_X5_ranked (by decide)) dX5_digest_88 (by assumption) (cat_le (Nat.le_of_ble_eq_true rfl)) ?_
        rw [rkM_eq (by omega)]
        refine pw_i2l dX5_digest_91 ?_
        refine g_callV1G (M_mix (l := l) hlt) rfl ft5 rfl mc_X5_mix ml_X5_206 mi_X5_mix ms_X5_mix in_X5 (okc_X5_mix (by decide)) dX5_digest_92 (by assumption) (cat_le (Nat.le_of_ble_eq_true rfl)) (fun _ _ _ _ h => h.elim) (by decide) (fun zv92 zim92 zrm92 zlm92 zh92 => ?_)
        obtain ⟨zv, zi, zr, zq⟩ := zh92
        rw [zv, zi, zr, zq]
        refine t_iinc1 (1) dX5_digest_95 (by decide) (by decide) okp_r ?_
        refine pw_goto 80 dX5_digest_98 (by decide) ?_
        rw [nI_1]
        exact ih z' (by omega) (j + 1) _ _ (by omega) hZ hth (by rw [hf]; rfl)
  have p56 : ∀ (z j : Nat) (x : Int64) (imk : TI), j + z = 12 → MZ Y S n T sn bl B imk → imk 240 8 = 0 → dgS S n bl B = d5S bl B (d4S S (31 * mxN (fun r => (oI (rkS S r)).toInt64) 5 0 (mxN (fun k => (tdF S (nI k)).toInt64) z j x) + (oI (chS S)).toInt64)) → PW l m_X5_digest 9 0 0 NN 56 [some (pv (some 240)), some (.int (nI j))] [] imk rm (ul lm 240 13 x) (QG (fun v i r q => v = some (.long (dgS S n bl B)) ∧ r = rm ∧ q = ul lm 240 13 (dgS S n bl B) ∧ i 240 8 = 0 ∧ MZ Y S n T sn bl B i)) noX := by
    intro z
    induction z using Nat.strongRecOn with
    | _ z ih =>
      intro j x imk hj hZ hth hf
      have hR : MS imk S imk := ⟨hZ.1, fun _ _ => rfl⟩
      refine t_iload1 dX5_digest_56 ?_
      refine pw_bipush (12) dX5_digest_57 (by decide) ?_
      refine pw_icmp_ge 78 dX5_digest_59 (by decide) (fun zc59 => ?_) (fun zc59 => ?_)
      · have zj : 12 ≤ j := (nI_leI (a := 12) (by decide) (by omega)).mp zc59
        have zn : z = 0 := by omega
        subst zn
        refine pw_iconst (0) dX5_digest_78 (by decide) ?_
        refine t_istore1 dX5_digest_79 (by decide) okp_r ?_
        exact p80 5 0 _ imk rfl hZ hth (by rw [hf]; rfl)
      · have zj : j < 12 := (nI_ltI (b := 12) (by omega) (by decide)).mp (Int32.not_le.mp zc59)
        obtain ⟨z', rfl⟩ : ∃ z', z = z' + 1 := ⟨z - 1, by omega⟩
        refine t_aload0 dX5_digest_62 ?_
        refine t_aload0 dX5_digest_63 ?_
        refine t_iload1 dX5_digest_64 ?_
        refine g_callV1P (M_tideIn (l := l) hlt hM hR) rfl ft5 rfl mc_X5_tideIn ml_X5_60 mi_X5_tideIn ms_X5_tideIn in_X5 (okc_X5_tideIn (by decide)) dX5_digest_65 (by assumption) (cat_le (Nat.le_of_ble_eq_true rfl)) ?_
        refine pw_i2l dX5_digest_68 ?_
        refine g_callV1G (M_mix (l := l) hlt) rfl ft5 rfl mc_X5_mix ml_X5_206 mi_X5_mix ms_X5_mix in_X5 (okc_X5_mix (by decide)) dX5_digest_69 (by assumption) (cat_le (Nat.le_of_ble_eq_true rfl)) (fun _ _ _ _ h => h.elim) (by decide) (fun zv69 zim69 zrm69 zlm69 zh69 => ?_)
        obtain ⟨zv, zi, zr, zq⟩ := zh69
        rw [zv, zi, zr, zq]
        refine t_iinc1 (1) dX5_digest_72 (by decide) (by decide) okp_r ?_
        refine pw_goto 56 dX5_digest_75 (by decide) ?_
        rw [nI_1]
        exact ih z' (by omega) (j + 1) _ _ (by omega) hZ hth (by rw [hf]; rfl)
  have p38 : ∀ (z j : Nat) (x : Int64) (imk : TI), j + z = 5 → MZ Y S n T sn bl B imk → imk 240 8 = 0 → dgS S n bl B = d5S bl B (d4S S (d3S S (wmZ S z j x))) → PW l m_X5_digest 9 0 0 NN 38 [some (pv (some 240)), some (.int (nI j))] [] imk rm (ul lm 240 13 x) (QG (fun v i r q => v = some (.long (dgS S n bl B)) ∧ r = rm ∧ q = ul lm 240 13 (dgS S n bl B) ∧ i 240 8 = 0 ∧ MZ Y S n T sn bl B i)) noX := by
    intro z
    induction z using Nat.strongRecOn with
    | _ z ih =>
      intro j x imk hj hZ hth hf
      have hR : MS imk S imk := ⟨hZ.1, fun _ _ => rfl⟩
      refine t_iload1 dX5_digest_38 ?_
      refine pw_iconst (5) dX5_digest_39 (by decide) ?_
      refine pw_icmp_ge 54 dX5_digest_40 (by decide) (fun zc40 => ?_) (fun zc40 => ?_)
      · have zj : 5 ≤ j := (nI_leI (a := 5) (by decide) (by omega)).mp zc40
        have zn : z = 0 := by omega
        subst zn
        refine pw_iconst (0) dX5_digest_54 (by decide) ?_
        refine t_istore1 dX5_digest_55 (by decide) okp_r ?_
        exact p56 12 0 _ imk rfl hZ hth (by rw [hf]; rfl)
      · have zj : j < 5 := (nI_ltI (b := 5) (by omega) (by decide)).mp (Int32.not_le.mp zc40)
        obtain ⟨z', rfl⟩ : ∃ z', z = z' + 1 := ⟨z - 1, by omega⟩
        refine t_aload0 dX5_digest_43 ?_
        refine t_iload1 dX5_digest_44 ?_
        refine g_callV1G (M_mixMill (l := l) hlt hM hZ.1.mb hW (m := j) zj) rfl ft5 rfl mc_X5_mixMill ml_X5_214 mi_X5_mixMill ms_X5_mixMill in_X5 (okc_X5_mixMill (by decide)) dX5_digest_45 (by assumption) (cat_le (Nat.le_of_ble_eq_true rfl)) (fun _ _ _ _ h => h.elim) (by decide) (fun zv45 zim45 zrm45 zlm45 zh45 => ?_)
        obtain ⟨zv, zr, zq, zB⟩ := zh45
        rw [zv, zr, zq]
        have hZ := hZ.tri zB
        have hth := (congrFun (zB.2 240 (by decide) (by decide)) 8).trans hth
        refine t_iinc1 (1) dX5_digest_48 (by decide) (by decide) okp_r ?_
        refine pw_goto 38 dX5_digest_51 (by decide) ?_
        rw [nI_1]
        exact ih z' (by omega) (j + 1) _ _ (by omega) hZ hth (by rw [hf]; rfl)
  have p14 : ∀ (z j : Nat) (x : Int64) (imk : TI), j + z = 15 → MZ Y S n T sn bl B imk → imk 240 8 = 0 → dgS S n bl B = d5S bl B (d4S S (d3S S (d2S S (mxN (fun w => (alS S n w).toInt64) z j x)))) → PW l m_X5_digest 9 0 0 NN 14 [some (pv (some 240)), some (.int (nI j))] [] imk rm (ul lm 240 13 x) (QG (fun v i r q => v = some (.long (dgS S n bl B)) ∧ r = rm ∧ q = ul lm 240 13 (dgS S n bl B) ∧ i 240 8 = 0 ∧ MZ Y S n T sn bl B i)) noX := by
    intro z
    induction z using Nat.strongRecOn with
    | _ z ih =>
      intro j x imk hj hZ hth hf
      have hR : MS imk S imk := ⟨hZ.1, fun _ _ => rfl⟩
      refine t_iload1 dX5_digest_14 ?_
      refine pw_bipush (15) dX5_digest_15 (by decide) ?_
      refine pw_icmp_ge 36 dX5_digest_17 (by decide) (fun zc17 => ?_) (fun zc17 => ?_)
      · have zj : 15 ≤ j := (nI_leI (a := 15) (by decide) (by omega)).mp zc17
        have zn : z = 0 := by omega
        subst zn
        refine pw_iconst (0) dX5_digest_36 (by decide) ?_
        refine t_istore1 dX5_digest_37 (by decide) okp_r ?_
        exact p38 5 0 _ imk rfl hZ hth (by rw [hf]; rfl)
      · have zj : j < 15 := (nI_ltI (b := 15) (by omega) (by decide)).mp (Int32.not_le.mp zc17)
        obtain ⟨z', rfl⟩ : ∃ z', z = z' + 1 := ⟨z - 1, by omega⟩
        refine t_aload0 dX5_digest_20 ?_
        refine t_aload0 dX5_digest_21 ?_
        refine t_iload1 dX5_digest_22 ?_
        refine g_callV1P (M_countTold (l := l) hlt hM hR hZ.2.1.1 (v := j) (by omega)) rfl ft5 rfl mc_X5_countTold ml_X5_172 mi_X5_countTold ms_X5_countTold in_X5 (okc_X5_countTold (by decide)) dX5_digest_23 (by assumption) (cat_le (Nat.le_of_ble_eq_true rfl)) ?_
        refine pw_i2l dX5_digest_26 ?_
        refine g_callV1G (M_mix (l := l) hlt) rfl ft5 rfl mc_X5_mix ml_X5_206 mi_X5_mix ms_X5_mix in_X5 (okc_X5_mix (by decide)) dX5_digest_27 (by assumption) (cat_le (Nat.le_of_ble_eq_true rfl)) (fun _ _ _ _ h => h.elim) (by decide) (fun zv27 zim27 zrm27 zlm27 zh27 => ?_)
        obtain ⟨zv, zi, zr, zq⟩ := zh27
        rw [zv, zi, zr, zq]
        refine t_iinc1 (1) dX5_digest_30 (by decide) (by decide) okp_r ?_
        refine pw_goto 14 dX5_digest_33 (by decide) ?_
        rw [nI_1]
        exact ih z' (by omega) (j + 1) _ _ (by omega) hZ hth (by rw [hf]; rfl)
  refine t_aload0 dX5_digest_0 ?_
  refine pw_iconst (0) dX5_digest_1 (by decide) ?_
  refine g_puti ft5 fl_X5_32 (j := 8) (by decide) ⟨rfl, rfl⟩ dX5_digest_2 (by assumption) ?_
  refine t_aload0 dX5_digest_5 ?_
  refine pw_ldc2 k_X5_212 dX5_digest_6 ?_
  refine g_putl ft5 fl_X5_202 (j := 13) (by decide) ⟨rfl, rfl⟩ dX5_digest_9 (by assumption) ?_
  refine pw_iconst (0) dX5_digest_12 (by decide) ?_
  refine t_istore1 dX5_digest_13 (by decide) okp_r ?_
  exact p14 15 0 _ _ rfl hZ.th th_at rfl

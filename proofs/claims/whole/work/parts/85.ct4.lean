/-! Constructors: the reference -/
set_option maxHeartbeats 4000000 in
set_option maxRecDepth 100000 in
theorem K_put {l : Launch} (hlt : l.stackTraces = false) {N : Nat} {im : TI} {rm : TP} {lm : TL} {M V x : Int32} (h0 : rm 240 0 = some 241) (hN : 241 < N) (hin : vp_in (12 + 34 * M + V) 182) : Con l m_X5_put 0 0 0 N [pv (some 240), .int M, .int V, .int x] im rm lm (fun N' v i r q => N' = N ∧ v = none ∧ i = ui im 241 (12 + 34 * M + V).toNatClampNeg x ∧ r = rm ∧ q = lm) noX := by
  refine Con.ofN (k := 0) (L0 := [some (pv (some 240)), some (.int M), some (.int V), some (.int x)]) hlt (by decide +kernel) rfl rfl (by rw [en1 pv_cat, en1 rfl, en1 rfl, en1 rfl, en0]; exact Nat.le_of_ble_eq_true rfl) (by rw [en1 pv_cat, en1 rfl, en1 rfl, en1 rfl, en0]; rfl) ?_
  refine t_aload0 dX5_put_0 ?_
  refine pw_getr (k := 240) ft5 fl_X5_7 (j := 0) (by decide) (by decide) dX5_put_1 kdM (by omega) h0 ?_
  refine pw_bipush (12) dX5_put_4 (by decide) ?_
  refine pw_bipush (34) dX5_put_6 (by decide) ?_
  refine t_iload1 dX5_put_8 ?_
  refine pw_imul dX5_put_9 ?_
  refine pw_iadd dX5_put_10 ?_
  refine t_iload2 dX5_put_11 ?_
  refine pw_iadd dX5_put_12 ?_
  refine t_iload3 dX5_put_13 ?_
  refine pw_iast (k := 241) dX5_put_14 kds hN (by rw [als]; exact hin) ?_
  refine pw_vret dX5_put_15 rfl ?_
  exact ⟨rfl, rfl, rfl, rfl, rfl⟩
def pR (R : Nat → Int32) (m : Nat) : Nat → Int32 := fun j => if j = 12 + 34 * m then 200 else if j = 14 + 34 * m then 20 else if j = 16 + 34 * m then 11 else if j = 17 + 34 * m then 40 else if j = 18 + 34 * m then 10 else R j
def rw0 : Nat → Int32 := fun j => if j = 9 then 10 else if j = 10 then 20 else if j = 11 then 20 else 0
theorem rwS0 : RW (pR (pR (pR (pR (pR rw0 0) 1) 2) 3) 4) S0 := by
  refine ⟨?_, ?_, ?_⟩
  · have h : ∀ j, j < 12 → pR (pR (pR (pR (pR rw0 0) 1) 2) 3) 4 j = S0.1 j := by decide +kernel
    exact h
  · have h : ∀ m, m < 5 → ∀ w, w < 10 → pR (pR (pR (pR (pR rw0 0) 1) 2) 3) 4 (12 + 34 * m + w) = f0 w := by decide +kernel
    exact fun m w h1 h2 => h m h1 w h2
  · have h : ∀ m, m < 5 → ∀ p, p < 6 → ∀ k, k < 4 → pR (pR (pR (pR (pR rw0 0) 1) 2) 3) 4 (22 + 34 * m + 4 * p + k) = 0 := by decide +kernel
    exact fun m p k h1 h2 h3 => h m h1 p h2 k h3
theorem rwB : ∀ j, (if j = 11 then (20 : Int32) else if j = 10 then 20 else if j = 9 then 10 else 0) = rw0 j := by
  intro j
  unfold rw0
  repeat' split
  all_goals first | rfl | omega
set_option maxHeartbeats 4000000 in
set_option maxRecDepth 100000 in
theorem K_Model {l : Launch} (hlt : l.stackTraces = false) {im : TI} {rm : TP} {lm : TL} (z240 : im 240 = fun _ => 0) (hF : FS 241 im rm lm) : Con l m_X5_init 1 6 1701 (241) [pv (some 240)] im rm lm (fun N' v i r q => N' = 247 ∧ v = none ∧ MZ im S0 0 (fun _ => S0) none 0 (fun _ => 0) i ∧ MM r ∧ (∀ k, k < 240 → r k = rm k) ∧ q = lm ∧ FS 247 i r q) noX := by
  refine Con.ofN (k := 1) (L0 := [some (pv (some 240)), none]) hlt (by decide +kernel) rfl rfl (by rw [en1 pv_cat, en0]; exact Nat.le_of_ble_eq_true rfl) (by rw [en1 pv_cat, en0]; rfl) ?_
  have z241 := (hF.1 241 (by omega)).1
  have z245 := (hF.1 245 (by omega)).1
  refine t_aload0 dX5_init_0 ?_
  refine pw_objInit oi_X5 (by omega) dX5_init_1 (Nat.zero_le _) ?_
  refine t_aload0 dX5_init_4 ?_
  refine pw_sipush (182) dX5_init_5 (by decide) ?_
  refine PW.room (mc' := 5 + 1) (ms' := 1519 + al 241) (by decide) (by rw [als]; decide) ?_
  refine pw_newi dX5_init_8 kds (by decide) (by rw [als]; decide) (by rw [als]; decide) (by omega) hF noXe (okL_s (okr (by omega)) (okL_n okL_z)) (okS_c (okr (by omega)) okS_z) ?_
  have hF := hF.up (N2 := 242) (by omega)
  refine pw_putr (C2 := "") (o := (some 241)) ft5 fl_X5_7 (j := 0) (by decide) (by decide) (Or.inr ⟨rfl, rfl⟩) (Or.inr ⟨_, rfl⟩) dX5_init_10 kdM (by omega) ?_
  have hF := hF.ur (o := 240) (k := 0) (v := (some 241)) (by omega) (fun z hz => by cases hz; omega)
  refine t_aload0 dX5_init_13 ?_
  refine pw_sipush (1092) dX5_init_14 (by decide) ?_
  refine PW.room (mc' := 4 + 1) (ms' := 427 + al 242) (by decide) (by rw [alv]; decide) ?_
  refine pw_newi dX5_init_17 kdv (by decide) (by rw [alv]; decide) (by rw [alv]; decide) (by omega) hF noXe (okL_s (okr (by omega)) (okL_n okL_z)) (okS_c (okr (by omega)) okS_z) ?_
  have hF := hF.up (N2 := 243) (by omega)
  refine pw_putr (C2 := "") (o := (some 242)) ft5 fl_X5_13 (j := 1) (by decide) (by decide) (Or.inr ⟨rfl, rfl⟩) (Or.inr ⟨_, rfl⟩) dX5_init_19 kdM (by omega) ?_
  have hF := hF.ur (o := 240) (k := 1) (v := (some 242)) (by omega) (fun z hz => by cases hz; omega)
  refine t_aload0 dX5_init_22 ?_
  refine pw_sipush (182) dX5_init_23 (by decide) ?_
  refine PW.room (mc' := 3 + 1) (ms' := 245 + al 243) (by decide) (by rw [alp]; decide) ?_
  refine pw_newi dX5_init_26 kdp (by decide) (by rw [alp]; decide) (by rw [alp]; decide) (by omega) hF noXe (okL_s (okr (by omega)) (okL_n okL_z)) (okS_c (okr (by omega)) okS_z) ?_
  have hF := hF.up (N2 := 244) (by omega)
  refine pw_putr (C2 := "") (o := (some 243)) ft5 fl_X5_16 (j := 3) (by decide) (by decide) (Or.inr ⟨rfl, rfl⟩) (Or.inr ⟨_, rfl⟩) dX5_init_28 kdM (by omega) ?_
  have hF := hF.ur (o := 240) (k := 3) (v := (some 243)) (by omega) (fun z hz => by cases hz; omega)
  refine t_aload0 dX5_init_31 ?_
  refine pw_sipush (182) dX5_init_32 (by decide) ?_
  refine PW.room (mc' := 2 + 1) (ms' := 63 + al 244) (by decide) (by rw [alb]; decide) ?_
  refine pw_newi dX5_init_35 kdb (by decide) (by rw [alb]; decide) (by rw [alb]; decide) (by omega) hF noXe (okL_s (okr (by omega)) (okL_n okL_z)) (okS_c (okr (by omega)) okS_z) ?_
  have hF := hF.up (N2 := 245) (by omega)
  refine pw_putr (C2 := "") (o := (some 244)) ft5 fl_X5_19 (j := 5) (by decide) (by decide) (Or.inr ⟨rfl, rfl⟩) (Or.inr ⟨_, rfl⟩) dX5_init_37 kdM (by omega) ?_
  have hF := hF.ur (o := 240) (k := 5) (v := (some 244)) (by omega) (fun z hz => by cases hz; omega)
  refine t_aload0 dX5_init_40 ?_
  refine pw_bipush (60) dX5_init_41 (by decide) ?_
  refine PW.room (mc' := 1 + 1) (ms' := 3 + al 245) (by decide) (by rw [alt]; decide) ?_
  refine pw_newi dX5_init_43 kdt (by decide) (by rw [alt]; decide) (by rw [alt]; decide) (by omega) hF noXe (okL_s (okr (by omega)) (okL_n okL_z)) (okS_c (okr (by omega)) okS_z) ?_
  have hF := hF.up (N2 := 246) (by omega)
  refine pw_putr (C2 := "") (o := (some 245)) ft5 fl_X5_22 (j := 6) (by decide) (by decide) (Or.inr ⟨rfl, rfl⟩) (Or.inr ⟨_, rfl⟩) dX5_init_45 kdM (by omega) ?_
  have hF := hF.ur (o := 240) (k := 6) (v := (some 245)) (by omega) (fun z hz => by cases hz; omega)
  refine t_aload0 dX5_init_48 ?_
  refine pw_iconst (3) dX5_init_49 (by decide) ?_
  refine PW.room (mc' := 0 + 1) (ms' := 0 + al 246) (by decide) (by rw [alo]; decide) ?_
  refine pw_newi dX5_init_50 kdo (by decide) (by rw [alo]; decide) (by rw [alo]; decide) (by omega) hF noXe (okL_s (okr (by omega)) (okL_n okL_z)) (okS_c (okr (by omega)) okS_z) ?_
  have hF := hF.up (N2 := 247) (by omega)
  refine pw_putr (C2 := "") (o := (some 246)) ft5 fl_X5_25 (j := 11) (by decide) (by decide) (Or.inr ⟨rfl, rfl⟩) (Or.inr ⟨_, rfl⟩) dX5_init_52 kdM (by omega) ?_
  have hF := hF.ur (o := 240) (k := 11) (v := (some 246)) (by omega) (fun z hz => by cases hz; omega)
  refine t_aload0 dX5_init_55 ?_
  refine pw_getr (o := (some 241)) ft5 fl_X5_7 (j := 0) (by decide) (by decide) dX5_init_56 kdM (by omega) (by simp [ur_ap]) ?_
  refine pw_bipush (9) dX5_init_59 (by decide) ?_
  refine pw_bipush (10) dX5_init_61 (by decide) ?_
  refine pw_iast dX5_init_63 kds (by omega) (by rw [als]; unfold vp_in; decide) ?_
  have hF := hF.ui (o := 241) (k := (9 : Int32).toNatClampNeg) (v := 10) (by omega)
  refine t_aload0 dX5_init_64 ?_
  refine pw_getr (o := (some 241)) ft5 fl_X5_7 (j := 0) (by decide) (by decide) dX5_init_65 kdM (by omega) (by simp [ur_ap]) ?_
  refine pw_bipush (10) dX5_init_68 (by decide) ?_
  refine pw_bipush (20) dX5_init_70 (by decide) ?_
  refine pw_iast dX5_init_72 kds (by omega) (by rw [als]; unfold vp_in; decide) ?_
  have hF := hF.ui (o := 241) (k := (10 : Int32).toNatClampNeg) (v := 20) (by omega)
  refine t_aload0 dX5_init_73 ?_
  refine pw_getr (o := (some 241)) ft5 fl_X5_7 (j := 0) (by decide) (by decide) dX5_init_74 kdM (by omega) (by simp [ur_ap]) ?_
  refine pw_bipush (11) dX5_init_77 (by decide) ?_
  refine pw_bipush (20) dX5_init_79 (by decide) ?_
  refine pw_iast dX5_init_81 kds (by omega) (by rw [als]; unfold vp_in; decide) ?_
  have hF := hF.ui (o := 241) (k := (11 : Int32).toNatClampNeg) (v := 20) (by omega)
  refine pw_iconst (0) dX5_init_82 (by decide) ?_
  refine t_istore1 dX5_init_83 (by decide) okp_r ?_
  refine PW.gen (fun i r => i 241 = rw0 ∧ (∀ k, k ≠ 241 → i k = im k) ∧ (∀ k, k ≠ 240 → r k = rm k) ∧ MM r ∧ FS 247 i r lm) ⟨?_, fun k hk => ?_, fun k hk => ?_, ⟨?_, ?_, ?_, ?_, ?_, ?_⟩, hF⟩ fun i0 r0 ⟨hR, hI, hR0, hMM, hF⟩ => ?_
  · funext j; rw [← rwB]; simp [ui_ap, z241]
  · funext j; simp [ui_ap, hk]
  · funext j; simp [ur_ap, hk]
  · simp [ur_ap]
  · simp [ur_ap]
  · simp [ur_ap]
  · simp [ur_ap]
  · simp [ur_ap]
  · simp [ur_ap]
  have h0 := hMM.1
  refine t_iload1 dX5_init_84 ?_
  refine pw_iconst (5) dX5_init_85 (by decide) ?_
  refine pw_icmp_ge 137 dX5_init_86 (by decide) (fun h => absurd h (by decide)) (fun _ => ?_)
  refine t_aload0 dX5_init_89 ?_
  refine t_iload1 dX5_init_90 ?_
  refine pw_iconst (0) dX5_init_91 (by decide) ?_
  refine pw_sipush (200) dX5_init_92 (by decide) ?_
  refine PW.room (mc' := 0 + 0) (ms' := 0 + 0) (by decide) (by decide) ?_
  refine pw_callV (as := [.int (0), .int (0), .int (200)]) (b := 240) (K_put (l := l) hlt h0 (by decide) (by unfold vp_in; decide)) rfl ft5 rfl mc_X5_put ml_X5_28 mi_X5_put ms_X5_put in_X5 (okc_X5_put (by decide)) dX5_init_95 kdM (by decide) (by exact Nat.le_of_ble_eq_true rfl) (fun N' v i r q h => Or.inl h.1) (fun _ _ _ _ h => h.elim) (fun zN zv zi089 zr089 zq089 zh => ?_)
  obtain ⟨rfl, rfl, rfl, hr, hq⟩ := zh; obtain rfl := hr.symm; obtain rfl := hq.symm
  refine t_aload0 dX5_init_98 ?_
  refine t_iload1 dX5_init_99 ?_
  refine pw_iconst (2) dX5_init_100 (by decide) ?_
  refine pw_bipush (20) dX5_init_101 (by decide) ?_
  refine PW.room (mc' := 0 + 0) (ms' := 0 + 0) (by decide) (by decide) ?_
  refine pw_callV (as := [.int (0), .int (2), .int (20)]) (b := 240) (K_put (l := l) hlt h0 (by decide) (by unfold vp_in; decide)) rfl ft5 rfl mc_X5_put ml_X5_28 mi_X5_put ms_X5_put in_X5 (okc_X5_put (by decide)) dX5_init_103 kdM (by decide) (by exact Nat.le_of_ble_eq_true rfl) (fun N' v i r q h => Or.inl h.1) (fun _ _ _ _ h => h.elim) (fun zN zv zi098 zr098 zq098 zh => ?_)
  obtain ⟨rfl, rfl, rfl, hr, hq⟩ := zh; obtain rfl := hr.symm; obtain rfl := hq.symm
  refine t_aload0 dX5_init_106 ?_
  refine t_iload1 dX5_init_107 ?_
  refine pw_iconst (4) dX5_init_108 (by decide) ?_
  refine pw_bipush (11) dX5_init_109 (by decide) ?_
  refine PW.room (mc' := 0 + 0) (ms' := 0 + 0) (by decide) (by decide) ?_
  refine pw_callV (as := [.int (0), .int (4), .int (11)]) (b := 240) (K_put (l := l) hlt h0 (by decide) (by unfold vp_in; decide)) rfl ft5 rfl mc_X5_put ml_X5_28 mi_X5_put ms_X5_put in_X5 (okc_X5_put (by decide)) dX5_init_111 kdM (by decide) (by exact Nat.le_of_ble_eq_true rfl) (fun N' v i r q h => Or.inl h.1) (fun _ _ _ _ h => h.elim) (fun zN zv zi0106 zr0106 zq0106 zh => ?_)
  obtain ⟨rfl, rfl, rfl, hr, hq⟩ := zh; obtain rfl := hr.symm; obtain rfl := hq.symm
  refine t_aload0 dX5_init_114 ?_
  refine t_iload1 dX5_init_115 ?_
  refine pw_iconst (5) dX5_init_116 (by decide) ?_
  refine pw_bipush (40) dX5_init_117 (by decide) ?_
  refine PW.room (mc' := 0 + 0) (ms' := 0 + 0) (by decide) (by decide) ?_
  refine pw_callV (as := [.int (0), .int (5), .int (40)]) (b := 240) (K_put (l := l) hlt h0 (by decide) (by unfold vp_in; decide)) rfl ft5 rfl mc_X5_put ml_X5_28 mi_X5_put ms_X5_put in_X5 (okc_X5_put (by decide)) dX5_init_119 kdM (by decide) (by exact Nat.le_of_ble_eq_true rfl) (fun N' v i r q h => Or.inl h.1) (fun _ _ _ _ h => h.elim) (fun zN zv zi0114 zr0114 zq0114 zh => ?_)
  obtain ⟨rfl, rfl, rfl, hr, hq⟩ := zh; obtain rfl := hr.symm; obtain rfl := hq.symm
  refine t_aload0 dX5_init_122 ?_
  refine t_iload1 dX5_init_123 ?_
  refine pw_bipush (6) dX5_init_124 (by decide) ?_
  refine pw_bipush (10) dX5_init_126 (by decide) ?_
  refine PW.room (mc' := 0 + 0) (ms' := 0 + 0) (by decide) (by decide) ?_
  refine pw_callV (as := [.int (0), .int (6), .int (10)]) (b := 240) (K_put (l := l) hlt h0 (by decide) (by unfold vp_in; decide)) rfl ft5 rfl mc_X5_put ml_X5_28 mi_X5_put ms_X5_put in_X5 (okc_X5_put (by decide)) dX5_init_128 kdM (by decide) (by exact Nat.le_of_ble_eq_true rfl) (fun N' v i r q h => Or.inl h.1) (fun _ _ _ _ h => h.elim) (fun zN zv zi0122 zr0122 zq0122 zh => ?_)
  obtain ⟨rfl, rfl, rfl, hr, hq⟩ := zh; obtain rfl := hr.symm; obtain rfl := hq.symm
  refine t_iinc1 (1) dX5_init_131 (by decide) (by decide) okp_r ?_
  rw [show ((0 : Int32) + (1)) = 1 by decide]
  refine pw_goto 84 dX5_init_134 (by decide) ?_
  refine PW.gen (fun i r => i 241 = (pR rw0 0) ∧ (∀ k, k ≠ 241 → i k = im k) ∧ r = r0 ∧ FS 247 i r lm) ⟨?_, fun k hk => ?_, rfl, ((((hF.ui (by decide)).ui (by decide)).ui (by decide)).ui (by decide)).ui (by decide)⟩ fun i1 rr ⟨hR, hI, e0, hF⟩ => ?_
  · funext j; rw [show (pR rw0 0) = pR _ 0 from rfl, ← hR]; unfold pR; simp only [ui_at]; rw [show (12 + 34 * (0 : Int32) + 0).toNatClampNeg = 12 + 34 * 0 by decide, show (12 + 34 * (0 : Int32) + 2).toNatClampNeg = 14 + 34 * 0 by decide, show (12 + 34 * (0 : Int32) + 4).toNatClampNeg = 16 + 34 * 0 by decide, show (12 + 34 * (0 : Int32) + 5).toNatClampNeg = 17 + 34 * 0 by decide, show (12 + 34 * (0 : Int32) + 6).toNatClampNeg = 18 + 34 * 0 by decide]; repeat' split
    all_goals first | rfl | omega
  · rw [ui_ne hk, ui_ne hk, ui_ne hk, ui_ne hk, ui_ne hk]; exact hI k hk
  obtain rfl := e0.symm
  refine t_iload1 dX5_init_84 ?_
  refine pw_iconst (5) dX5_init_85 (by decide) ?_
  refine pw_icmp_ge 137 dX5_init_86 (by decide) (fun h => absurd h (by decide)) (fun _ => ?_)
  refine t_aload0 dX5_init_89 ?_
  refine t_iload1 dX5_init_90 ?_
  refine pw_iconst (0) dX5_init_91 (by decide) ?_
  refine pw_sipush (200) dX5_init_92 (by decide) ?_
  refine PW.room (mc' := 0 + 0) (ms' := 0 + 0) (by decide) (by decide) ?_
  refine pw_callV (as := [.int (1), .int (0), .int (200)]) (b := 240) (K_put (l := l) hlt h0 (by decide) (by unfold vp_in; decide)) rfl ft5 rfl mc_X5_put ml_X5_28 mi_X5_put ms_X5_put in_X5 (okc_X5_put (by decide)) dX5_init_95 kdM (by decide) (by exact Nat.le_of_ble_eq_true rfl) (fun N' v i r q h => Or.inl h.1) (fun _ _ _ _ h => h.elim) (fun zN zv zi189 zr189 zq189 zh => ?_)
  obtain ⟨rfl, rfl, rfl, hr, hq⟩ := zh; obtain rfl := hr.symm; obtain rfl := hq.symm
  refine t_aload0 dX5_init_98 ?_
  refine t_iload1 dX5_init_99 ?_
  refine pw_iconst (2) dX5_init_100 (by decide) ?_
  refine pw_bipush (20) dX5_init_101 (by decide) ?_
  refine PW.room (mc' := 0 + 0) (ms' := 0 + 0) (by decide) (by decide) ?_
  refine pw_callV (as := [.int (1), .int (2), .int (20)]) (b := 240) (K_put (l := l) hlt h0 (by decide) (by unfold vp_in; decide)) rfl ft5 rfl mc_X5_put ml_X5_28 mi_X5_put ms_X5_put in_X5 (okc_X5_put (by decide)) dX5_init_103 kdM (by decide) (by exact Nat.le_of_ble_eq_true rfl) (fun N' v i r q h => Or.inl h.1) (fun _ _ _ _ h => h.elim) (fun zN zv zi198 zr198 zq198 zh => ?_)
  obtain ⟨rfl, rfl, rfl, hr, hq⟩ := zh; obtain rfl := hr.symm; obtain rfl := hq.symm
  refine t_aload0 dX5_init_106 ?_
  refine t_iload1 dX5_init_107 ?_
  refine pw_iconst (4) dX5_init_108 (by decide) ?_
  refine pw_bipush (11) dX5_init_109 (by decide) ?_
  refine PW.room (mc' := 0 + 0) (ms' := 0 + 0) (by decide) (by decide) ?_
  refine pw_callV (as := [.int (1), .int (4), .int (11)]) (b := 240) (K_put (l := l) hlt h0 (by decide) (by unfold vp_in; decide)) rfl ft5 rfl mc_X5_put ml_X5_28 mi_X5_put ms_X5_put in_X5 (okc_X5_put (by decide)) dX5_init_111 kdM (by decide) (by exact Nat.le_of_ble_eq_true rfl) (fun N' v i r q h => Or.inl h.1) (fun _ _ _ _ h => h.elim) (fun zN zv zi1106 zr1106 zq1106 zh => ?_)
  obtain ⟨rfl, rfl, rfl, hr, hq⟩ := zh; obtain rfl := hr.symm; obtain rfl := hq.symm
  refine t_aload0 dX5_init_114 ?_
  refine t_iload1 dX5_init_115 ?_
  refine pw_iconst (5) dX5_init_116 (by decide) ?_
  refine pw_bipush (40) dX5_init_117 (by decide) ?_
  refine PW.room (mc' := 0 + 0) (ms' := 0 + 0) (by decide) (by decide) ?_
  refine pw_callV (as := [.int (1), .int (5), .int (40)]) (b := 240) (K_put (l := l) hlt h0 (by decide) (by unfold vp_in; decide)) rfl ft5 rfl mc_X5_put ml_X5_28 mi_X5_put ms_X5_put in_X5 (okc_X5_put (by decide)) dX5_init_119 kdM (by decide) (by exact Nat.le_of_ble_eq_true rfl) (fun N' v i r q h => Or.inl h.1) (fun _ _ _ _ h => h.elim) (fun zN zv zi1114 zr1114 zq1114 zh => ?_)
  obtain ⟨rfl, rfl, rfl, hr, hq⟩ := zh; obtain rfl := hr.symm; obtain rfl := hq.symm
  refine t_aload0 dX5_init_122 ?_
  refine t_iload1 dX5_init_123 ?_
  refine pw_bipush (6) dX5_init_124 (by decide) ?_
  refine pw_bipush (10) dX5_init_126 (by decide) ?_
  refine PW.room (mc' := 0 + 0) (ms' := 0 + 0) (by decide) (by decide) ?_
  refine pw_callV (as := [.int (1), .int (6), .int (10)]) (b := 240) (K_put (l := l) hlt h0 (by decide) (by unfold vp_in; decide)) rfl ft5 rfl mc_X5_put ml_X5_28 mi_X5_put ms_X5_put in_X5 (okc_X5_put (by decide)) dX5_init_128 kdM (by decide) (by exact Nat.le_of_ble_eq_true rfl) (fun N' v i r q h => Or.inl h.1) (fun _ _ _ _ h => h.elim) (fun zN zv zi1122 zr1122 zq1122 zh => ?_)
  obtain ⟨rfl, rfl, rfl, hr, hq⟩ := zh; obtain rfl := hr.symm; obtain rfl := hq.symm
  refine t_iinc1 (1) dX5_init_131 (by decide) (by decide) okp_r ?_
  rw [show ((1 : Int32) + (1)) = 2 by decide]
  refine pw_goto 84 dX5_init_134 (by decide) ?_
  refine PW.gen (fun i r => i 241 = (pR (pR rw0 0) 1) ∧ (∀ k, k ≠ 241 → i k = im k) ∧ r = r0 ∧ FS 247 i r lm) ⟨?_, fun k hk => ?_, rfl, ((((hF.ui (by decide)).ui (by decide)).ui (by decide)).ui (by decide)).ui (by decide)⟩ fun i2 rr ⟨hR, hI, e1, hF⟩ => ?_
  · funext j; rw [show (pR (pR rw0 0) 1) = pR _ 1 from rfl, ← hR]; unfold pR; simp only [ui_at]; rw [show (12 + 34 * (1 : Int32) + 0).toNatClampNeg = 12 + 34 * 1 by decide, show (12 + 34 * (1 : Int32) + 2).toNatClampNeg = 14 + 34 * 1 by decide, show (12 + 34 * (1 : Int32) + 4).toNatClampNeg = 16 + 34 * 1 by decide, show (12 + 34 * (1 : Int32) + 5).toNatClampNeg = 17 + 34 * 1 by decide, show (12 + 34 * (1 : Int32) + 6).toNatClampNeg = 18 + 34 * 1 by decide]; repeat' split
    all_goals first | rfl | omega
  · rw [ui_ne hk, ui_ne hk, ui_ne hk, ui_ne hk, ui_ne hk]; exact hI k hk
  obtain rfl := e1.symm
  refine t_iload1 dX5_init_84 ?_
  refine pw_iconst (5) dX5_init_85 (by decide) ?_
  refine pw_icmp_ge 137 dX5_init_86 (by decide) (fun h => absurd h (by decide)) (fun _ => ?_)
  refine t_aload0 dX5_init_89 ?_
  refine t_iload1 dX5_init_90 ?_
  refine pw_iconst (0) dX5_init_91 (by decide) ?_
  refine pw_sipush (200) dX5_init_92 (by decide) ?_
  refine PW.room (mc' := 0 + 0) (ms' := 0 + 0) (by decide) (by decide) ?_
  refine pw_callV (as := [.int (2), .int (0), .int (200)]) (b := 240) (K_put (l := l) hlt h0 (by decide) (by unfold vp_in; decide)) rfl ft5 rfl mc_X5_put ml_X5_28 mi_X5_put ms_X5_put in_X5 (okc_X5_put (by decide)) dX5_init_95 kdM (by decide) (by exact Nat.le_of_ble_eq_true rfl) (fun N' v i r q h => Or.inl h.1) (fun _ _ _ _ h => h.elim) (fun zN zv zi289 zr289 zq289 zh => ?_)
  obtain ⟨rfl, rfl, rfl, hr, hq⟩ := zh; obtain rfl := hr.symm; obtain rfl := hq.symm
  refine t_aload0 dX5_init_98 ?_
  refine t_iload1 dX5_init_99 ?_
  refine pw_iconst (2) dX5_init_100 (by decide) ?_
  refine pw_bipush (20) dX5_init_101 (by decide) ?_
  refine PW.room (mc' := 0 + 0) (ms' := 0 + 0) (by decide) (by decide) ?_
  refine pw_callV (as := [.int (2), .int (2), .int (20)]) (b := 240) (K_put (l := l) hlt h0 (by decide) (by unfold vp_in; decide)) rfl ft5 rfl mc_X5_put ml_X5_28 mi_X5_put ms_X5_put in_X5 (okc_X5_put (by decide)) dX5_init_103 kdM (by decide) (by exact Nat.le_of_ble_eq_true rfl) (fun N' v i r q h => Or.inl h.1) (fun _ _ _ _ h => h.elim) (fun zN zv zi298 zr298 zq298 zh => ?_)
  obtain ⟨rfl, rfl, rfl, hr, hq⟩ := zh; obtain rfl := hr.symm; obtain rfl := hq.symm
  refine t_aload0 dX5_init_106 ?_
  refine t_iload1 dX5_init_107 ?_
  refine pw_iconst (4) dX5_init_108 (by decide) ?_
  refine pw_bipush (11) dX5_init_109 (by decide) ?_
  refine PW.room (mc' := 0 + 0) (ms' := 0 + 0) (by decide) (by decide) ?_
  refine pw_callV (as := [.int (2), .int (4), .int (11)]) (b := 240) (K_put (l := l) hlt h0 (by decide) (by unfold vp_in; decide)) rfl ft5 rfl mc_X5_put ml_X5_28 mi_X5_put ms_X5_put in_X5 (okc_X5_put (by decide)) dX5_init_111 kdM (by decide) (by exact Nat.le_of_ble_eq_true rfl) (fun N' v i r q h => Or.inl h.1) (fun _ _ _ _ h => h.elim) (fun zN zv zi2106 zr2106 zq2106 zh => ?_)
  obtain ⟨rfl, rfl, rfl, hr, hq⟩ := zh; obtain rfl := hr.symm; obtain rfl := hq.symm
  refine t_aload0 dX5_init_114 ?_
  refine t_iload1 dX5_init_115 ?_
  refine pw_iconst (5) dX5_init_116 (by decide) ?_
  refine pw_bipush (40) dX5_init_117 (by decide) ?_
  refine PW.room (mc' := 0 + 0) (ms' := 0 + 0) (by decide) (by decide) ?_
  refine pw_callV (as := [.int (2), .int (5), .int (40)]) (b := 240) (K_put (l := l) hlt h0 (by decide) (by unfold vp_in; decide)) rfl ft5 rfl mc_X5_put ml_X5_28 mi_X5_put ms_X5_put in_X5 (okc_X5_put (by decide)) dX5_init_119 kdM (by decide) (by exact Nat.le_of_ble_eq_true rfl) (fun N' v i r q h => Or.inl h.1) (fun _ _ _ _ h => h.elim) (fun zN zv zi2114 zr2114 zq2114 zh => ?_)
  obtain ⟨rfl, rfl, rfl, hr, hq⟩ := zh; obtain rfl := hr.symm; obtain rfl := hq.symm
  refine t_aload0 dX5_init_122 ?_
  refine t_iload1 dX5_init_123 ?_
  refine pw_bipush (6) dX5_init_124 (by decide) ?_
  refine pw_bipush (10) dX5_init_126 (by decide) ?_
  refine PW.room (mc' := 0 + 0) (ms' := 0 + 0) (by decide) (by decide) ?_
  refine pw_callV (as := [.int (2), .int (6), .int (10)]) (b := 240) (K_put (l := l) hlt h0 (by decide) (by unfold vp_in; decide)) rfl ft5 rfl mc_X5_put ml_X5_28 mi_X5_put ms_X5_put in_X5 (okc_X5_put (by decide)) dX5_init_128 kdM (by decide) (by exact Nat.le_of_ble_eq_true rfl) (fun N' v i r q h => Or.inl h.1) (fun _ _ _ _ h => h.elim) (fun zN zv zi2122 zr2122 zq2122 zh => ?_)
  obtain ⟨rfl, rfl, rfl, hr, hq⟩ := zh; obtain rfl := hr.symm; obtain rfl := hq.symm
  refine t_iinc1 (1) dX5_init_131 (by decide) (by decide) okp_r ?_
  rw [show ((2 : Int32) + (1)) = 3 by decide]
  refine pw_goto 84 dX5_init_134 (by decide) ?_
  refine PW.gen (fun i r => i 241 = (pR (pR (pR rw0 0) 1) 2) ∧ (∀ k, k ≠ 241 → i k = im k) ∧ r = r0 ∧ FS 247 i r lm) ⟨?_, fun k hk => ?_, rfl, ((((hF.ui (by decide)).ui (by decide)).ui (by decide)).ui (by decide)).ui (by decide)⟩ fun i3 rr ⟨hR, hI, e2, hF⟩ => ?_
  · funext j; rw [show (pR (pR (pR rw0 0) 1) 2) = pR _ 2 from rfl, ← hR]; unfold pR; simp only [ui_at]; rw [show (12 + 34 * (2 : Int32) + 0).toNatClampNeg = 12 + 34 * 2 by decide, show (12 + 34 * (2 : Int32) + 2).toNatClampNeg = 14 + 34 * 2 by decide, show (12 + 34 * (2 : Int32) + 4).toNatClampNeg = 16 + 34 * 2 by decide, show (12 + 34 * (2 : Int32) + 5).toNatClampNeg = 17 + 34 * 2 by decide, show (12 + 34 * (2 : Int32) + 6).toNatClampNeg = 18 + 34 * 2 by decide]; repeat' split
    all_goals first | rfl | omega
  · rw [ui_ne hk, ui_ne hk, ui_ne hk, ui_ne hk, ui_ne hk]; exact hI k hk
  obtain rfl := e2.symm
  refine t_iload1 dX5_init_84 ?_
  refine pw_iconst (5) dX5_init_85 (by decide) ?_
  refine pw_icmp_ge 137 dX5_init_86 (by decide) (fun h => absurd h (by decide)) (fun _ => ?_)
  refine t_aload0 dX5_init_89 ?_
  refine t_iload1 dX5_init_90 ?_
  refine pw_iconst (0) dX5_init_91 (by decide) ?_
  refine pw_sipush (200) dX5_init_92 (by decide) ?_
  refine PW.room (mc' := 0 + 0) (ms' := 0 + 0) (by decide) (by decide) ?_
  refine pw_callV (as := [.int (3), .int (0), .int (200)]) (b := 240) (K_put (l := l) hlt h0 (by decide) (by unfold vp_in; decide)) rfl ft5 rfl mc_X5_put ml_X5_28 mi_X5_put ms_X5_put in_X5 (okc_X5_put (by decide)) dX5_init_95 kdM (by decide) (by exact Nat.le_of_ble_eq_true rfl) (fun N' v i r q h => Or.inl h.1) (fun _ _ _ _ h => h.elim) (fun zN zv zi389 zr389 zq389 zh => ?_)
  obtain ⟨rfl, rfl, rfl, hr, hq⟩ := zh; obtain rfl := hr.symm; obtain rfl := hq.symm
  refine t_aload0 dX5_init_98 ?_
  refine t_iload1 dX5_init_99 ?_
  refine pw_iconst (2) dX5_init_100 (by decide) ?_
  refine pw_bipush (20) dX5_init_101 (by decide) ?_
  refine PW.room (mc' := 0 + 0) (ms' := 0 + 0) (by decide) (by decide) ?_
  refine pw_callV (as := [.int (3), .int (2), .int (20)]) (b := 240) (K_put (l := l) hlt h0 (by decide) (by unfold vp_in; decide)) rfl ft5 rfl mc_X5_put ml_X5_28 mi_X5_put ms_X5_put in_X5 (okc_X5_put (by decide)) dX5_init_103 kdM (by decide) (by exact Nat.le_of_ble_eq_true rfl) (fun N' v i r q h => Or.inl h.1) (fun _ _ _ _ h => h.elim) (fun zN zv zi398 zr398 zq398 zh => ?_)
  obtain ⟨rfl, rfl, rfl, hr, hq⟩ := zh; obtain rfl := hr.symm; obtain rfl := hq.symm
  refine t_aload0 dX5_init_106 ?_
  refine t_iload1 dX5_init_107 ?_
  refine pw_iconst (4) dX5_init_108 (by decide) ?_
  refine pw_bipush (11) dX5_init_109 (by decide) ?_
  refine PW.room (mc' := 0 + 0) (ms' := 0 + 0) (by decide) (by decide) ?_
  refine pw_callV (as := [.int (3), .int (4), .int (11)]) (b := 240) (K_put (l := l) hlt h0 (by decide) (by unfold vp_in; decide)) rfl ft5 rfl mc_X5_put ml_X5_28 mi_X5_put ms_X5_put in_X5 (okc_X5_put (by decide)) dX5_init_111 kdM (by decide) (by exact Nat.le_of_ble_eq_true rfl) (fun N' v i r q h => Or.inl h.1) (fun _ _ _ _ h => h.elim) (fun zN zv zi3106 zr3106 zq3106 zh => ?_)
  obtain ⟨rfl, rfl, rfl, hr, hq⟩ := zh; obtain rfl := hr.symm; obtain rfl := hq.symm
  refine t_aload0 dX5_init_114 ?_
  refine t_iload1 dX5_init_115 ?_
  refine pw_iconst (5) dX5_init_116 (by decide) ?_
  refine pw_bipush (40) dX5_init_117 (by decide) ?_
  refine PW.room (mc' := 0 + 0) (ms' := 0 + 0) (by decide) (by decide) ?_
  refine pw_callV (as := [.int (3), .int (5), .int (40)]) (b := 240) (K_put (l := l) hlt h0 (by decide) (by unfold vp_in; decide)) rfl ft5 rfl mc_X5_put ml_X5_28 mi_X5_put ms_X5_put in_X5 (okc_X5_put (by decide)) dX5_init_119 kdM (by decide) (by exact Nat.le_of_ble_eq_true rfl) (fun N' v i r q h => Or.inl h.1) (fun _ _ _ _ h => h.elim) (fun zN zv zi3114 zr3114 zq3114 zh => ?_)
  obtain ⟨rfl, rfl, rfl, hr, hq⟩ := zh; obtain rfl := hr.symm; obtain rfl := hq.symm
  refine t_aload0 dX5_init_122 ?_
  refine t_iload1 dX5_init_123 ?_
  refine pw_bipush (6) dX5_init_124 (by decide) ?_
  refine pw_bipush (10) dX5_init_126 (by decide) ?_
  refine PW.room (mc' := 0 + 0) (ms' := 0 + 0) (by decide) (by decide) ?_
  refine pw_callV (as := [.int (3), .int (6), .int (10)]) (b := 240) (K_put (l := l) hlt h0 (by decide) (by unfold vp_in; decide)) rfl ft5 rfl mc_X5_put ml_X5_28 mi_X5_put ms_X5_put in_X5 (okc_X5_put (by decide)) dX5_init_128 kdM (by decide) (by exact Nat.le_of_ble_eq_true rfl) (fun N' v i r q h => Or.inl h.1) (fun _ _ _ _ h => h.elim) (fun zN zv zi3122 zr3122 zq3122 zh => ?_)
  obtain ⟨rfl, rfl, rfl, hr, hq⟩ := zh; obtain rfl := hr.symm; obtain rfl := hq.symm
  refine t_iinc1 (1) dX5_init_131 (by decide) (by decide) okp_r ?_
  rw [show ((3 : Int32) + (1)) = 4 by decide]
  refine pw_goto 84 dX5_init_134 (by decide) ?_
  refine PW.gen (fun i r => i 241 = (pR (pR (pR (pR rw0 0) 1) 2) 3) ∧ (∀ k, k ≠ 241 → i k = im k) ∧ r = r0 ∧ FS 247 i r lm) ⟨?_, fun k hk => ?_, rfl, ((((hF.ui (by decide)).ui (by decide)).ui (by decide)).ui (by decide)).ui (by decide)⟩ fun i4 rr ⟨hR, hI, e3, hF⟩ => ?_
  · funext j; rw [show (pR (pR (pR (pR rw0 0) 1) 2) 3) = pR _ 3 from rfl, ← hR]; unfold pR; simp only [ui_at]; rw [show (12 + 34 * (3 : Int32) + 0).toNatClampNeg = 12 + 34 * 3 by decide, show (12 + 34 * (3 : Int32) + 2).toNatClampNeg = 14 + 34 * 3 by decide, show (12 + 34 * (3 : Int32) + 4).toNatClampNeg = 16 + 34 * 3 by decide, show (12 + 34 * (3 : Int32) + 5).toNatClampNeg = 17 + 34 * 3 by decide, show (12 + 34 * (3 : Int32) + 6).toNatClampNeg = 18 + 34 * 3 by decide]; repeat' split
    all_goals first | rfl | omega
  · rw [ui_ne hk, ui_ne hk, ui_ne hk, ui_ne hk, ui_ne hk]; exact hI k hk
  obtain rfl := e3.symm
  refine t_iload1 dX5_init_84 ?_
  refine pw_iconst (5) dX5_init_85 (by decide) ?_
  refine pw_icmp_ge 137 dX5_init_86 (by decide) (fun h => absurd h (by decide)) (fun _ => ?_)
  refine t_aload0 dX5_init_89 ?_
  refine t_iload1 dX5_init_90 ?_
  refine pw_iconst (0) dX5_init_91 (by decide) ?_
  refine pw_sipush (200) dX5_init_92 (by decide) ?_
  refine PW.room (mc' := 0 + 0) (ms' := 0 + 0) (by decide) (by decide) ?_
  refine pw_callV (as := [.int (4), .int (0), .int (200)]) (b := 240) (K_put (l := l) hlt h0 (by decide) (by unfold vp_in; decide)) rfl ft5 rfl mc_X5_put ml_X5_28 mi_X5_put ms_X5_put in_X5 (okc_X5_put (by decide)) dX5_init_95 kdM (by decide) (by exact Nat.le_of_ble_eq_true rfl) (fun N' v i r q h => Or.inl h.1) (fun _ _ _ _ h => h.elim) (fun zN zv zi489 zr489 zq489 zh => ?_)
  obtain ⟨rfl, rfl, rfl, hr, hq⟩ := zh; obtain rfl := hr.symm; obtain rfl := hq.symm
  refine t_aload0 dX5_init_98 ?_
  refine t_iload1 dX5_init_99 ?_
  refine pw_iconst (2) dX5_init_100 (by decide) ?_
  refine pw_bipush (20) dX5_init_101 (by decide) ?_
  refine PW.room (mc' := 0 + 0) (ms' := 0 + 0) (by decide) (by decide) ?_
  refine pw_callV (as := [.int (4), .int (2), .int (20)]) (b := 240) (K_put (l := l) hlt h0 (by decide) (by unfold vp_in; decide)) rfl ft5 rfl mc_X5_put ml_X5_28 mi_X5_put ms_X5_put in_X5 (okc_X5_put (by decide)) dX5_init_103 kdM (by decide) (by exact Nat.le_of_ble_eq_true rfl) (fun N' v i r q h => Or.inl h.1) (fun _ _ _ _ h => h.elim) (fun zN zv zi498 zr498 zq498 zh => ?_)
  obtain ⟨rfl, rfl, rfl, hr, hq⟩ := zh; obtain rfl := hr.symm; obtain rfl := hq.symm
  refine t_aload0 dX5_init_106 ?_
  refine t_iload1 dX5_init_107 ?_
  refine pw_iconst (4) dX5_init_108 (by decide) ?_
  refine pw_bipush (11) dX5_init_109 (by decide) ?_
  refine PW.room (mc' := 0 + 0) (ms' := 0 + 0) (by decide) (by decide) ?_
  refine pw_callV (as := [.int (4), .int (4), .int (11)]) (b := 240) (K_put (l := l) hlt h0 (by decide) (by unfold vp_in; decide)) rfl ft5 rfl mc_X5_put ml_X5_28 mi_X5_put ms_X5_put in_X5 (okc_X5_put (by decide)) dX5_init_111 kdM (by decide) (by exact Nat.le_of_ble_eq_true rfl) (fun N' v i r q h => Or.inl h.1) (fun _ _ _ _ h => h.elim) (fun zN zv zi4106 zr4106 zq4106 zh => ?_)
  obtain ⟨rfl, rfl, rfl, hr, hq⟩ := zh; obtain rfl := hr.symm; obtain rfl := hq.symm
  refine t_aload0 dX5_init_114 ?_
  refine t_iload1 dX5_init_115 ?_
  refine pw_iconst (5) dX5_init_116 (by decide) ?_
  refine pw_bipush (40) dX5_init_117 (by decide) ?_
  refine PW.room (mc' := 0 + 0) (ms' := 0 + 0) (by decide) (by decide) ?_
  refine pw_callV (as := [.int (4), .int (5), .int (40)]) (b := 240) (K_put (l := l) hlt h0 (by decide) (by unfold vp_in; decide)) rfl ft5 rfl mc_X5_put ml_X5_28 mi_X5_put ms_X5_put in_X5 (okc_X5_put (by decide)) dX5_init_119 kdM (by decide) (by exact Nat.le_of_ble_eq_true rfl) (fun N' v i r q h => Or.inl h.1) (fun _ _ _ _ h => h.elim) (fun zN zv zi4114 zr4114 zq4114 zh => ?_)
  obtain ⟨rfl, rfl, rfl, hr, hq⟩ := zh; obtain rfl := hr.symm; obtain rfl := hq.symm
  refine t_aload0 dX5_init_122 ?_
  refine t_iload1 dX5_init_123 ?_
  refine pw_bipush (6) dX5_init_124 (by decide) ?_
  refine pw_bipush (10) dX5_init_126 (by decide) ?_
  refine PW.room (mc' := 0 + 0) (ms' := 0 + 0) (by decide) (by decide) ?_
  refine pw_callV (as := [.int (4), .int (6), .int (10)]) (b := 240) (K_put (l := l) hlt h0 (by decide) (by unfold vp_in; decide)) rfl ft5 rfl mc_X5_put ml_X5_28 mi_X5_put ms_X5_put in_X5 (okc_X5_put (by decide)) dX5_init_128 kdM (by decide) (by exact Nat.le_of_ble_eq_true rfl) (fun N' v i r q h => Or.inl h.1) (fun _ _ _ _ h => h.elim) (fun zN zv zi4122 zr4122 zq4122 zh => ?_)
  obtain ⟨rfl, rfl, rfl, hr, hq⟩ := zh; obtain rfl := hr.symm; obtain rfl := hq.symm
  refine t_iinc1 (1) dX5_init_131 (by decide) (by decide) okp_r ?_
  rw [show ((4 : Int32) + (1)) = 5 by decide]
  refine pw_goto 84 dX5_init_134 (by decide) ?_
  refine PW.gen (fun i r => i 241 = (pR (pR (pR (pR (pR rw0 0) 1) 2) 3) 4) ∧ (∀ k, k ≠ 241 → i k = im k) ∧ r = r0 ∧ FS 247 i r lm) ⟨?_, fun k hk => ?_, rfl, ((((hF.ui (by decide)).ui (by decide)).ui (by decide)).ui (by decide)).ui (by decide)⟩ fun i5 rr ⟨hR, hI, e4, hF⟩ => ?_
  · funext j; rw [show (pR (pR (pR (pR (pR rw0 0) 1) 2) 3) 4) = pR _ 4 from rfl, ← hR]; unfold pR; simp only [ui_at]; rw [show (12 + 34 * (4 : Int32) + 0).toNatClampNeg = 12 + 34 * 4 by decide, show (12 + 34 * (4 : Int32) + 2).toNatClampNeg = 14 + 34 * 4 by decide, show (12 + 34 * (4 : Int32) + 4).toNatClampNeg = 16 + 34 * 4 by decide, show (12 + 34 * (4 : Int32) + 5).toNatClampNeg = 17 + 34 * 4 by decide, show (12 + 34 * (4 : Int32) + 6).toNatClampNeg = 18 + 34 * 4 by decide]; repeat' split
    all_goals first | rfl | omega
  · rw [ui_ne hk, ui_ne hk, ui_ne hk, ui_ne hk, ui_ne hk]; exact hI k hk
  obtain rfl := e4.symm
  refine t_iload1 dX5_init_84 ?_
  refine pw_iconst (5) dX5_init_85 (by decide) ?_
  refine pw_icmp_ge 137 dX5_init_86 (by decide) (fun _ => ?_) (fun h => absurd (by decide) h)
  refine pw_vret dX5_init_137 rfl ?_
  refine ⟨rfl, rfl, ⟨?_, ⟨?_, by decide, fun k hk => absurd hk (by omega)⟩, ⟨?_, fun s hs => by cases hs⟩, ⟨?_, by decide⟩, fun j hj => ?_, fun o ho => hI o (by omega)⟩, hMM, fun k hk => hR0 k (by omega), rfl, hF⟩
  · rw [hR]; exact rwS0
  · rw [hI 240 (by decide), z240]; rfl
  · rw [hI 240 (by decide), z240]; rfl
  · rw [hI 240 (by decide), z240]; rfl
  · rw [hI 245 (by decide), z245]

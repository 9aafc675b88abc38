/-! The law: its loop, its start -/
theorem TS.re2 {Z : TI × TP} {S : CS} {n : Nat} {T : Nat → CS} {sn : Option CS} {bl : Nat} {B : Nat → Int32} {im im2 : TI} {rm r2 : TP} (h : TS Z S n T sn bl B im rm) (e : ∀ o, o < 240 → im2 o = im o) (er : ∀ o, o < 240 → r2 o = rm o) : TS (im2, r2) S n T sn bl B im2 r2 := by
  obtain ⟨⟨h1, h2⟩, h3, ⟨⟨hs, h5⟩, h6⟩, h7⟩ := h.re e
  refine ⟨⟨?_, fun c hc => ?_⟩, h3, ⟨⟨hs, ?_⟩, h6⟩, h7.1, h7.2.1, h7.2.2.1, h7.2.2.2.1, h7.2.2.2.2.1, ⟨fun _ _ => rfl, fun _ _ => rfl⟩⟩
  · unfold RT at h1 ⊢
    rw [er 0 (by decide), er 238 (by decide)]
    exact h1
  · have hk : ∀ c ∈ crL, c + 25 < 240 := by decide
    exact (h2 c hc).cg fun k _ hk2 => er k (by have := hk c hc; omega)
  · unfold HO at h5 ⊢
    rw [er 79 (by decide), er 80 (by decide)]
    exact h5
theorem and31 (x : Int32) : ∃ j, j < 32 ∧ x &&& 31 = nI j := by
  refine ⟨(x &&& 31).toBitVec.toNat, ?_, ?_⟩
  · rw [Int32.toBitVec_and, BitVec.toNat_and]
    exact Nat.lt_of_le_of_lt Nat.and_le_right (by decide)
  · apply Int32.toBitVec_inj.mp
    show (x &&& 31).toBitVec = BitVec.ofNat 32 (x &&& 31).toBitVec.toNat
    rw [BitVec.ofNat_toNat, BitVec.setWidth_eq]
theorem gt4 {i Lx : Nat} (hL : Lx ≤ 2048) (hi : i ≤ 4096) : nI Lx - 4 < nI i ↔ Lx < i + 4 := by
  rw [Int32.lt_iff_toInt_lt, show (4 : Int32) = nI 4 from rfl, pk_sub_toInt (by omega) (by decide), nI_toInt (by omega)]
  omega
def QL : TQ := fun N v _ _ _ => N = NN ∧ v = some (.int 1)
section LAWO
variable {l : Launch} {Lx : Nat} {xs : Nat → Int32}
set_option maxHeartbeats 8000000 in
set_option maxRecDepth 100000 in
theorem law_end {i : Nat} {mc ms : Nat} {im : TI} {rm : TP} {lm : TL} : PW l (m_L_law Lx xs) 12 mc ms NN 1610 (LL i) [] im rm lm QL noX := by
  refine pw_iconst (1) dL_law_1610 (by decide) ?_
  exact pw_zret dL_law_1611 rfl rfl ⟨rfl, rfl⟩
set_option maxHeartbeats 8000000 in
set_option maxRecDepth 100000 in
theorem law_loop (hlt : l.stackTraces = false) (hL : Lx ≤ 2048) : ∀ (k i : Nat) (im : TI) (rm : TP) (lm : TL), Lx < i + 4 + 4 * k → i ≤ 2048 → LJ im rm → PW l (m_L_law Lx xs) 12 k (6 * k) NN 23 (LL i) [] im rm lm QL noX := by
  intro k
  induction k with
  | zero =>
    intro i im rm lm h hi hJ
    refine t_iload4 dL_law_23 ?_
    refine t_aload0 dL_law_25 ?_
    refine pw_slen rfl dL_law_26 ?_
    refine pw_iconst (4) dL_law_27 (by decide) ?_
    refine pw_isub dL_law_28 ?_
    refine pw_icmp_gt 1610 dL_law_29 (by decide) (fun _ => law_end) (fun z => absurd ((gt4 hL (by omega)).mpr (by omega)) z)
  | succ k ih =>
    intro i im rm lm h hi hJ
    refine t_iload4 dL_law_23 ?_
    refine t_aload0 dL_law_25 ?_
    refine pw_slen rfl dL_law_26 ?_
    refine pw_iconst (4) dL_law_27 (by decide) ?_
    refine pw_isub dL_law_28 ?_
    refine pw_icmp_gt 1610 dL_law_29 (by decide) (fun _ => law_end) (fun z => ?_)
    have h4 : i + 4 ≤ Lx := Nat.le_of_not_lt fun q => z ((gt4 hL (by omega)).mpr q)
    have K : ∀ i2 r2 q2, LJ i2 r2 → PW l (m_L_law Lx xs) 12 k (6 * k) NN 1604 (LL i) [] i2 r2 q2 QL noX := by
      intro i2 r2 q2 hJ2
      refine t_iinc4 (4) dL_law_1604 (by decide) (by exact Nat.le_of_ble_eq_true rfl) okp_r ?_
      rw [show nI i + 4 = nI (i + 4) from nI_add i 4]
      refine pw_goto 23 dL_law_1607 (by decide) ?_
      exact ih (i + 4) i2 r2 q2 (by omega) (by omega) hJ2
    refine t_aload0 dL_law_32 ?_
    refine t_iload4 dL_law_33 ?_
    refine pw_sld rfl (vp_in_nI (by omega) (by omega)) dL_law_35 ?_
    refine pw_bipush (31) dL_law_36 (by decide) ?_
    refine pw_iand dL_law_38 ?_
    obtain ⟨j, hj, ej⟩ := and31 (xs (nI i).toNatClampNeg)
    rw [ej]
    obtain ⟨S, n, T, sn, bl, B, hI⟩ := hJ
    refine PW.room (mc' := 1 + k) (ms' := 6 + 6 * k) (by omega) (by omega) ?_
    rcases (show j = 0 ∨ j = 1 ∨ j = 2 ∨ j = 3 ∨ j = 4 ∨ j = 5 ∨ j = 6 ∨ j = 7 ∨ j = 8 ∨ j = 9 ∨ j = 10 ∨ j = 11 ∨ j = 12 ∨ j = 13 ∨ j = 14 ∨ j = 15 ∨ j = 16 ∨ j = 17 ∨ j = 18 ∨ j = 19 ∨ j = 20 ∨ j = 21 ∨ j = 22 ∨ j = 23 ∨ j = 24 ∨ j = 25 ∨ j = 26 ∨ j = 27 ∨ 28 ≤ j by omega) with rfl | rfl | rfl | rfl | rfl | rfl | rfl | rfl | rfl | rfl | rfl | rfl | rfl | rfl | rfl | rfl | rfl | rfl | rfl | rfl | rfl | rfl | rfl | rfl | rfl | rfl | rfl | rfl | h28
    · exact pw_table (off := 125) 164 dL_law_39 (by decide) (by decide) (by decide) (by decide) (do_pond hlt h4 hL hI K)
    · exact pw_table (off := 205) 244 dL_law_39 (by decide) (by decide) (by decide) (by decide) (do_gate hlt h4 hL hI K)
    · exact pw_table (off := 285) 324 dL_law_39 (by decide) (by decide) (by decide) (by decide) (do_gear hlt h4 hL hI K)
    · exact pw_table (off := 365) 404 dL_law_39 (by decide) (by decide) (by decide) (by decide) (do_set hlt h4 hL hI K)
    · exact pw_table (off := 433) 472 dL_law_39 (by decide) (by decide) (by decide) (by decide) (do_pass hlt h4 hL hI K)
    · exact pw_table (off := 489) 528 dL_law_39 (by decide) (by decide) (by decide) (by decide) (do_sack hlt h4 hL hI K)
    · exact pw_table (off := 569) 608 dL_law_39 (by decide) (by decide) (by decide) (by decide) (do_carry hlt h4 hL hI K)
    · exact pw_table (off := 637) 676 dL_law_39 (by decide) (by decide) (by decide) (by decide) (do_back hlt h4 hL hI K)
    · exact pw_table (off := 693) 732 dL_law_39 (by decide) (by decide) (by decide) (by decide) (do_append hlt h4 hL hI K)
    · exact pw_table (off := 749) 788 dL_law_39 (by decide) (by decide) (by decide) (by decide) (do_clearBuffer hlt h4 hL hI K)
    · exact pw_table (off := 762) 801 dL_law_39 (by decide) (by decide) (by decide) (by decide) (do_firstError hlt h4 hL hI K)
    · exact pw_table (off := 775) 814 dL_law_39 (by decide) (by decide) (by decide) (by decide) (do_play hlt h4 hL hI K)
    · exact pw_table (off := 819) 858 dL_law_39 (by decide) (by decide) (by decide) (by decide) (do_undo hlt h4 hL hI K)
    · exact pw_table (off := 863) 902 dL_law_39 (by decide) (by decide) (by decide) (by decide) (do_keep hlt h4 hL hI K)
    · exact pw_table (off := 876) 915 dL_law_39 (by decide) (by decide) (by decide) (by decide) (do_restore hlt h4 hL hI K)
    · exact pw_table (off := 920) 959 dL_law_39 (by decide) (by decide) (by decide) (by decide) (do_mill hlt h4 hL hI K)
    · exact pw_table (off := 988) 1027 dL_law_39 (by decide) (by decide) (by decide) (by decide) (do_sackAt hlt h4 hL hI K)
    · exact pw_table (off := 1056) 1095 dL_law_39 (by decide) (by decide) (by decide) (by decide) (do_sackOf hlt h4 hL hI K)
    · exact pw_table (off := 1124) 1163 dL_law_39 (by decide) (by decide) (by decide) (by decide) (do_whyNot hlt h4 hL hI K)
    · exact pw_table (off := 1180) 1219 dL_law_39 (by decide) (by decide) (by decide) (by decide) (do_tide hlt h4 hL hI K)
    · exact pw_table (off := 1236) 1275 dL_law_39 (by decide) (by decide) (by decide) (by decide) (do_count hlt h4 hL hI K)
    · exact pw_table (off := 1292) 1331 dL_law_39 (by decide) (by decide) (by decide) (by decide) (do_next hlt h4 hL hI K)
    · exact pw_table (off := 1348) 1387 dL_law_39 (by decide) (by decide) (by decide) (by decide) (do_chosen hlt h4 hL hI K)
    · exact pw_table (off := 1361) 1400 dL_law_39 (by decide) (by decide) (by decide) (by decide) (do_ifPassed hlt h4 hL hI K)
    · exact pw_table (off := 1429) 1468 dL_law_39 (by decide) (by decide) (by decide) (by decide) (do_groundIn hlt h4 hL hI K)
    · exact pw_table (off := 1454) 1493 dL_law_39 (by decide) (by decide) (by decide) (by decide) (do_bestStone hlt h4 hL hI K)
    · exact pw_table (off := 1510) 1549 dL_law_39 (by decide) (by decide) (by decide) (by decide) (do_inTime hlt h4 hL hI K)
    · exact pw_table (off := 1551) 1590 dL_law_39 (by decide) (by decide) (by decide) (by decide) (do_digest hlt h4 hL hI K)
    · refine pw_tableD 1604 dL_law_39 (Or.inr ?_) (by decide) (PW.room (mc' := k) (ms' := 6 * k) (by omega) (by omega) (K _ _ _ ⟨S, n, T, sn, bl, B, hI⟩))
      rw [nI_toInt (by omega)]
      omega
end LAWO
set_option maxHeartbeats 8000000 in
set_option maxRecDepth 100000 in
theorem law_all {l : Launch} (hlt : l.stackTraces = false) {Lx : Nat} {xs : Nat → Int32} (hL : Lx ≤ 2048) : PW l (m_L_law Lx xs) 12 (248 + 512) (3716 + 3072) 0 0 [some (pv (some 900)), none, none, none, none, none, none, none, none] [] (fun _ _ => 0) (fun _ _ => none) (fun _ _ => 0) QL noX := by
  have hF : FS 0 (fun _ _ => 0) (fun _ _ => none) (fun _ _ => 0) := ⟨fun _ _ => ⟨rfl, rfl, rfl⟩, fun _ _ _ h => by cases h⟩
  refine PW.room (mc' := (247 + 512) + 1) (ms' := (3708 + 3072) + 8) (by omega) (by omega) ?_
  refine pw_new ft4 cl_L_8 it_X4 in_X4 df4 dL_law_0 kdT (by omega) hF noXe (okL_s (show okV _ (pv (some 900)) from Or.inr (by decide)) (okL_n (okL_n (okL_n (okL_n (okL_n (okL_n (okL_n (okL_n okL_z))))))))) okS_z ?_
  have hF := hF.up (N2 := 1) (by omega)
  refine pw_dup dL_law_3 rfl ?_
  refine PW.room (mc' := 239 + (8 + 512)) (ms' := 1992 + (1716 + 3072)) (by omega) (by omega) ?_
  refine pw_callI (as := []) (b := 0) (K_Mills (l := l) hlt hF) rfl rfl rfl mc_X4_init ml_L_82 mi_X4_init in_X4 (okc_X4_init (by decide)) dL_law_4 (by exact Nat.le_of_ble_eq_true rfl) (fun N' v i r q h => Or.inr ⟨by have := h.1; omega, (okL_s (show okV _ (pv (some 900)) from Or.inr (by decide)) (okL_n (okL_n (okL_n (okL_n (okL_n (okL_n (okL_n (okL_n okL_z))))))))), (okS_c (okr (by omega)) okS_z), noXe⟩) (fun _ _ _ _ h => h.elim) (fun zN zv4 zi4 zr4 zq4 zh4 => ?_)
  obtain ⟨rfl, rfl, hTS, hq4, hG⟩ := zh4; clear hF; have hF := hG; clear hG
  have z240 := (hF.1 240 (by omega)).1
  refine t_astore1 (x := (some 0)) dL_law_7 (by exact Nat.le_of_ble_eq_true rfl) okp_r ?_
  refine PW.room (mc' := (7 + 512) + 1) (ms' := (1702 + 3072) + 14) (by omega) (by omega) ?_
  refine pw_new ft5 cl_L_83 it_X5 in_X5 df5 dL_law_8 kdM (by omega) hF noXe (okL_s (show okV _ (pv (some 900)) from Or.inr (by decide)) (okL_s (okr (by omega)) (okL_n (okL_n (okL_n (okL_n (okL_n (okL_n (okL_n okL_z))))))))) okS_z ?_
  have hF := hF.up (N2 := 241) (by omega)
  refine pw_dup dL_law_11 rfl ?_
  refine PW.room (mc' := 6 + (1 + 512)) (ms' := 1701 + (1 + 3072)) (by omega) (by omega) ?_
  refine pw_callI (as := []) (b := 240) (K_Model (l := l) hlt z240 hF) rfl rfl rfl mc_X5_init ml_L_85 mi_X5_init in_X5 (okc_X5_init (by decide)) dL_law_12 (by exact Nat.le_of_ble_eq_true rfl) (fun N' v i r q h => Or.inr ⟨by have := h.1; omega, (okL_s (show okV _ (pv (some 900)) from Or.inr (by decide)) (okL_s (okr (by omega)) (okL_n (okL_n (okL_n (okL_n (okL_n (okL_n (okL_n okL_z))))))))), (okS_c (okr (by omega)) okS_z), noXe⟩) (fun _ _ _ _ h => h.elim) (fun zN zv12 zi12 zr12 zq12 zh12 => ?_)
  obtain ⟨rfl, rfl, hMZ, hMM, hr12, hq12, hG⟩ := zh12; clear hF; have hF := hG; clear hG
  refine t_astore2 (x := (some 240)) dL_law_15 (by exact Nat.le_of_ble_eq_true rfl) okp_r ?_
  refine pw_iconst (1) dL_law_16 (by decide) ?_
  refine PW.room (mc' := (0 + 512) + 1) (ms' := (0 + 3072) + al 247) (by omega) (by rw [alU]; decide) ?_
  refine pw_newl dL_law_17 kdU (by decide) (by rw [alU]; decide) (by rw [alU]; decide) (by omega) hF noXe (okL_s (show okV _ (pv (some 900)) from Or.inr (by decide)) (okL_s (okr (by omega)) (okL_s (okr (by omega)) (okL_n (okL_n (okL_n (okL_n (okL_n (okL_n okL_z))))))))) okS_z ?_
  have hF := hF.up (N2 := 248) (by omega)
  refine t_astore3 (x := (some 247)) dL_law_19 (by exact Nat.le_of_ble_eq_true rfl) okp_r ?_
  refine pw_iconst (0) dL_law_20 (by decide) ?_
  refine t_istore4 dL_law_21 (by exact Nat.le_of_ble_eq_true rfl) okp_r ?_
  refine PW.room (mc' := 512) (ms' := 6 * 512) (by omega) (by omega) ?_
  refine law_loop hlt hL 512 0 _ _ _ (by omega) (by decide) ⟨S0, 0, fun _ => S0, none, 0, fun _ => 0, hTS.re2 hMZ.2.2.2.2.2 hr12, hMZ.re fun _ _ => rfl, hMM, ⟨WF0, fun i hi => absurd hi (by omega), fun s hs => (by cases hs), fun j hj => absurd hj (by omega)⟩⟩

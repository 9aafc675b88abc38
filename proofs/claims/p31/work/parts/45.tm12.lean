/-! TideMills: chosen, next -/
theorem chS_lt {S : CS} {q : Nat} (h : chS S = some q) : q < 5 := by
  have := fdN_some 5 0 q h
  omega
set_option maxHeartbeats 4000000 in
set_option maxRecDepth 100000 in
theorem C_chosen {l : Launch} (hlt : l.stackTraces = false) {im : TI} {rm : TP} {lm : TL} {Z : TI × TP} {S : CS} {n : Nat} {T : Nat → CS} {sn : Option CS} {bl : Nat} {B : Nat → Int32} (hTS : TS Z S n T sn bl B im rm) : Con l m_X4_chosen 8 0 0 NN [pv (some 0)] im rm lm (QP (.int (oI (chS S))) im rm lm) noX := by
  obtain ⟨⟨hT, hC⟩, ⟨hR, hI⟩, hTS2⟩ := id hTS
  have hk0 := kdT
  have hk79 := kd79
  have hC1 := c1 hC
  have hk1 := hC1.1
  obtain ⟨t0, t1, t2, t4, t5, t7, t8⟩ := id hT
  refine Con.ofN (k := 0) (L0 := [some (pv (some 0))]) hlt (by decide +kernel) rfl rfl (by rw [en1 pv_cat, en0]; exact Nat.le_of_ble_eq_true rfl) (by rw [en1 pv_cat, en0]; rfl) ?_
  refine t_aload0 dX4_chosen_0 ?_
  refine g_getr ft4 fl_X4_10 (j := 0) (by decide) dX4_chosen_1 (by assumption) (by assumption) ?_
  refine g_callV0P (C_aheadOfAll (l := l) hlt hC1 hR) rfl ft0 rfl mc_X0_millAheadOfAll ml_X4_216 mi_X0_millAheadOfAll ms_X0_millAheadOfAll in_X0 (okc_X0_millAheadOfAll (by decide)) dX4_chosen_4 (by assumption) (cat_le (Nat.le_of_ble_eq_true rfl)) ?_
  refine g_callS1P (C_numNone (l := l) hlt (fun a ha => by obtain ⟨q, hq, rfl⟩ := gm_some ha; exact ck_of hC1 (chS_lt hq))) rfl mc_X4_numberOrNone ml_X4_220 mi_X4_numberOrNone in_X4 (okc_X4_numberOrNone (by decide)) dX4_chosen_7 (Nat.zero_le _) ?_
  refine pw_iret dX4_chosen_10 rfl ?_
  exact ⟨rfl, by rw [nN_gm hR fun q => chS_lt], rfl, rfl, rfl⟩
set_option maxHeartbeats 4000000 in
set_option maxRecDepth 100000 in
theorem C_next {l : Launch} (hlt : l.stackTraces = false) {im : TI} {rm : TP} {lm : TL} {Z : TI × TP} {S : CS} {n : Nat} {T : Nat → CS} {sn : Option CS} {bl : Nat} {B : Nat → Int32} (hTS : TS Z S n T sn bl B im rm) {N : Nat} (hN : N < 5) (ha : (0 : Int32) ≤ nI N ∧ nI N ≤ 2147483647) : Con l m_X4_next 8 0 0 NN [pv (some 0), .int (nI N)] im rm lm (QP (.int (oI (rkS S N))) im rm lm) noX := by
  obtain ⟨⟨hT, hC⟩, ⟨hR, hI⟩, hTS2⟩ := id hTS
  have hk0 := kdT
  have hk79 := kd79
  have hC1 := c1 hC
  have hk1 := hC1.1
  obtain ⟨t0, t1, t2, t4, t5, t7, t8⟩ := id hT
  refine Con.ofN (k := 0) (L0 := [some (pv (some 0)), some (.int (nI N))]) hlt (by decide +kernel) rfl rfl (by rw [en1 pv_cat, en1 rfl, en0]; exact Nat.le_of_ble_eq_true rfl) (by rw [en1 pv_cat, en1 rfl, en0]; rfl) ?_
  refine t_iload1 dX4_next_0 ?_
  refine g_callS1V (C_belowT (l := l) hlt ha.1 ha.2) rfl mc_X4_requireNotBelowZero ml_X4_191 mi_X4_requireNotBelowZero in_X4 (okc_X4_requireNotBelowZero (by decide)) dX4_next_1 (Nat.zero_le _) (fun zim1 zh1 => ?_)
  rw [show zim1 = im from zh1]
  refine t_aload0 dX4_next_4 ?_
  refine t_iload1 dX4_next_5 ?_
  refine g_callV1P (C_rank (l := l) hlt hT hC hR rfl hN) rfl ft4 rfl mc_X4_millOfRank ml_X4_213 mi_X4_millOfRank ms_X4_millOfRank in_X4 (okc_X4_millOfRank (by decide)) dX4_next_6 (by assumption) (cat_le (Nat.le_of_ble_eq_true rfl)) ?_
  refine pw_iret dX4_next_9 rfl ?_
  exact ⟨rfl, rfl, rfl, rfl, rfl⟩
set_option maxHeartbeats 4000000 in
set_option maxRecDepth 100000 in
theorem C_nextN {l : Launch} (hlt : l.stackTraces = false) {im : TI} {rm : TP} {lm : TL} {Z : TI × TP} {S : CS} {n : Nat} {T : Nat → CS} {sn : Option CS} {bl : Nat} {B : Nat → Int32} (hTS : TS Z S n T sn bl B im rm) {x : Int32} (hx : ¬ x < 5) (ha : (0 : Int32) ≤ x ∧ x ≤ 2147483647) : Con l m_X4_next 8 0 0 NN [pv (some 0), .int (x)] im rm lm (QP (.int (-1)) im rm lm) noX := by
  obtain ⟨⟨hT, hC⟩, ⟨hR, hI⟩, hTS2⟩ := id hTS
  have hk0 := kdT
  have hk79 := kd79
  have hC1 := c1 hC
  have hk1 := hC1.1
  obtain ⟨t0, t1, t2, t4, t5, t7, t8⟩ := id hT
  refine Con.ofN (k := 0) (L0 := [some (pv (some 0)), some (.int (x))]) hlt (by decide +kernel) rfl rfl (by rw [en1 pv_cat, en1 rfl, en0]; exact Nat.le_of_ble_eq_true rfl) (by rw [en1 pv_cat, en1 rfl, en0]; rfl) ?_
  refine t_iload1 dX4_next_0 ?_
  refine g_callS1V (C_belowT (l := l) hlt ha.1 ha.2) rfl mc_X4_requireNotBelowZero ml_X4_191 mi_X4_requireNotBelowZero in_X4 (okc_X4_requireNotBelowZero (by decide)) dX4_next_1 (Nat.zero_le _) (fun zim1 zh1 => ?_)
  rw [show zim1 = im from zh1]
  refine t_aload0 dX4_next_4 ?_
  refine t_iload1 dX4_next_5 ?_
  refine g_callV1P (C_rankN (l := l) hlt hx) rfl ft4 rfl mc_X4_millOfRank ml_X4_213 mi_X4_millOfRank ms_X4_millOfRank in_X4 (okc_X4_millOfRank (by decide)) dX4_next_6 (by assumption) (cat_le (Nat.le_of_ble_eq_true rfl)) ?_
  refine pw_iret dX4_next_9 rfl ?_
  exact ⟨rfl, rfl, rfl, rfl, rfl⟩

/-! TideMills: what may throw, by its case; the whole object -/
set_option maxHeartbeats 4000000 in
set_option maxRecDepth 100000 in
theorem C_rangeT {l : Launch} (hlt : l.stackTraces = false) {im : TI} {rm : TP} {lm : TL} {x lo hi : Int32} (h1 : lo ≤ x) (h2 : x ≤ hi) : Con l m_X4_requireRange 0 0 0 NN [.int (x), .int (lo), .int (hi)] im rm lm (QV (fun i2 => i2 = im) rm lm) noX := by
  refine Con.ofN (k := 0) (L0 := [some (.int (x)), some (.int (lo)), some (.int (hi))]) hlt (by decide +kernel) rfl rfl (by rw [en1 rfl, en1 rfl, en1 rfl, en0]; exact Nat.le_of_ble_eq_true rfl) (by rw [en1 rfl, en1 rfl, en1 rfl, en0]; rfl) ?_
  refine t_iload0 dX4_requireRange_0 ?_
  refine t_iload1 dX4_requireRange_1 ?_
  refine pw_icmp_lt 10 dX4_requireRange_2 (by decide) (fun zc2 => ?_) (fun zc2 => ?_)
  · exact absurd h1 (Int32.not_le.mpr zc2)
  · refine t_iload0 dX4_requireRange_5 ?_
    refine t_iload2 dX4_requireRange_6 ?_
    refine pw_icmp_le 21 dX4_requireRange_7 (by decide) (fun zc7 => ?_) (fun zc7 => ?_)
    · refine pw_vret dX4_requireRange_21 rfl ?_
      exact ⟨rfl, rfl, rfl, rfl, rfl⟩
    · exact absurd h2 zc7
set_option maxHeartbeats 4000000 in
set_option maxRecDepth 100000 in
theorem C_belowT {l : Launch} (hlt : l.stackTraces = false) {im : TI} {rm : TP} {lm : TL} {x : Int32} (h1 : (0 : Int32) ≤ x) (_h2 : x ≤ 2147483647) : Con l m_X4_requireNotBelowZero 0 0 0 NN [.int (x)] im rm lm (QV (fun i2 => i2 = im) rm lm) noX := by
  refine Con.ofN (k := 0) (L0 := [some (.int (x))]) hlt (by decide +kernel) rfl rfl (by rw [en1 rfl, en0]; exact Nat.le_of_ble_eq_true rfl) (by rw [en1 rfl, en0]; rfl) ?_
  refine t_iload0 dX4_requireNotBelowZero_0 ?_
  refine pw_if_ge 15 dX4_requireNotBelowZero_1 (by decide) (fun zc1 => ?_) (fun zc1 => ?_)
  · refine pw_vret dX4_requireNotBelowZero_15 rfl ?_
    exact ⟨rfl, rfl, rfl, rfl, rfl⟩
  · exact absurd h1 zc1
set_option maxHeartbeats 4000000 in
set_option maxRecDepth 100000 in
theorem C_stateT {l : Launch} (hlt : l.stackTraces = false) {im : TI} {rm : TP} {lm : TL} {x : Int32} (h : ¬ x = 0) : Con l m_X4_requireState 0 0 0 NN [.int (x)] im rm lm (QV (fun i2 => i2 = im) rm lm) noX := by
  refine Con.ofN (k := 0) (L0 := [some (.int (x))]) hlt (by decide +kernel) rfl rfl (by rw [en1 rfl, en0]; exact Nat.le_of_ble_eq_true rfl) (by rw [en1 rfl, en0]; rfl) ?_
  refine t_iload0 dX4_requireState_0 ?_
  refine pw_if_ne 15 dX4_requireState_1 (by decide) (fun zc1 => ?_) (fun zc1 => ?_)
  · refine pw_vret dX4_requireState_15 rfl ?_
    exact ⟨rfl, rfl, rfl, rfl, rfl⟩
  · exact absurd (Classical.not_not.mp zc1) h
set_option maxHeartbeats 4000000 in
set_option maxRecDepth 100000 in
theorem C_millOrT {l : Launch} (hlt : l.stackTraces = false) {im : TI} {rm : TP} {lm : TL} {S : CS} (hT : RT rm) (hC : RC rm) (hR : CR 1 S im) {x : Int32} {m : Nat} (hm : maO x = some m) : Con l m_X4_millOrThrow 2 0 0 NN [pv (some 0), .int (x)] im rm lm (QP (pv (some (mA 1 m))) im rm lm) noX := by
  have hk0 := kdT
  have hC1 := c1 hC
  have hk1 := hC1.1
  obtain ⟨t0, t1, t2, t4, t5, t7, t8⟩ := id hT
  refine Con.ofN (k := 1) (L0 := [some (pv (some 0)), some (.int (x)), none]) hlt (by decide +kernel) rfl rfl (by rw [en1 pv_cat, en1 rfl, en0]; exact Nat.le_of_ble_eq_true rfl) (by rw [en1 pv_cat, en1 rfl, en0]; rfl) ?_
  refine t_aload0 dX4_millOrThrow_0 ?_
  refine g_getr ft4 fl_X4_10 (j := 0) (by decide) dX4_millOrThrow_1 (by assumption) (by assumption) ?_
  refine t_iload1 dX4_millOrThrow_4 ?_
  refine g_callV1P (C_millAt (l := l) hlt hC1 hR) rfl ft0 rfl mc_X0_millAt ml_X4_256 mi_X0_millAt ms_X0_millAt in_X0 (okc_X0_millAt (by decide)) dX4_millOrThrow_5 (by assumption) (cat_le (Nat.le_of_ble_eq_true rfl)) ?_
  rw [hm, gm_s]
  refine t_astore2 dX4_millOrThrow_8 (by decide) okp_i ?_
  refine t_aload2 dX4_millOrThrow_9 ?_
  refine pw_ifnonnull 24 dX4_millOrThrow_10 (by decide) (fun zy10 zc10 => ?_) (fun zc10 => ?_)
  · refine t_aload2 dX4_millOrThrow_24 ?_
    refine pw_aret dX4_millOrThrow_25 rfl ?_
    exact ⟨rfl, rfl, rfl, rfl, rfl⟩
  · exact absurd zc10 (fun z => by cases z)
set_option maxHeartbeats 4000000 in
set_option maxRecDepth 100000 in
theorem C_sackOrT {l : Launch} (hlt : l.stackTraces = false) {im : TI} {rm : TP} {lm : TL} {S : CS} (hT : RT rm) (hC : RC rm) (hR : CR 1 S im) (hI : CI S) {x : Int32} {m : Nat} (hm : moS S x = some m) : Con l m_X4_millOfSackOrThrow 7 0 0 NN [pv (some 0), .int (x)] im rm lm (QP (pv (some (mA 1 m))) im rm lm) noX := by
  have hk0 := kdT
  have hC1 := c1 hC
  have hk1 := hC1.1
  obtain ⟨t0, t1, t2, t4, t5, t7, t8⟩ := id hT
  refine Con.ofN (k := 1) (L0 := [some (pv (some 0)), some (.int (x)), none]) hlt (by decide +kernel) rfl rfl (by rw [en1 pv_cat, en1 rfl, en0]; exact Nat.le_of_ble_eq_true rfl) (by rw [en1 pv_cat, en1 rfl, en0]; rfl) ?_
  refine t_aload0 dX4_millOfSackOrThrow_0 ?_
  refine g_getr ft4 fl_X4_10 (j := 0) (by decide) dX4_millOfSackOrThrow_1 (by assumption) (by assumption) ?_
  refine t_iload1 dX4_millOfSackOrThrow_4 ?_
  refine g_callV1P (C_millOfSack (l := l) hlt hC1 hR hI) rfl ft0 rfl mc_X0_millOfSack ml_X4_197 mi_X0_millOfSack ms_X0_millOfSack in_X0 (okc_X0_millOfSack (by decide)) dX4_millOfSackOrThrow_5 (by assumption) (cat_le (Nat.le_of_ble_eq_true rfl)) ?_
  rw [hm, gm_s]
  refine t_astore2 dX4_millOfSackOrThrow_8 (by decide) okp_i ?_
  refine t_aload2 dX4_millOfSackOrThrow_9 ?_
  refine pw_ifnonnull 24 dX4_millOfSackOrThrow_10 (by decide) (fun zy10 zc10 => ?_) (fun zc10 => ?_)
  · refine t_aload2 dX4_millOfSackOrThrow_24 ?_
    refine pw_aret dX4_millOfSackOrThrow_25 rfl ?_
    exact ⟨rfl, rfl, rfl, rfl, rfl⟩
  · exact absurd zc10 (fun z => by cases z)
/-- the whole object: its creek, what is saved, the snapshot, the buffer -/
def FZ (Z : TI × TP) (im : TI) (rm : TP) : Prop := (∀ o, 239 < o → im o = Z.1 o) ∧ (∀ o, 239 < o → rm o = Z.2 o) ∧ ∀ k, k ≠ 80 → ∀ j o, rm k j = some o → o < 240
theorem FZ.keep {Z : TI × TP} {im im2 : TI} {rm r2 : TP} (h : FZ Z im rm) (e : ∀ o, 239 < o → im2 o = im o) (er : ∀ o, o ≠ 80 → r2 o = rm o) : FZ Z im2 r2 := ⟨fun o ho => (e o ho).trans (h.1 o ho), fun o ho => (er o (by omega)).trans (h.2.1 o ho), fun k hk j o hj => h.2.2 k hk j o (by rw [← er k hk]; exact hj)⟩
def TS (Z : TI × TP) (S : CS) (n : Nat) (T : Nat → CS) (sn : Option CS) (bl : Nat) (B : Nat → Int32) (im : TI) (rm : TP) : Prop := (RT rm ∧ RC rm) ∧ (CR 1 S im ∧ CI S) ∧ ((∃ hs, HO rm im hs n T) ∧ ∀ i, i < n → CI (T i)) ∧ NB 27 im ∧ (NB 53 im ∧ ∀ s, sn = some s → CR 53 s im ∧ CI s) ∧ im 0 3 = (if sn.isSome then 1 else 0) ∧ (im 0 6 = nI bl ∧ bl ≤ 60) ∧ (∀ j, j < 60 → im 237 j = B j) ∧ FZ Z im rm
theorem HO.keep {rm : TP} {im im2 : TI} {hs : Nat → Nat} {n : Nat} {T : Nat → CS} (h : HO rm im hs n T) (e : ∀ o, 79 ≤ o → o ≤ 236 → im2 o = im o) : HO rm im2 hs n T :=
  ⟨h.1, by rw [e 79 (by decide) (by decide)]; exact h.2.1, h.2.2.1, h.2.2.2.1, h.2.2.2.2.1, fun i hi => (h.2.2.2.2.2.1 i hi).keep fun q h1 h2 => by
    have := svL_in _ (h.2.2.2.1 i (Nat.lt_of_lt_of_le hi h.2.2.1)).2
    exact e q (by omega) (by omega), fun i hi => (h.2.2.2.2.2.2 i hi).keep fun q h1 h2 => by
    have := svL_in _ (h.2.2.2.1 i hi).2
    exact e q (by omega) (by omega)⟩
theorem TS.now {Z : TI × TP} {S S2 : CS} {n : Nat} {T : Nat → CS} {sn : Option CS} {bl : Nat} {B : Nat → Int32} {im im2 : TI} {rm : TP} (h : TS Z S n T sn bl B im rm) (hR : CR 1 S2 im2) (hI : CI S2) (f : fr 1 im im2) : TS Z S2 n T sn bl B im2 rm := by
  obtain ⟨h1, h2, ⟨⟨hs, hO⟩, h4⟩, h5, ⟨h6, h7⟩, h8, h9, h10⟩ := h
  have f0 := f 0 (by omega)
  refine ⟨h1, ⟨hR, hI⟩, ⟨⟨hs, hO.keep fun q a b => f q (by omega)⟩, h4⟩, h5.keep fun q a b => f q (by omega), ⟨h6.keep fun q a b => f q (by omega), fun s hs => ⟨(h7 s hs).1.keep fun q a b => f q (by omega), (h7 s hs).2⟩⟩, by rw [f0]; exact h8, by rw [f0]; exact h9, ⟨by rw [f 237 (by omega)]; exact h10.1, h10.2.keep (fun o ho => f o (by omega)) fun _ _ => rfl⟩⟩
theorem TS.saved {Z : TI × TP} {S : CS} {n : Nat} {T : Nat → CS} {sn : Option CS} {bl : Nat} {B : Nat → Int32} {im im2 : TI} {rm r2 : TP} (h : TS Z S n T sn bl B im rm) (hr : ∀ o, o ≠ 80 → r2 o = rm o) (f : frH im im2) (hO2 : ∃ hs2, HO r2 im2 hs2 (shN n) (shT n T S)) : TS Z S (shN n) (shT n T S) sn bl B im2 r2 := by
  obtain ⟨h1, h2, ⟨⟨hs, hO⟩, h4⟩, h5, ⟨h6, h7⟩, h8, h9, h10⟩ := h
  have f0 := f 0 (by omega)
  refine ⟨⟨h1.1.keep hr, h1.2.keep hr⟩, ⟨h2.1.keep fun q a b => f q (by omega), h2.2⟩, ⟨hO2, fun i hi => ?_⟩, h5.keep fun q a b => f q (by omega), ⟨h6.keep fun q a b => f q (by omega), fun s hs => ⟨(h7 s hs).1.keep fun q a b => f q (by omega), (h7 s hs).2⟩⟩, by rw [f0]; exact h8, by rw [f0]; exact h9, ⟨by rw [f 237 (by omega)]; exact h10.1, h10.2.keep (fun o ho => f o (by omega)) fun o ho => hr o (by omega)⟩⟩
  have hn := hO.2.2.1
  unfold shN at hi
  unfold shT
  by_cases e : n < 6
  · rw [if_pos e] at hi
    rw [if_pos e]
    by_cases e2 : i = n
    · rw [if_pos e2]; exact h2.2
    · rw [if_neg e2]; exact h4 i (by omega)
  · rw [if_neg e] at hi
    rw [if_neg e]
    by_cases e2 : i < 5
    · rw [if_pos e2]; exact h4 (i + 1) (by omega)
    · rw [if_neg e2]; exact h2.2

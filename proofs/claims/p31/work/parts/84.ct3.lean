/-! Constructors: the object -/
set_option maxHeartbeats 4000000 in
set_option maxRecDepth 100000 in
theorem K_Mills {l : Launch} (hlt : l.stackTraces = false) {im : TI} {rm : TP} {lm : TL} (hF : FS 1 im rm lm) : Con l m_X4_init 4 239 1992 (1) [pv (some 0)] im rm lm (fun N' v i r q => N' = 240 ∧ v = none ∧ TS (i, r) S0 0 (fun _ => S0) none 0 (fun _ => 0) i r ∧ q = lm ∧ FS 240 i r q) noX := by
  refine Con.ofN (k := 0) (L0 := [some (pv (some 0))]) hlt (by decide +kernel) rfl rfl (by rw [en1 pv_cat, en0]; exact Nat.le_of_ble_eq_true rfl) (by rw [en1 pv_cat, en0]; rfl) ?_
  refine t_aload0 dX4_init_0 ?_
  refine pw_objInit oi_X4 (by omega) dX4_init_1 (Nat.zero_le _) ?_
  refine t_aload0 dX4_init_4 ?_
  refine PW.room (mc' := 238 + 1) (ms' := 1979 + 13) (by decide) (by decide) ?_
  refine pw_new ft0 cl_X4_7 it_X0 in_X0 df0 dX4_init_5 (crD_all 1 (by decide)).1 (by omega) hF noXe (okL_s (okr (by omega)) okL_z) (okS_c (okr (by omega)) okS_z) ?_
  have hF := hF.up (N2 := 2) (by omega)
  refine pw_dup dX4_init_8 rfl ?_
  refine PW.room (mc' := 25 + 213) (ms' := 200 + 1779) (by decide) (by decide) ?_
  refine pw_callI (as := []) (b := 1) (K_Creek (l := l) hlt (c := 1) (crD_all 1 (by decide)) (by decide) hF) rfl rfl rfl mc_X0_init ml_X4_9 mi_X0_init in_X0 (okc_X0_init (by decide)) dX4_init_9 (by exact Nat.le_of_ble_eq_true rfl) (fun N' v i r q h => Or.inr ⟨by have := h.1; omega, (okL_s (okr (by omega)) okL_z), (okS_c (okr (by omega)) (okS_c (okr (by omega)) okS_z)), noXe⟩) (fun _ _ _ _ h => h.elim) (fun zN zv9 zi9 zr9 zq9 zh9 => ?_)
  obtain ⟨rfl, rfl, hm9, hq9, hG⟩ := zh9; clear hF; have hF := hG; clear hG; obtain rfl := hq9.symm
  refine pw_putr (o := (some 1)) ft4 fl_X4_10 (j := 0) (by decide) (by decide) (Or.inr ⟨rfl, rfl⟩) (Or.inl rfl) dX4_init_12 kdT (by omega) ?_
  have hF := hF.ur (o := 0) (k := 0) (v := (some 1)) (by omega) (fun z hz => by cases hz; omega)
  refine PW.gen (fun i r => CR 1 S0 i ∧ isC r 1 ∧ r 0 0 = some 1 ∧ FS 27 i r lm) ⟨hm9.1, hm9.2.1.cg fun k h1 h2 => ur_ne (by omega), by simp [ur_ap], hF⟩ fun i1 r1 ⟨hA, hQA, h00, hF⟩ => ?_
  refine t_aload0 dX4_init_15 ?_
  refine PW.room (mc' := 212 + 1) (ms' := 1766 + 13) (by decide) (by decide) ?_
  refine pw_new ft0 cl_X4_7 it_X0 in_X0 df0 dX4_init_16 (crD_all 27 (by decide)).1 (by omega) hF noXe (okL_s (okr (by omega)) okL_z) (okS_c (okr (by omega)) okS_z) ?_
  have hF := hF.up (N2 := 28) (by omega)
  refine pw_dup dX4_init_19 rfl ?_
  refine PW.room (mc' := 25 + 187) (ms' := 200 + 1566) (by decide) (by decide) ?_
  refine pw_callI (as := []) (b := 27) (K_Creek (l := l) hlt (c := 27) (crD_all 27 (by decide)) (by decide) hF) rfl rfl rfl mc_X0_init ml_X4_9 mi_X0_init in_X0 (okc_X0_init (by decide)) dX4_init_20 (by exact Nat.le_of_ble_eq_true rfl) (fun N' v i r q h => Or.inr ⟨by have := h.1; omega, (okL_s (okr (by omega)) okL_z), (okS_c (okr (by omega)) (okS_c (okr (by omega)) okS_z)), noXe⟩) (fun _ _ _ _ h => h.elim) (fun zN zv20 zi20 zr20 zq20 zh20 => ?_)
  obtain ⟨rfl, rfl, hm20, hq20, hG⟩ := zh20; clear hF; have hF := hG; clear hG; obtain rfl := hq20.symm
  refine pw_putr (o := (some 27)) ft4 fl_X4_16 (j := 1) (by decide) (by decide) (Or.inr ⟨rfl, rfl⟩) (Or.inl rfl) dX4_init_23 kdT (by omega) ?_
  have hF := hF.ur (o := 0) (k := 1) (v := (some 27)) (by omega) (fun z hz => by cases hz; omega)
  refine PW.gen (fun i r => (CR 1 S0 i ∧ NB 27 i) ∧ (isC r 1 ∧ isC r 27) ∧ (r 0 0 = some 1 ∧ r 0 1 = some 27) ∧ FS 53 i r lm) ⟨⟨hA.keep fun o h1 h2 => (hm20.2.2 o (by omega)).1, hm20.1.nb⟩, ⟨hQA.cg fun o h1 h2 => by rw [ur_ne (by omega), (hm20.2.2 o (by omega)).2], hm20.2.1.cg fun k h1 h2 => ur_ne (by omega)⟩, ⟨by rw [ur_at, if_neg (by decide), (hm20.2.2 0 (by decide)).2]; exact h00, by simp [ur_ap]⟩, hF⟩ fun i2 r2 ⟨⟨hA, hB⟩, ⟨hQA, hQB⟩, ⟨h00, h01⟩, hF⟩ => ?_
  refine t_aload0 dX4_init_26 ?_
  refine PW.room (mc' := 186 + 1) (ms' := 1553 + 13) (by decide) (by decide) ?_
  refine pw_new ft0 cl_X4_7 it_X0 in_X0 df0 dX4_init_27 (crD_all 53 (by decide)).1 (by omega) hF noXe (okL_s (okr (by omega)) okL_z) (okS_c (okr (by omega)) okS_z) ?_
  have hF := hF.up (N2 := 54) (by omega)
  refine pw_dup dX4_init_30 rfl ?_
  refine PW.room (mc' := 25 + 161) (ms' := 200 + 1353) (by decide) (by decide) ?_
  refine pw_callI (as := []) (b := 53) (K_Creek (l := l) hlt (c := 53) (crD_all 53 (by decide)) (by decide) hF) rfl rfl rfl mc_X0_init ml_X4_9 mi_X0_init in_X0 (okc_X0_init (by decide)) dX4_init_31 (by exact Nat.le_of_ble_eq_true rfl) (fun N' v i r q h => Or.inr ⟨by have := h.1; omega, (okL_s (okr (by omega)) okL_z), (okS_c (okr (by omega)) (okS_c (okr (by omega)) okS_z)), noXe⟩) (fun _ _ _ _ h => h.elim) (fun zN zv31 zi31 zr31 zq31 zh31 => ?_)
  obtain ⟨rfl, rfl, hm31, hq31, hG⟩ := zh31; clear hF; have hF := hG; clear hG; obtain rfl := hq31.symm
  refine pw_putr (o := (some 53)) ft4 fl_X4_19 (j := 2) (by decide) (by decide) (Or.inr ⟨rfl, rfl⟩) (Or.inl rfl) dX4_init_34 kdT (by omega) ?_
  have hF := hF.ur (o := 0) (k := 2) (v := (some 53)) (by omega) (fun z hz => by cases hz; omega)
  refine PW.gen (fun i r => (CR 1 S0 i ∧ NB 27 i ∧ NB 53 i) ∧ (isC r 1 ∧ isC r 27 ∧ isC r 53) ∧ (r 0 0 = some 1 ∧ r 0 1 = some 27 ∧ r 0 2 = some 53) ∧ FS 79 i r lm) ⟨⟨hA.keep fun o h1 h2 => (hm31.2.2 o (by omega)).1, hB.keep fun o h1 h2 => (hm31.2.2 o (by omega)).1, hm31.1.nb⟩, ⟨hQA.cg fun o h1 h2 => by rw [ur_ne (by omega), (hm31.2.2 o (by omega)).2], hQB.cg fun o h1 h2 => by rw [ur_ne (by omega), (hm31.2.2 o (by omega)).2], hm31.2.1.cg fun k h1 h2 => ur_ne (by omega)⟩, ⟨by rw [ur_at, if_neg (by decide), (hm31.2.2 0 (by decide)).2]; exact h00, by rw [ur_at, if_neg (by decide), (hm31.2.2 0 (by decide)).2]; exact h01, by simp [ur_ap]⟩, hF⟩ fun i3 r3 ⟨⟨hA, hB, hC⟩, ⟨hQA, hQB, hQC⟩, ⟨h00, h01, h02⟩, hF⟩ => ?_
  refine t_aload0 dX4_init_37 ?_
  refine pw_iconst (0) dX4_init_38 (by decide) ?_
  refine pw_puti ft4 fl_X4_22 (j := 3) (by decide) (by decide) (Or.inl rfl) ⟨rfl, rfl⟩ dX4_init_39 kdT (by omega) ?_
  have hF := hF.ui (o := 0) (k := 3) (v := (0)) (by omega)
  refine t_aload0 dX4_init_42 ?_
  refine PW.room (mc' := 160 + 1) (ms' := 1351 + 2) (by decide) (by decide) ?_
  refine pw_new ft1 cl_X4_26 it_X1 in_X1 df1 dX4_init_43 kd79 (by omega) hF noXe (okL_s (okr (by omega)) okL_z) (okS_c (okr (by omega)) okS_z) ?_
  have hF := hF.up (N2 := 80) (by omega)
  refine pw_dup dX4_init_46 rfl ?_
  refine PW.room (mc' := 157 + 3) (ms' := 1284 + 67) (by decide) (by decide) ?_
  refine pw_callI (as := []) (b := 79) (K_Hist (l := l) hlt hF) rfl rfl rfl mc_X1_init ml_X4_28 mi_X1_init in_X1 (okc_X1_init (by decide)) dX4_init_47 (by exact Nat.le_of_ble_eq_true rfl) (fun N' v i r q h => Or.inr ⟨by have := h.1; omega, (okL_s (okr (by omega)) okL_z), (okS_c (okr (by omega)) (okS_c (okr (by omega)) okS_z)), noXe⟩) (fun _ _ _ _ h => h.elim) (fun zN zv47 zi47 zr47 zq47 zh47 => ?_)
  obtain ⟨rfl, rfl, hma, hmb, hmc, hq47, hG⟩ := zh47; clear hF; have hF := hG; clear hG; obtain rfl := hq47.symm
  have hm47 := And.intro hma (And.intro hmb hmc)
  refine pw_putr (o := (some 79)) ft4 fl_X4_29 (j := 4) (by decide) (by decide) (Or.inr ⟨rfl, rfl⟩) (Or.inl rfl) dX4_init_50 kdT (by omega) ?_
  have hF := hF.ur (o := 0) (k := 4) (v := (some 79)) (by omega) (fun z hz => by cases hz; omega)
  have hH := hm47.1
  refine PW.gen (fun i r => (CR 1 S0 i ∧ NB 27 i ∧ NB 53 i ∧ i 0 3 = 0) ∧ (isC r 1 ∧ isC r 27 ∧ isC r 53 ∧ ∀ c ∈ svL, isC r c) ∧ (r 0 0 = some 1 ∧ r 0 1 = some 27 ∧ r 0 2 = some 53 ∧ r 0 4 = some 79) ∧ HO r i (fun p => 81 + 26 * p) 0 (fun _ => S0) ∧ FS 237 i r lm) ⟨⟨hA.keep fun o h1 h2 => by rw [(hm47.2.2 o (by omega)).1, ui_ne (by omega)], hB.keep fun o h1 h2 => by rw [(hm47.2.2 o (by omega)).1, ui_ne (by omega)], hC.keep fun o h1 h2 => by rw [(hm47.2.2 o (by omega)).1, ui_ne (by omega)], by rw [(hm47.2.2 0 (by decide)).1]; simp [ui_ap]⟩, ⟨hQA.cg fun o h1 h2 => by rw [ur_ne (by omega), (hm47.2.2 o (by omega)).2], hQB.cg fun o h1 h2 => by rw [ur_ne (by omega), (hm47.2.2 o (by omega)).2], hQC.cg fun o h1 h2 => by rw [ur_ne (by omega), (hm47.2.2 o (by omega)).2], fun c hc => (hm47.2.1 c hc).cg fun o h1 h2 => ur_ne (by have := svL_in c hc; omega)⟩, ⟨by rw [ur_at, if_neg (by decide), (hm47.2.2 0 (by decide)).2]; exact h00, by rw [ur_at, if_neg (by decide), (hm47.2.2 0 (by decide)).2]; exact h01, by rw [ur_at, if_neg (by decide), (hm47.2.2 0 (by decide)).2]; exact h02, by simp [ur_ap]⟩, ⟨by rw [ur_ne (by decide)]; exact hH.1, hH.2.1, hH.2.2.1, fun p hp => by rw [ur_ne (by decide)]; exact hH.2.2.2.1 p hp, hH.2.2.2.2⟩, hF⟩ fun i4 r4 ⟨⟨hA, hB, hC, h03⟩, ⟨hQA, hQB, hQC, hQS⟩, ⟨h00, h01, h02, h04⟩, hH, hF⟩ => ?_
  have z237 := (hF.1 237 (by omega)).1
  refine t_aload0 dX4_init_53 ?_
  refine pw_bipush (60) dX4_init_54 (by decide) ?_
  refine PW.room (mc' := 2 + 1) (ms' := 7 + al 237) (by decide) (by rw [alB]; decide) ?_
  refine pw_newi dX4_init_56 kdB (by decide) (by rw [alB]; decide) (by rw [alB]; decide) (by omega) hF noXe (okL_s (okr (by omega)) okL_z) (okS_c (okr (by omega)) okS_z) ?_
  have hF := hF.up (N2 := 238) (by omega)
  refine pw_putr (C2 := "") (o := (some 237)) ft4 fl_X4_33 (j := 5) (by decide) (by decide) (Or.inr ⟨rfl, rfl⟩) (Or.inr ⟨_, rfl⟩) dX4_init_58 kdT (by omega) ?_
  have hF := hF.ur (o := 0) (k := 5) (v := (some 237)) (by omega) (fun z hz => by cases hz; omega)
  refine t_aload0 dX4_init_61 ?_
  refine pw_iconst (0) dX4_init_62 (by decide) ?_
  refine pw_puti ft4 fl_X4_37 (j := 6) (by decide) (by decide) (Or.inl rfl) ⟨rfl, rfl⟩ dX4_init_63 kdT (by omega) ?_
  have hF := hF.ui (o := 0) (k := 6) (v := (0)) (by omega)
  refine t_aload0 dX4_init_66 ?_
  refine PW.room (mc' := 1 + 1) (ms' := 3 + 4) (by decide) (by decide) ?_
  refine pw_new ft3 cl_X4_41 it_X3 in_X3 df3 dX4_init_67 kdR (by omega) hF noXe (okL_s (okr (by omega)) okL_z) (okS_c (okr (by omega)) okS_z) ?_
  have hF := hF.up (N2 := 239) (by omega)
  refine pw_dup dX4_init_70 rfl ?_
  refine PW.room (mc' := 1 + 0) (ms' := 3 + 0) (by decide) (by decide) ?_
  refine pw_callIN (b := 238) (K_Reader (l := l) hlt hF) rfl (by decide) dX4_init_71 (by exact Nat.le_of_ble_eq_true rfl) (fun N' v i r q h => Or.inr ⟨by have := h.1; omega, (okL_s (okr (by omega)) okL_z), (okS_c (okr (by omega)) (okS_c (okr (by omega)) okS_z)), noXe⟩) (fun _ _ _ _ h => h.elim) (fun zN zv71 zi71 zr71 zq71 zh71 => ?_)
  obtain ⟨rfl, rfl, hma, hmb, hq71, hG⟩ := zh71; clear hF; have hF := hG; clear hG; obtain rfl := hq71.symm
  have hm71 := And.intro hma hmb
  refine pw_putr (o := (some 238)) ft4 fl_X4_44 (j := 7) (by decide) (by decide) (Or.inr ⟨rfl, rfl⟩) (Or.inl rfl) dX4_init_74 kdT (by omega) ?_
  have hF := hF.ur (o := 0) (k := 7) (v := (some 238)) (by omega) (fun z hz => by cases hz; omega)
  refine pw_vret dX4_init_77 rfl ?_
  have hQ2 : ∀ c ∈ svL, isC (ur zr71 0 7 (some 238)) c := fun c hc => (hQS c hc).cg fun o h1 h2 => by have := svL_in c hc; rw [ur_ne (by omega), (hm71.2 o (by omega)).2, ur_ne (by omega)]
  refine ⟨rfl, rfl, ⟨⟨⟨by rw [ur_at, if_neg (by decide), (hm71.2 0 (by decide)).2, ur_at, if_neg (by decide)]; exact h00, by rw [ur_at, if_neg (by decide), (hm71.2 0 (by decide)).2, ur_at, if_neg (by decide)]; exact h01, by rw [ur_at, if_neg (by decide), (hm71.2 0 (by decide)).2, ur_at, if_neg (by decide)]; exact h02, by rw [ur_at, if_neg (by decide), (hm71.2 0 (by decide)).2, ur_at, if_neg (by decide)]; exact h04, ?_, by simp [ur_ap], by rw [ur_ne (by decide)]; exact hm71.1⟩, fun c hc => ?_⟩, ⟨hA.keep fun o h1 h2 => by rw [(hm71.2 o (by omega)).1, ui_ne (by omega)], fun m hm => ⟨0, by decide, rfl⟩⟩, ⟨⟨fun p => 81 + 26 * p, ?_⟩, fun p hp => absurd hp (by omega)⟩, hB.keep fun o h1 h2 => by rw [(hm71.2 o (by omega)).1, ui_ne (by omega)], ⟨hC.keep fun o h1 h2 => by rw [(hm71.2 o (by omega)).1, ui_ne (by omega)], fun s hs => by cases hs⟩, ?_, ⟨?_, by decide⟩, fun j hj => ?_, ⟨fun _ _ => rfl, fun _ _ => rfl, fun k _ j o h => hF.2 k j o h⟩⟩, rfl, hF⟩
  · rw [ur_at, if_neg (by decide), (hm71.2 0 (by decide)).2]; simp [ur_ap]
  · rcases List.mem_cons.mp hc with rfl | hc
    · exact hQA.cg fun o h1 h2 => by rw [ur_ne (by omega), (hm71.2 o (by omega)).2, ur_ne (by omega)]
    · rcases List.mem_cons.mp hc with rfl | hc
      · exact hQB.cg fun o h1 h2 => by rw [ur_ne (by omega), (hm71.2 o (by omega)).2, ur_ne (by omega)]
      · rcases List.mem_cons.mp hc with rfl | hc
        · exact hQC.cg fun o h1 h2 => by rw [ur_ne (by omega), (hm71.2 o (by omega)).2, ur_ne (by omega)]
        · exact hQ2 c hc
  · have hR : HO (ur zr71 0 7 (some 238)) (ui i4 0 6 0) (fun p => 81 + 26 * p) 0 (fun _ => S0) := ⟨by rw [ur_ne (by decide), (hm71.2 79 (by decide)).2, ur_ne (by decide)]; exact hH.1, by rw [ui_ne (by decide)]; exact hH.2.1, hH.2.2.1, fun p hp => by rw [ur_ne (by decide), (hm71.2 80 (by decide)).2, ur_ne (by decide)]; exact hH.2.2.2.1 p hp, hH.2.2.2.2.1, fun p hp => absurd hp (by omega), fun p hp => (hH.2.2.2.2.2.2 p hp).keep fun o h1 h2 => ui_ne (by have h1 : 81 + 26 * p ≤ o := h1; omega)⟩
    exact hR.keep fun o h1 h2 => (hm71.2 o (by omega)).1
  · rw [(hm71.2 0 (by decide)).1]; simp only [ui_ap]; exact h03
  · rw [(hm71.2 0 (by decide)).1]; simp [ui_ap]; rfl
  · rw [(hm71.2 237 (by decide)).1, ui_ne (by decide), z237]

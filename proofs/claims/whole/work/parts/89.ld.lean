/-! The law: every op, by its cases -/
section LAWD
variable {l : Launch} {Lx : Nat} {xs : Nat → Int32} {i : Nat} {mc ms : Nat} {mtM : MT} {as : List Value} {im : TI} {rm : TP} {lm : TL} {Q : TQ} {S S2 : CS} {n n2 : Nat} {T T2 : Nat → CS} {sn sn2 : Option CS} {bl bl2 : Nat} {B B2 : Nat → Int32}
theorem erX {E : String} {k : Int32} (hk : k ≠ 0) (hL : LI S n T sn bl B im rm)
    (hM : MM rm → MZ im S n T sn bl B im → Con l mtM 9 0 0 NN as im rm lm (QI (fun _ i2 => i2 240 8 = k ∧ MZ im S n T sn bl B i2) rm lm) noX) :
    ∀ i1 r1 q1, XT E True im rm lm E i1 r1 q1 → Con l mtM 9 0 0 NN as i1 r1 q1 (QI (fun y i2 => i2 240 8 = k ∧ (k = 0 → q1 247 0 = y.toInt64) ∧ LJ i2 r1) r1 q1) noX := by
  rintro i1 r1 q1 ⟨-, -, rfl, rfl, rfl⟩
  exact erM hk hL hL.1 hM
theorem okX {x : Int32} (hL : LI S n T sn bl B im rm) (hW : WW S2 n2 T2 sn2 bl2 B2)
    (hM : ∀ i1 r1 q1, MM r1 → MZ i1 S n T sn bl B i1 → Con l mtM 9 0 0 NN as i1 r1 q1 (QI (fun y i2 => y = x ∧ i2 240 8 = 0 ∧ MZ i1 S2 n2 T2 sn2 bl2 B2 i2) r1 q1) noX) :
    ∀ i1 r1 q1, (q1 = ul lm 247 0 x.toInt64 ∧ TS (im, rm) S2 n2 T2 sn2 bl2 B2 i1 r1) → Con l mtM 9 0 0 NN as i1 r1 q1 (QI (fun y i2 => i2 240 8 = 0 ∧ ((0 : Int32) = 0 → q1 247 0 = y.toInt64) ∧ LJ i2 r1) r1 q1) noX :=
  fun i1 r1 q1 h => okM hL hW h.1 h.2 (hM i1 r1 q1)
theorem dirX {x : Int32} (hL : LI S n T sn bl B im rm) (hW : WW S2 n2 T2 sn2 bl2 B2)
    (hM : ∀ i1 r1 q1, MM r1 → MZ i1 S n T sn bl B i1 → Con l mtM 9 0 0 NN as i1 r1 q1 (QI (fun y i2 => y = x ∧ i2 240 8 = 0 ∧ MZ i1 S2 n2 T2 sn2 bl2 B2 i2) r1 q1) noX) :
    ∀ i1 r1 q1, (q1 = lm ∧ TS (im, rm) S2 n2 T2 sn2 bl2 B2 i1 r1) → Con l mtM 9 0 0 NN as i1 r1 q1 (QI (fun y i2 => y = x ∧ LJ i2 r1) r1 q1) noX :=
  fun i1 r1 q1 h => dirM hL hW h.2 (hM i1 r1 q1)
theorem cnt_ins {m t k pl : Nat} {s a b c : Int32} (h : ¬ m = t) : cnt (inS S t k pl s a b c) m = cnt S m := by
  unfold cnt inS upM
  show ((if m = t then _ else S.2.1 m) 9).toNatClampNeg = _
  rw [if_neg h]
theorem hc6 (hI : CI S) {t : Nat} (ht : t < 5) (h : S.2.1 t 9 < 6) : cnt S t < 6 := by
  obtain ⟨h1, h2⟩ := hI.c ht
  rw [h2, show (6 : Int32) = nI 6 from rfl, nI_ltI (by omega) (by decide)] at h
  exact h
theorem hc1 (hI : CI S) {m p : Nat} (hm : m < 5) (hp : p < cnt S m) : S.2.1 m 9 = nI (cnt S m - 1 + 1) ∧ cnt S m - 1 < 6 ∧ p ≤ cnt S m - 1 := by
  obtain ⟨h1, h2⟩ := hI.c hm
  rw [show cnt S m - 1 + 1 = cnt S m by omega]
  exact ⟨h2, by omega, by omega⟩
theorem neg_of {x : Int32} (h : (0 : Int32) ≤ x) : ¬ x < 0 := fun z => absurd (Int32.lt_of_le_of_lt h z) (by decide)
theorem le_max {x : Int32} : x ≤ 2147483647 := by
  rw [Int32.le_iff_toInt_le]
  exact Int32.toInt_le x
theorem lt0_of {x : Int32} (h : ¬ (0 : Int32) ≤ x) : x < 0 := by
  rw [Int32.le_iff_toInt_le] at h
  rw [Int32.lt_iff_toInt_lt]
  omega
theorem sackAt_is (hR : CR 1 S im) (hI : CI S) {m p : Nat} (hm : m < 5) (hp : p < 2 ^ 31) : (if ¬ nI p < 0 ∧ nI p < im (mA 1 m) 11 ∧ nI p < 6 then im (mA 1 m + 1) (nI p).toNatClampNeg else -1) = stS S m p 0 := by
  have g := hR.2 m hm
  obtain ⟨c1, c2⟩ := hI.c hm
  have e9 : im (mA 1 m) 11 = S.2.1 m 9 := g.2.1 9 (by decide)
  have i1 : nI p < im (mA 1 m) 11 ↔ p < cnt S m := by rw [e9, c2]; exact nI_ltI hp (by omega)
  have i2 : nI p < 6 ↔ p < 6 := nI_ltI hp (by decide)
  have hn : ¬ nI p < 0 := fun z => absurd ((nI_ltI (b := 0) hp (by decide)).mp z) (by omega)
  unfold stS
  by_cases h : p < cnt S m
  · rw [if_pos ⟨hn, i1.mpr h, i2.mpr (by omega)⟩, if_pos h, nI_clamp hp, (g.2.2 p (by omega)).1]
  · rw [if_neg (fun z => h (i1.mp z.2.1)), if_neg h]
set_option maxHeartbeats 4000000 in
theorem do_pond (hlt : l.stackTraces = false) (hi : i + 4 ≤ Lx) (hL : Lx ≤ 2048) (h : LI S n T sn bl B im rm) (K : ∀ i2 r2 q2, LJ i2 r2 → PW l (m_L_law Lx xs) 12 mc ms NN 1604 (LL i) [] i2 r2 q2 Q noX) : PW l (m_L_law Lx xs) 12 (1 + mc) (6 + ms) NN 164 (LL i) [] im rm lm Q noX := by
  rcases hmo : maO (xs (i + 1)) with _ | m
  · exact op_pond hlt hi hL (HX_pond_1 hlt (C_pondI hlt h.1 hmo) (fun _ _ _ _ h => h.1)) (erX (by decide) h (fun hM hZ => M_pondI hlt hM hZ hmo)) K
  · by_cases ha : (50 : Int32) ≤ xs (i + 2) ∧ xs (i + 2) ≤ 500
    · by_cases hb : (0 : Int32) ≤ xs (i + 3) ∧ xs (i + 3) ≤ 60
      · by_cases hw : S.2.1 m 1 ≤ xs (i + 2)
        · refine PW.room (mc' := 0 + mc) (ms' := 0 + ms) (by omega) (by omega) ?_
          exact op_pond hlt hi hL (H_pond hlt (C_pond hlt h.1 hmo ha hb hw)) (okX h (h.sh (h.2.2.2.1.pond (m := m) ha hb hw)) (fun _ _ _ hM hZ => M_pond hlt hM hZ hmo ha hb hw)) K
        · exact op_pond hlt hi hL (HX_pond_3 hlt (C_pondS hlt h.1 hmo ha hb hw) (fun _ _ _ _ h => h.1)) (erX (by decide) h (fun hM hZ => M_pondS hlt hM hZ hmo ha hb hw)) K
      · exact op_pond hlt hi hL (HX_pond_2 hlt (C_pondA2 hlt h.1 hmo ha hb) (fun _ _ _ _ h => h.1)) (erX (by decide) h (fun hM hZ => M_pondA2 hlt hM hZ hmo ha hb)) K
    · exact op_pond hlt hi hL (HX_pond_2 hlt (C_pondA1 hlt h.1 hmo ha) (fun _ _ _ _ h => h.1)) (erX (by decide) h (fun hM hZ => M_pondA1 hlt hM hZ hmo ha)) K
set_option maxHeartbeats 4000000 in
theorem do_gate (hlt : l.stackTraces = false) (hi : i + 4 ≤ Lx) (hL : Lx ≤ 2048) (h : LI S n T sn bl B im rm) (K : ∀ i2 r2 q2, LJ i2 r2 → PW l (m_L_law Lx xs) 12 mc ms NN 1604 (LL i) [] i2 r2 q2 Q noX) : PW l (m_L_law Lx xs) 12 (1 + mc) (6 + ms) NN 244 (LL i) [] im rm lm Q noX := by
  rcases hmo : maO (xs (i + 1)) with _ | m
  · exact op_gate hlt hi hL (HX_gate_1 hlt (C_gateI hlt h.1 hmo) (fun _ _ _ _ h => h.1)) (erX (by decide) h (fun hM hZ => M_gateI hlt hM hZ hmo)) K
  · by_cases ha : (0 : Int32) ≤ xs (i + 2) ∧ xs (i + 2) ≤ 11
    · by_cases hb : xs (i + 2) ≤ xs (i + 3) ∧ xs (i + 3) ≤ 11
      · refine PW.room (mc' := 0 + mc) (ms' := 0 + ms) (by omega) (by omega) ?_
        exact op_gate hlt hi hL (H_gate hlt (C_gate hlt h.1 hmo ha hb)) (okX h (h.sh (h.2.2.2.1.gate (m := m) ha hb)) (fun _ _ _ hM hZ => M_gate hlt hM hZ hmo ha hb)) K
      · exact op_gate hlt hi hL (HX_gate_2 hlt (C_gateA2 hlt h.1 hmo ha hb) (fun _ _ _ _ h => h.1)) (erX (by decide) h (fun hM hZ => M_gateA2 hlt hM hZ hmo ha hb)) K
    · exact op_gate hlt hi hL (HX_gate_2 hlt (C_gateA1 hlt h.1 hmo ha) (fun _ _ _ _ h => h.1)) (erX (by decide) h (fun hM hZ => M_gateA1 hlt hM hZ hmo ha)) K
set_option maxHeartbeats 4000000 in
theorem do_gear (hlt : l.stackTraces = false) (hi : i + 4 ≤ Lx) (hL : Lx ≤ 2048) (h : LI S n T sn bl B im rm) (K : ∀ i2 r2 q2, LJ i2 r2 → PW l (m_L_law Lx xs) 12 mc ms NN 1604 (LL i) [] i2 r2 q2 Q noX) : PW l (m_L_law Lx xs) 12 (1 + mc) (6 + ms) NN 324 (LL i) [] im rm lm Q noX := by
  rcases hmo : maO (xs (i + 1)) with _ | m
  · exact op_gear hlt hi hL (HX_gear_1 hlt (C_gearI hlt h.1 hmo) (fun _ _ _ _ h => h.1)) (erX (by decide) h (fun hM hZ => M_gearI hlt hM hZ hmo)) K
  · by_cases ha : 8 ≤ xs (i + 2) ∧ xs (i + 2) ≤ 60
    · by_cases hb : 8 ≤ xs (i + 3) ∧ xs (i + 3) ≤ 60
      · refine PW.room (mc' := 0 + mc) (ms' := 0 + ms) (by omega) (by omega) ?_
        exact op_gear hlt hi hL (H_gear hlt (C_gear hlt h.1 hmo ha hb)) (okX h (h.sh (h.2.2.2.1.gear (m := m) ha hb)) (fun _ _ _ hM hZ => M_gear hlt hM hZ hmo ha hb)) K
      · exact op_gear hlt hi hL (HX_gear_2 hlt (C_gearA2 hlt h.1 hmo ha hb) (fun _ _ _ _ h => h.1)) (erX (by decide) h (fun hM hZ => M_gearA2 hlt hM hZ hmo ha hb)) K
    · exact op_gear hlt hi hL (HX_gear_2 hlt (C_gearA1 hlt h.1 hmo ha) (fun _ _ _ _ h => h.1)) (erX (by decide) h (fun hM hZ => M_gearA1 hlt hM hZ hmo ha)) K
set_option maxHeartbeats 4000000 in
theorem do_sack (hlt : l.stackTraces = false) (hi : i + 4 ≤ Lx) (hL : Lx ≤ 2048) (h : LI S n T sn bl B im rm) (K : ∀ i2 r2 q2, LJ i2 r2 → PW l (m_L_law Lx xs) 12 mc ms NN 1604 (LL i) [] i2 r2 q2 Q noX) : PW l (m_L_law Lx xs) 12 (1 + mc) (6 + ms) NN 528 (LL i) [] im rm lm Q noX := by
  rcases hmo : maO (xs (i + 1)) with _ | m
  · exact op_sack hlt hi hL (HX_sack_1 hlt (C_sackI hlt h.1 hmo) (fun _ _ _ _ h => h.1)) (erX (by decide) h (fun hM hZ => M_sackI hlt hM hZ hmo)) K
  · by_cases ha : (1 : Int32) ≤ xs (i + 2) ∧ xs (i + 2) ≤ 999
    · by_cases hb : (1 : Int32) ≤ xs (i + 3) ∧ xs (i + 3) ≤ 9999
      · by_cases hw : hrP S m
        · refine PW.room (mc' := 0 + mc) (ms' := 0 + ms) (by omega) (by omega) ?_
          exact op_sack hlt hi hL (H_sack hlt (C_sack hlt h.1 hmo ha hb hw)) (okX h (h.sh (h.2.2.2.1.br (maO_some hmo).1 hw ha)) (fun _ _ _ hM hZ => M_sack hlt hM hZ hmo ha hb h.2.2.2.1.1.1 hw (h.2.2.2.1.bk (maO_some hmo).1))) K
        · exact op_sack hlt hi hL (HX_sack_3 hlt (C_sackS hlt h.1 hmo ha hb hw) (fun _ _ _ _ h => h.1)) (erX (by decide) h (fun hM hZ => M_sackS hlt hM hZ hmo ha hb hw)) K
      · exact op_sack hlt hi hL (HX_sack_2 hlt (C_sackA2 hlt h.1 hmo ha hb) (fun _ _ _ _ h => h.1)) (erX (by decide) h (fun hM hZ => M_sackA2 hlt hM hZ hmo ha hb)) K
    · exact op_sack hlt hi hL (HX_sack_2 hlt (C_sackA1 hlt h.1 hmo ha) (fun _ _ _ _ h => h.1)) (erX (by decide) h (fun hM hZ => M_sackA1 hlt hM hZ hmo ha)) K
set_option maxHeartbeats 4000000 in
theorem do_set (hlt : l.stackTraces = false) (hi : i + 4 ≤ Lx) (hL : Lx ≤ 2048) (h : LI S n T sn bl B im rm) (K : ∀ i2 r2 q2, LJ i2 r2 → PW l (m_L_law Lx xs) 12 mc ms NN 1604 (LL i) [] i2 r2 q2 Q noX) : PW l (m_L_law Lx xs) 12 (1 + mc) (6 + ms) NN 404 (LL i) [] im rm lm Q noX := by
  by_cases hr2 : (0 : Int32) ≤ xs (i + 1) ∧ xs (i + 1) ≤ 2
  · obtain ⟨j, hj, e⟩ := nI_of2 (n := 2) (M := 2) (by decide) (neg_of hr2.1) hr2.2
    rcases (show j = 0 ∨ j = 1 ∨ j = 2 by omega) with rfl | rfl | rfl
    · have e : xs (i + 1) = 0 := e
      rw [e] at hr2
      by_cases ha : (1 : Int32) ≤ xs (i + 2) ∧ xs (i + 2) ≤ 15
      · refine PW.room (mc' := 0 + mc) (ms' := 0 + ms) (by omega) (by omega) ?_
        exact op_set hlt hi hL (by rw [e]; exact H_set hlt (C_set0 hlt h.1 ha)) (by rw [e]; exact okX h (h.sh (h.2.2.2.1.set0 ha)) (fun _ _ _ hM hZ => M_set0 hlt hM hZ ha)) K
      · exact op_set hlt hi hL (by rw [e]; exact HX_set_2 hlt (C_set0A hlt h.1 ha) (fun _ _ _ _ h => h.1)) (by rw [e]; exact erX (by decide) h (fun hM hZ => M_set0A hlt hM hZ ha)) K
    · have e : xs (i + 1) = 1 := e
      rw [e] at hr2
      by_cases ha : (0 : Int32) ≤ xs (i + 2) ∧ xs (i + 2) ≤ 100
      · refine PW.room (mc' := 0 + mc) (ms' := 0 + ms) (by omega) (by omega) ?_
        exact op_set hlt hi hL (by rw [e]; exact H_set hlt (C_set1 hlt h.1 ha)) (by rw [e]; exact okX h (h.sh (h.2.2.2.1.set1 ha)) (fun _ _ _ hM hZ => M_set1 hlt hM hZ ha)) K
      · exact op_set hlt hi hL (by rw [e]; exact HX_set_2 hlt (C_set1A hlt h.1 ha) (fun _ _ _ _ h => h.1)) (by rw [e]; exact erX (by decide) h (fun hM hZ => M_set1A hlt hM hZ ha)) K
    · have e : xs (i + 1) = 2 := e
      rw [e] at hr2
      by_cases ha : (5 : Int32) ≤ xs (i + 2) ∧ xs (i + 2) ≤ 100
      · refine PW.room (mc' := 0 + mc) (ms' := 0 + ms) (by omega) (by omega) ?_
        exact op_set hlt hi hL (by rw [e]; exact H_set hlt (C_set2 hlt h.1 ha)) (by rw [e]; exact okX h (h.sh (h.2.2.2.1.set2 ha)) (fun _ _ _ hM hZ => M_set2 hlt hM hZ ha)) K
      · exact op_set hlt hi hL (by rw [e]; exact HX_set_2 hlt (C_set2A hlt h.1 ha) (fun _ _ _ _ h => h.1)) (by rw [e]; exact erX (by decide) h (fun hM hZ => M_set2A hlt hM hZ ha)) K
  · have hx : xs (i + 1) < 0 ∨ ¬ xs (i + 1) ≤ 2 := by
      by_cases z : (0 : Int32) ≤ xs (i + 1)
      · exact Or.inr fun z2 => hr2 ⟨z, z2⟩
      · exact Or.inl (lt0_of z)
    exact op_set hlt hi hL (HX_set_1 hlt (C_setI hlt h.1 hx) (fun _ _ _ _ h => h.1)) (erX (by decide) h (fun hM hZ => M_setI hlt hM hZ hr2)) K
set_option maxHeartbeats 4000000 in
theorem do_pass (hlt : l.stackTraces = false) (hi : i + 4 ≤ Lx) (hL : Lx ≤ 2048) (h : LI S n T sn bl B im rm) (K : ∀ i2 r2 q2, LJ i2 r2 → PW l (m_L_law Lx xs) 12 mc ms NN 1604 (LL i) [] i2 r2 q2 Q noX) : PW l (m_L_law Lx xs) 12 (1 + mc) (6 + ms) NN 472 (LL i) [] im rm lm Q noX := by
  by_cases ha : (1 : Int32) ≤ xs (i + 1) ∧ xs (i + 1) ≤ 48
  · obtain ⟨N, hN, e⟩ := nI_of2 (n := 48) (M := 48) (by decide) (fun z => absurd (Int32.lt_of_le_of_lt ha.1 z) (by decide)) ha.2
    refine PW.room (mc' := 0 + mc) (ms' := 0 + ms) (by omega) (by omega) ?_
    rw [e] at ha
    exact op_pass hlt hi hL (by rw [e]; exact H_pass hlt (C_pass hlt h.1 (by omega) ha)) (by rw [e]; exact okX h (h.sh (h.2.2.2.1.hours N)) (fun _ _ _ hM hZ => M_pass hlt hM hZ h.2.2.2.1.1 (by omega) ha)) K
  · exact op_pass hlt hi hL (HX_pass_1 hlt (C_passA hlt h.1 ha) (fun _ _ _ _ h => h.1)) (erX (by decide) h (fun hM hZ => M_passA hlt hM hZ ha)) K
set_option maxHeartbeats 4000000 in
theorem do_carry (hlt : l.stackTraces = false) (hi : i + 4 ≤ Lx) (hL : Lx ≤ 2048) (h : LI S n T sn bl B im rm) (K : ∀ i2 r2 q2, LJ i2 r2 → PW l (m_L_law Lx xs) 12 mc ms NN 1604 (LL i) [] i2 r2 q2 Q noX) : PW l (m_L_law Lx xs) 12 (1 + mc) (6 + ms) NN 608 (LL i) [] im rm lm Q noX := by
  rcases hmo : maO (xs (i + 2)) with _ | t
  · exact op_carry hlt hi hL (HX_carry_1 hlt (C_carryI hlt h.1 hmo) (fun _ _ _ _ h => h.1)) (erX (by decide) h (fun hM hZ => M_carryI hlt hM hZ hmo)) K
  · rcases hms : moS S (xs (i + 1)) with _ | m
    · exact op_carry hlt hi hL (HX_carry_2 hlt (C_carryS1 hlt h.1 hmo hms) (fun _ _ _ _ h => h.1)) (erX (by decide) h (fun hM hZ => M_carryS1 hlt hM hZ hmo (wh_none h.2.2.2.1.1.1 hms))) K
    · obtain ⟨p, hp⟩ := mo_po hms
      obtain ⟨w1, w2, w3, w4⟩ := wh_some h.2.2.2.1.1.1 hms hp
      by_cases hw : m = t ∨ ¬ S.2.1 t 9 < 6
      · exact op_carry hlt hi hL (HX_carry_2 hlt (C_carryS2 hlt h.1 hmo hms hw) (fun _ _ _ _ h => h.1)) (erX (by decide) h (fun hM hZ => M_carryS2 hlt hM hZ h.2.2.2.1.1.1 hmo w1 w2 w3 hw)) K
      · have hne : ¬ m = t := fun z => hw (Or.inl z)
        have hs6 : S.2.1 t 9 < 6 := Classical.not_not.mp fun z => hw (Or.inr z)
        have ht := (maO_some hmo).1
        obtain ⟨c1, c2, c3⟩ := hc1 h.2.2.2.1.1.1 w2 w4
        have hpk := (poS_lt h.2.2.2.1.1.1 w2 hp).2.2
        have hct := hc6 h.2.2.2.1.1.1 ht hs6
        have hb := bk_pl (due := S.2.2 m p 3) (h.2.2.2.1.som ht) (h.2.2.2.1.other w2 ht hne w4 hpk)
        have hC := C_carry hlt (lm := lm) h.1 hmo hms hp hne hs6
        rw [cnt_ins hne, show cnt S m = cnt S m - 1 + 1 by omega] at hC
        have hWF : WF _ := h.2.2.2.1.carry (due := S.2.2 m p 3) w2 ht hne w4 hpk hct
        rw [show cnt S m = cnt S m - 1 + 1 by omega] at hWF
        refine PW.room (mc' := 0 + mc) (ms' := 0 + ms) (by omega) (by omega) ?_
        exact op_carry hlt hi hL (H_carry hlt hC) (okX h (h.sh hWF) (fun _ _ _ hM hZ => M_carry hlt hM hZ h.2.2.2.1.1.1 hmo w1 w2 w3 hne hs6 c1 c2 c3 hct hb)) K
set_option maxHeartbeats 4000000 in
theorem do_back (hlt : l.stackTraces = false) (hi : i + 4 ≤ Lx) (hL : Lx ≤ 2048) (h : LI S n T sn bl B im rm) (K : ∀ i2 r2 q2, LJ i2 r2 → PW l (m_L_law Lx xs) 12 mc ms NN 1604 (LL i) [] i2 r2 q2 Q noX) : PW l (m_L_law Lx xs) 12 (1 + mc) (6 + ms) NN 676 (LL i) [] im rm lm Q noX := by
  rcases hms : moS S (xs (i + 1)) with _ | m
  · exact op_back hlt hi hL (HX_back_1 hlt (C_backS hlt h.1 hms) (fun _ _ _ _ h => h.1)) (erX (by decide) h (fun hM hZ => M_backS hlt hM hZ (wh_none h.2.2.2.1.1.1 hms))) K
  · obtain ⟨p, hp⟩ := mo_po hms
    obtain ⟨w1, w2, w3, w4⟩ := wh_some h.2.2.2.1.1.1 hms hp
    obtain ⟨c1, c2, c3⟩ := hc1 h.2.2.2.1.1.1 w2 w4
    have hC := C_back hlt (lm := lm) h.1 hms hp
    rw [show cnt S m = cnt S m - 1 + 1 by omega] at hC
    have hWF := h.2.2.2.1.back (x := (dpS S m p (cnt S m)).1 8 + 1) w2 w4
    rw [show cnt S m = cnt S m - 1 + 1 by omega] at hWF
    refine PW.room (mc' := 0 + mc) (ms' := 0 + ms) (by omega) (by omega) ?_
    exact op_back hlt hi hL (H_back hlt hC) (okX h (h.sh hWF) (fun _ _ _ hM hZ => M_back hlt hM hZ w1 w2 w3 c1 c2 c3)) K
set_option maxHeartbeats 4000000 in
theorem do_append (hlt : l.stackTraces = false) (hi : i + 4 ≤ Lx) (hL : Lx ≤ 2048) (h : LI S n T sn bl B im rm) (K : ∀ i2 r2 q2, LJ i2 r2 → PW l (m_L_law Lx xs) 12 mc ms NN 1604 (LL i) [] i2 r2 q2 Q noX) : PW l (m_L_law Lx xs) 12 (1 + mc) (6 + ms) NN 732 (LL i) [] im rm lm Q noX := by
  by_cases ha : (33 : Int32) ≤ xs (i + 1) ∧ xs (i + 1) ≤ 126
  · by_cases hw : bl < 60
    · refine PW.room (mc' := 0 + mc) (ms' := 0 + ms) (by omega) (by omega) ?_
      exact op_append hlt hi hL (H_append hlt (C_append hlt h.1 ha hw)) (okX h ⟨h.2.2.2.1, h.2.2.2.2.1, h.2.2.2.2.2.1, fun j hj => by
        show _ ≤ (if j = bl then _ else _) ∧ (if j = bl then _ else _) ≤ _
        by_cases e : j = bl
        · rw [if_pos e]; exact ha
        · rw [if_neg e]; exact h.2.2.2.2.2.2 j (by omega)⟩ (fun _ _ _ hM hZ => M_append hlt hM hZ ha hw)) K
    · exact op_append hlt hi hL (HX_append_2 hlt (C_appendS hlt h.1 ha hw) (fun _ _ _ _ h => h.1)) (erX (by decide) h (fun hM hZ => M_appendS hlt hM hZ ha hw)) K
  · exact op_append hlt hi hL (HX_append_1 hlt (C_appendA hlt h.1 ha) (fun _ _ _ _ h => h.1)) (erX (by decide) h (fun hM hZ => M_appendA hlt hM hZ ha)) K
set_option maxHeartbeats 4000000 in
theorem do_clearBuffer (hlt : l.stackTraces = false) (hi : i + 4 ≤ Lx) (hL : Lx ≤ 2048) (h : LI S n T sn bl B im rm) (K : ∀ i2 r2 q2, LJ i2 r2 → PW l (m_L_law Lx xs) 12 mc ms NN 1604 (LL i) [] i2 r2 q2 Q noX) : PW l (m_L_law Lx xs) 12 (1 + mc) (6 + ms) NN 788 (LL i) [] im rm lm Q noX := by
  refine PW.room (mc' := mc) (ms' := ms) (by omega) (by omega) ?_
  exact op_clearBuffer (C_clear hlt h.1) (dirX h ⟨h.2.2.2.1, h.2.2.2.2.1, h.2.2.2.2.2.1, fun j hj => absurd hj (by omega)⟩ (fun _ _ _ hM hZ => M_clear hlt hM hZ)) K
set_option maxHeartbeats 4000000 in
theorem do_firstError (hlt : l.stackTraces = false) (hi : i + 4 ≤ Lx) (hL : Lx ≤ 2048) (h : LI S n T sn bl B im rm) (K : ∀ i2 r2 q2, LJ i2 r2 → PW l (m_L_law Lx xs) 12 mc ms NN 1604 (LL i) [] i2 r2 q2 Q noX) : PW l (m_L_law Lx xs) 12 (1 + mc) (6 + ms) NN 801 (LL i) [] im rm lm Q noX := by
  have hB := h.2.2.2.b
  have hC := C_firstError hlt (lm := lm) h.1
  rw [(h.1.text hB).2.1] at hC
  refine PW.room (mc' := mc) (ms' := ms) (by omega) (by omega) ?_
  exact op_firstError (hC) (dirX h h.2.2.2 (fun _ _ _ hM hZ => M_firstError hlt hM hZ hB)) K
set_option maxHeartbeats 4000000 in
theorem do_play (hlt : l.stackTraces = false) (hi : i + 4 ≤ Lx) (hL : Lx ≤ 2048) (h : LI S n T sn bl B im rm) (K : ∀ i2 r2 q2, LJ i2 r2 → PW l (m_L_law Lx xs) 12 mc ms NN 1604 (LL i) [] i2 r2 q2 Q noX) : PW l (m_L_law Lx xs) 12 (1 + mc) (6 + ms) NN 814 (LL i) [] im rm lm Q noX := by
  have hB := h.2.2.2.b
  by_cases hv : (vt (fun j => (B j).toNatClampNeg) bl (bl + 1) 0).1 = true
  · have w := h.sh (py_WF (bl + 1) 0 0 S h.2.2.2.1 hv)
    refine PW.room (mc' := 0 + mc) (ms' := 0 + ms) (by omega) (by omega) ?_
    exact op_play hlt hi hL (H_play hlt (C_play hlt h.1 hB h.2.2.2.1 hv)) (okX h ⟨w.1, w.2.1, w.2.2.1, fun j hj => absurd hj (by omega)⟩ (fun _ _ _ hM hZ => M_play hlt hM hZ hB h.2.2.2.1 hv)) K
  · exact op_play hlt hi hL (HX_play_1 hlt (C_playA hlt h.1 hB hv) (fun _ _ _ _ h => h.1)) (by rintro i1 r1 q1 ⟨-, rfl, rfl, hT⟩; exact erM (by decide) h hT (fun hM hZ => M_playA hlt hM hZ hB hv)) K
set_option maxHeartbeats 4000000 in
theorem do_undo (hlt : l.stackTraces = false) (hi : i + 4 ≤ Lx) (hL : Lx ≤ 2048) (h : LI S n T sn bl B im rm) (K : ∀ i2 r2 q2, LJ i2 r2 → PW l (m_L_law Lx xs) 12 mc ms NN 1604 (LL i) [] i2 r2 q2 Q noX) : PW l (m_L_law Lx xs) 12 (1 + mc) (6 + ms) NN 858 (LL i) [] im rm lm Q noX := by
  by_cases hn : 0 < n
  · refine PW.room (mc' := 0 + mc) (ms' := 0 + ms) (by omega) (by omega) ?_
    exact op_undo hlt hi hL (H_undo hlt (C_undo hlt h.1 hn)) (okX h ⟨h.2.2.2.2.1 _ (by omega), fun j hj => h.2.2.2.2.1 j (by omega), h.2.2.2.2.2⟩ (fun _ _ _ hM hZ => M_undo hlt hM hZ hn)) K
  · exact op_undo hlt hi hL (HX_undo_1 hlt (C_undoS hlt h.1 hn) (fun _ _ _ _ h => h.1)) (erX (by decide) h (fun hM hZ => M_undoS hlt hM hZ hn)) K
set_option maxHeartbeats 4000000 in
theorem do_keep (hlt : l.stackTraces = false) (hi : i + 4 ≤ Lx) (hL : Lx ≤ 2048) (h : LI S n T sn bl B im rm) (K : ∀ i2 r2 q2, LJ i2 r2 → PW l (m_L_law Lx xs) 12 mc ms NN 1604 (LL i) [] i2 r2 q2 Q noX) : PW l (m_L_law Lx xs) 12 (1 + mc) (6 + ms) NN 902 (LL i) [] im rm lm Q noX := by
  refine PW.room (mc' := mc) (ms' := ms) (by omega) (by omega) ?_
  exact op_keep (C_keep hlt h.1) (dirX h ⟨h.2.2.2.1, h.2.2.2.2.1, fun s hs => by cases hs; exact h.2.2.2.1, h.2.2.2.2.2.2⟩ (fun _ _ _ hM hZ => M_keep hlt hM hZ)) K
set_option maxHeartbeats 4000000 in
theorem do_restore (hlt : l.stackTraces = false) (hi : i + 4 ≤ Lx) (hL : Lx ≤ 2048) (h : LI S n T sn bl B im rm) (K : ∀ i2 r2 q2, LJ i2 r2 → PW l (m_L_law Lx xs) 12 mc ms NN 1604 (LL i) [] i2 r2 q2 Q noX) : PW l (m_L_law Lx xs) 12 (1 + mc) (6 + ms) NN 915 (LL i) [] im rm lm Q noX := by
  rcases hsn : sn with _ | s
  · exact op_restore hlt hi hL (HX_restore_1 hlt (C_restoreS hlt h.1 hsn) (fun _ _ _ _ h => h.1)) (erX (by decide) h (fun hM hZ => M_restoreS hlt hM hZ hsn)) K
  · refine PW.room (mc' := 0 + mc) (ms' := 0 + ms) (by omega) (by omega) ?_
    exact op_restore hlt hi hL (H_restore hlt (C_restore hlt h.1 hsn)) (okX h (h.sh (h.2.2.2.2.2.1 s hsn)) (fun _ _ _ hM hZ => M_restore hlt hM hZ hsn)) K
set_option maxHeartbeats 4000000 in
theorem do_mill (hlt : l.stackTraces = false) (hi : i + 4 ≤ Lx) (hL : Lx ≤ 2048) (h : LI S n T sn bl B im rm) (K : ∀ i2 r2 q2, LJ i2 r2 → PW l (m_L_law Lx xs) 12 mc ms NN 1604 (LL i) [] i2 r2 q2 Q noX) : PW l (m_L_law Lx xs) 12 (1 + mc) (6 + ms) NN 959 (LL i) [] im rm lm Q noX := by
  rcases hmo : maO (xs (i + 1)) with _ | m
  · exact op_mill hlt hi hL (HX_mill_1 hlt (C_millI hlt h.1 hmo) (fun _ _ _ _ h => h.1)) (erX (by decide) h (fun hM hZ => M_millI hlt hM hZ hmo)) K
  · by_cases ha : (0 : Int32) ≤ xs (i + 2) ∧ xs (i + 2) ≤ 10
    · obtain ⟨N, hN, e⟩ := nI_of2 (n := 10) (M := 10) (by decide) (fun z => absurd (Int32.lt_of_le_of_lt ha.1 z) (by decide)) ha.2
      refine PW.room (mc' := 0 + mc) (ms' := 0 + ms) (by omega) (by omega) ?_
      rw [e] at ha
      exact op_mill hlt hi hL (by rw [e]; exact H_mill hlt (qpC h (C_mill hlt h.1 hmo hN ha))) (by rw [e]; exact okX h h.2.2.2 (fun _ _ _ hM hZ => M_mill hlt hM hZ h.2.2.2.1.1 hmo hN ha)) K
    · exact op_mill hlt hi hL (HX_mill_2 hlt (C_millA hlt h.1 hmo ha) (fun _ _ _ _ h => h.1)) (erX (by decide) h (fun hM hZ => M_millA hlt hM hZ hmo ha)) K
set_option maxHeartbeats 4000000 in
theorem do_sackAt (hlt : l.stackTraces = false) (hi : i + 4 ≤ Lx) (hL : Lx ≤ 2048) (h : LI S n T sn bl B im rm) (K : ∀ i2 r2 q2, LJ i2 r2 → PW l (m_L_law Lx xs) 12 mc ms NN 1604 (LL i) [] i2 r2 q2 Q noX) : PW l (m_L_law Lx xs) 12 (1 + mc) (6 + ms) NN 1027 (LL i) [] im rm lm Q noX := by
  rcases hmo : maO (xs (i + 1)) with _ | m
  · exact op_sackAt hlt hi hL (HX_sackAt_1 hlt (C_sackAtI hlt h.1 hmo) (fun _ _ _ _ h => h.1)) (erX (by decide) h (fun hM hZ => M_sackAtI hlt hM hZ hmo)) K
  · by_cases ha : (0 : Int32) ≤ xs (i + 2)
    · obtain ⟨p, hp, e⟩ := nI_of (neg_of ha)
      have hC := C_sackAt hlt (lm := lm) h.1 hmo ⟨ha, le_max⟩
      rw [e] at hC
      rw [sackAt_is h.1.2.1.1 h.2.2.2.1.1.1 (maO_some hmo).1 hp] at hC
      refine PW.room (mc' := 0 + mc) (ms' := 0 + ms) (by omega) (by omega) ?_
      exact op_sackAt hlt hi hL (by rw [e]; exact H_sackAt hlt (qpC h hC)) (by rw [e]; exact okX h h.2.2.2 (fun _ _ _ hM hZ => M_sackAt hlt hM hZ h.2.2.2.1.1 hmo hp)) K
    · exact op_sackAt hlt hi hL (HX_sackAt_2 hlt (C_sackAtA hlt h.1 hmo (fun z => ha z.1)) (fun _ _ _ _ h => h.1)) (erX (by decide) h (fun hM hZ => M_sackAtA hlt hM hZ hmo (lt0_of ha))) K
set_option maxHeartbeats 4000000 in
theorem do_sackOf (hlt : l.stackTraces = false) (hi : i + 4 ≤ Lx) (hL : Lx ≤ 2048) (h : LI S n T sn bl B im rm) (K : ∀ i2 r2 q2, LJ i2 r2 → PW l (m_L_law Lx xs) 12 mc ms NN 1604 (LL i) [] i2 r2 q2 Q noX) : PW l (m_L_law Lx xs) 12 (1 + mc) (6 + ms) NN 1095 (LL i) [] im rm lm Q noX := by
  by_cases ha : (0 : Int32) ≤ xs (i + 2) ∧ xs (i + 2) ≤ 4
  · rcases hms : moS S (xs (i + 1)) with _ | m
    · refine PW.room (mc' := 0 + mc) (ms' := 0 + ms) (by omega) (by omega) ?_
      exact op_sackOf hlt hi hL (H_sackOf hlt (qpC h (C_sackOfN hlt h.1 hms ha))) (okX h h.2.2.2 (fun _ _ _ hM hZ => M_sackOfN hlt hM hZ (wh_none h.2.2.2.1.1.1 hms) ha)) K
    · obtain ⟨p, hp⟩ := mo_po hms
      obtain ⟨w1, w2, w3, w4⟩ := wh_some h.2.2.2.1.1.1 hms hp
      obtain ⟨N, hN, e⟩ := nI_of2 (n := 4) (M := 4) (by decide) (fun z => absurd (Int32.lt_of_le_of_lt ha.1 z) (by decide)) ha.2
      refine PW.room (mc' := 0 + mc) (ms' := 0 + ms) (by omega) (by omega) ?_
      rw [e] at ha
      exact op_sackOf hlt hi hL (by rw [e]; exact H_sackOf hlt (qpC h (C_sackOf hlt h.1 hms hp hN ha))) (by rw [e]; exact okX h h.2.2.2 (fun _ _ _ hM hZ => M_sackOf hlt hM hZ h.2.2.2.1.1 w1 w2 w3 w4 hN)) K
  · exact op_sackOf hlt hi hL (HX_sackOf_1 hlt (C_sackOfA hlt h.1 ha) (fun _ _ _ _ h => h.1)) (erX (by decide) h (fun hM hZ => M_sackOfA hlt hM hZ ha)) K
set_option maxHeartbeats 4000000 in
theorem do_whyNot (hlt : l.stackTraces = false) (hi : i + 4 ≤ Lx) (hL : Lx ≤ 2048) (h : LI S n T sn bl B im rm) (K : ∀ i2 r2 q2, LJ i2 r2 → PW l (m_L_law Lx xs) 12 mc ms NN 1604 (LL i) [] i2 r2 q2 Q noX) : PW l (m_L_law Lx xs) 12 (1 + mc) (6 + ms) NN 1163 (LL i) [] im rm lm Q noX := by
  rcases hmo : maO (xs (i + 1)) with _ | m
  · exact op_whyNot hlt hi hL (HX_whyNot_1 hlt (C_whyNotI hlt h.1 hmo) (fun _ _ _ _ h => h.1)) (erX (by decide) h (fun hM hZ => M_whyNotI hlt hM hZ hmo)) K
  · refine PW.room (mc' := 0 + mc) (ms' := 0 + ms) (by omega) (by omega) ?_
    exact op_whyNot hlt hi hL (H_whyNot hlt (qpC h (C_whyNot hlt h.1 hmo))) (okX h h.2.2.2 (fun _ _ _ hM hZ => M_whyNot hlt hM hZ h.2.2.2.1.1 hmo)) K
set_option maxHeartbeats 4000000 in
theorem do_tide (hlt : l.stackTraces = false) (hi : i + 4 ≤ Lx) (hL : Lx ≤ 2048) (h : LI S n T sn bl B im rm) (K : ∀ i2 r2 q2, LJ i2 r2 → PW l (m_L_law Lx xs) 12 mc ms NN 1604 (LL i) [] i2 r2 q2 Q noX) : PW l (m_L_law Lx xs) 12 (1 + mc) (6 + ms) NN 1219 (LL i) [] im rm lm Q noX := by
  by_cases ha : (0 : Int32) ≤ xs (i + 1)
  · refine PW.room (mc' := 0 + mc) (ms' := 0 + ms) (by omega) (by omega) ?_
    exact op_tide hlt hi hL (H_tide hlt (qpC h (C_tide hlt h.1 ⟨ha, le_max⟩))) (okX h h.2.2.2 (fun _ _ _ hM hZ => M_tide hlt hM hZ ha)) K
  · exact op_tide hlt hi hL (HX_tide_1 hlt (C_tideA hlt h.1 (fun z => ha z.1)) (fun _ _ _ _ h => h.1)) (erX (by decide) h (fun hM hZ => M_tideA hlt hM hZ (lt0_of ha))) K
set_option maxHeartbeats 4000000 in
theorem do_count (hlt : l.stackTraces = false) (hi : i + 4 ≤ Lx) (hL : Lx ≤ 2048) (h : LI S n T sn bl B im rm) (K : ∀ i2 r2 q2, LJ i2 r2 → PW l (m_L_law Lx xs) 12 mc ms NN 1604 (LL i) [] i2 r2 q2 Q noX) : PW l (m_L_law Lx xs) 12 (1 + mc) (6 + ms) NN 1275 (LL i) [] im rm lm Q noX := by
  by_cases ha : (0 : Int32) ≤ xs (i + 1) ∧ xs (i + 1) ≤ 14
  · obtain ⟨N, hN, e⟩ := nI_of2 (n := 14) (M := 14) (by decide) (fun z => absurd (Int32.lt_of_le_of_lt ha.1 z) (by decide)) ha.2
    refine PW.room (mc' := 0 + mc) (ms' := 0 + ms) (by omega) (by omega) ?_
    rw [e] at ha
    exact op_count hlt hi hL (by rw [e]; exact H_count hlt (qpC h (C_count hlt h.1 hN ha))) (by rw [e]; exact okX h h.2.2.2 (fun _ _ _ hM hZ => M_count hlt hM hZ hN ha)) K
  · exact op_count hlt hi hL (HX_count_1 hlt (C_countA hlt h.1 ha) (fun _ _ _ _ h => h.1)) (erX (by decide) h (fun hM hZ => M_countA hlt hM hZ ha)) K
set_option maxHeartbeats 4000000 in
theorem do_next (hlt : l.stackTraces = false) (hi : i + 4 ≤ Lx) (hL : Lx ≤ 2048) (h : LI S n T sn bl B im rm) (K : ∀ i2 r2 q2, LJ i2 r2 → PW l (m_L_law Lx xs) 12 mc ms NN 1604 (LL i) [] i2 r2 q2 Q noX) : PW l (m_L_law Lx xs) 12 (1 + mc) (6 + ms) NN 1331 (LL i) [] im rm lm Q noX := by
  by_cases ha : (0 : Int32) ≤ xs (i + 1)
  · obtain ⟨k, hk, e⟩ := nI_of (neg_of ha)
    have hM2 : ∀ i1 r1 q1, MM r1 → MZ i1 S n T sn bl B i1 → Con l m_X5_next 9 0 0 NN [pv (some 240), .int (xs (i + 1))] i1 r1 q1 (QI (fun y i2 => y = oI (rkS S k) ∧ i2 240 8 = 0 ∧ MZ i1 S n T sn bl B i2) r1 q1) noX := fun i1 r1 q1 hM hZ => by
      have z := M_next hlt (lm := q1) hM hZ h.2.2.2.1.1 ha
      rw [show rkM S (xs (i + 1)) = rkS S k by rw [e]; exact rkM_eq hk] at z
      exact z
    by_cases h5 : k < 5
    · refine PW.room (mc' := 0 + mc) (ms' := 0 + ms) (by omega) (by omega) ?_
      exact op_next hlt hi hL (H_next hlt (qpC h (by rw [e] at ha ⊢; exact C_next hlt h.1 h5 ⟨ha, le_max⟩))) (okX h h.2.2.2 hM2) K
    · have hx : ¬ xs (i + 1) < 5 := by rw [e, show (5 : Int32) = nI 5 from rfl, nI_ltI hk (by decide)]; exact h5
      refine PW.room (mc' := 0 + mc) (ms' := 0 + ms) (by omega) (by omega) ?_
      exact op_next hlt hi hL (H_next hlt (qpC h (C_nextN hlt h.1 hx ⟨ha, le_max⟩))) (okX h h.2.2.2 (fun i1 r1 q1 hM hZ => by have z := hM2 i1 r1 q1 hM hZ; rw [rkS_big (by omega)] at z; exact z)) K
  · exact op_next hlt hi hL (HX_next_1 hlt (C_nextA hlt h.1 (fun z => ha z.1)) (fun _ _ _ _ h => h.1)) (erX (by decide) h (fun hM hZ => M_nextA hlt hM hZ (lt0_of ha))) K
set_option maxHeartbeats 4000000 in
theorem do_chosen (hlt : l.stackTraces = false) (hi : i + 4 ≤ Lx) (hL : Lx ≤ 2048) (h : LI S n T sn bl B im rm) (K : ∀ i2 r2 q2, LJ i2 r2 → PW l (m_L_law Lx xs) 12 mc ms NN 1604 (LL i) [] i2 r2 q2 Q noX) : PW l (m_L_law Lx xs) 12 (1 + mc) (6 + ms) NN 1387 (LL i) [] im rm lm Q noX := by
  refine PW.room (mc' := mc) (ms' := ms) (by omega) (by omega) ?_
  exact op_chosen (qpC h (C_chosen hlt h.1)) (dirX h h.2.2.2 (fun i1 r1 q1 hM hZ => by have z := M_chosen hlt (lm := q1) hM hZ h.2.2.2.1.1; rw [← ch_eq] at z; exact z)) K
set_option maxHeartbeats 4000000 in
theorem do_ifPassed (hlt : l.stackTraces = false) (hi : i + 4 ≤ Lx) (hL : Lx ≤ 2048) (h : LI S n T sn bl B im rm) (K : ∀ i2 r2 q2, LJ i2 r2 → PW l (m_L_law Lx xs) 12 mc ms NN 1604 (LL i) [] i2 r2 q2 Q noX) : PW l (m_L_law Lx xs) 12 (1 + mc) (6 + ms) NN 1400 (LL i) [] im rm lm Q noX := by
  by_cases ha : (1 : Int32) ≤ xs (i + 1) ∧ xs (i + 1) ≤ 48
  · by_cases hb : (0 : Int32) ≤ xs (i + 2) ∧ xs (i + 2) ≤ 3
    · obtain ⟨N, hN, e⟩ := nI_of2 (n := 48) (M := 48) (by decide) (fun z => absurd (Int32.lt_of_le_of_lt ha.1 z) (by decide)) ha.2
      obtain ⟨j, hj, e2⟩ := nI_of2 (n := 3) (M := 3) (by decide) (neg_of hb.1) hb.2
      rcases (show j = 0 ∨ j = 1 ∨ j = 2 ∨ j = 3 by omega) with rfl | rfl | rfl | rfl
      · have e2 : xs (i + 2) = 0 := e2
        refine PW.room (mc' := 0 + mc) (ms' := 0 + ms) (by omega) (by omega) ?_
        rw [e] at ha
        exact op_ifPassed hlt hi hL (by rw [e, e2]; exact H_ifPassed hlt (C_ifPassed0 hlt h.1 (by omega) ha)) (by rw [e, e2]; exact okX h h.2.2.2 (fun _ _ _ hM hZ => M_ifPassed0 hlt hM hZ h.2.2.2.1.1 (by omega) ha)) K
      · have e2 : xs (i + 2) = 1 := e2
        refine PW.room (mc' := 0 + mc) (ms' := 0 + ms) (by omega) (by omega) ?_
        rw [e] at ha
        exact op_ifPassed hlt hi hL (by rw [e, e2]; exact H_ifPassed hlt (C_ifPassed1 hlt h.1 (by omega) ha)) (by rw [e, e2]; exact okX h h.2.2.2 (fun _ _ _ hM hZ => M_ifPassed1 hlt hM hZ h.2.2.2.1.1 (by omega) ha)) K
      · have e2 : xs (i + 2) = 2 := e2
        refine PW.room (mc' := 0 + mc) (ms' := 0 + ms) (by omega) (by omega) ?_
        rw [e] at ha
        exact op_ifPassed hlt hi hL (by rw [e, e2]; exact H_ifPassed hlt (C_ifPassed2 hlt h.1 (by omega) ha)) (by rw [e, e2]; exact okX h h.2.2.2 (fun _ _ _ hM hZ => M_ifPassed2 hlt hM hZ h.2.2.2.1.1 (by omega) ha)) K
      · have e2 : xs (i + 2) = 3 := e2
        refine PW.room (mc' := 0 + mc) (ms' := 0 + ms) (by omega) (by omega) ?_
        rw [e] at ha
        exact op_ifPassed hlt hi hL (by rw [e, e2]; exact H_ifPassed hlt (C_ifPassed3 hlt h.1 (by omega) ha)) (by rw [e, e2]; exact okX h h.2.2.2 (fun _ _ _ hM hZ => M_ifPassed3 hlt hM hZ h.2.2.2.1.1 (by omega) ha)) K
    · exact op_ifPassed hlt hi hL (HX_ifPassed_1 hlt (C_ifPassedA2 hlt h.1 ha hb) (fun _ _ _ _ h => h.1)) (erX (by decide) h (fun hM hZ => M_ifPassedA2 hlt hM hZ ha hb)) K
  · exact op_ifPassed hlt hi hL (HX_ifPassed_1 hlt (C_ifPassedA1 hlt h.1 ha) (fun _ _ _ _ h => h.1)) (erX (by decide) h (fun hM hZ => M_ifPassedA1 hlt hM hZ ha)) K
set_option maxHeartbeats 4000000 in
theorem do_groundIn (hlt : l.stackTraces = false) (hi : i + 4 ≤ Lx) (hL : Lx ≤ 2048) (h : LI S n T sn bl B im rm) (K : ∀ i2 r2 q2, LJ i2 r2 → PW l (m_L_law Lx xs) 12 mc ms NN 1604 (LL i) [] i2 r2 q2 Q noX) : PW l (m_L_law Lx xs) 12 (1 + mc) (6 + ms) NN 1468 (LL i) [] im rm lm Q noX := by
  have hC := C_groundIn hlt (lm := lm) (x := xs (i + 1)) h.1
  refine PW.room (mc' := mc) (ms' := ms) (by omega) (by omega) ?_
  exact op_groundIn hi hL (hC.mono fun N v a b c z => ⟨z.1, z.2.1, z.2.2⟩) (dirX h h.2.2.2 (fun i1 r1 q1 hM hZ => by have z := M_groundIn hlt (lm := q1) (x := xs (i + 1)) hM hZ h.2.2.2.1.1; rw [gm_gb h.2.2.2.1.1.1 h.2.2.2.1.nus] at z; exact z)) K
set_option maxHeartbeats 4000000 in
theorem do_bestStone (hlt : l.stackTraces = false) (hi : i + 4 ≤ Lx) (hL : Lx ≤ 2048) (h : LI S n T sn bl B im rm) (K : ∀ i2 r2 q2, LJ i2 r2 → PW l (m_L_law Lx xs) 12 mc ms NN 1604 (LL i) [] i2 r2 q2 Q noX) : PW l (m_L_law Lx xs) 12 (1 + mc) (6 + ms) NN 1493 (LL i) [] im rm lm Q noX := by
  rcases hmo : maO (xs (i + 1)) with _ | m
  · exact op_bestStone hlt hi hL (HX_bestStone_1 hlt (C_bestStoneI hlt h.1 hmo) (fun _ _ _ _ h => h.1)) (erX (by decide) h (fun hM hZ => M_bestStoneI hlt hM hZ hmo)) K
  · refine PW.room (mc' := 0 + mc) (ms' := 0 + ms) (by omega) (by omega) ?_
    exact op_bestStone hlt hi hL (H_bestStone hlt (C_bestStone hlt h.1 hmo)) (okX h h.2.2.2 (fun i1 r1 q1 hM hZ => by have z := M_bestStone hlt (lm := q1) hM hZ h.2.2.2.1.1 hmo; rw [bm_bs h.2.2.2.1.1 h.2.2.2.1.2.2] at z; exact z)) K
set_option maxHeartbeats 4000000 in
theorem do_inTime (hlt : l.stackTraces = false) (hi : i + 4 ≤ Lx) (hL : Lx ≤ 2048) (h : LI S n T sn bl B im rm) (K : ∀ i2 r2 q2, LJ i2 r2 → PW l (m_L_law Lx xs) 12 mc ms NN 1604 (LL i) [] i2 r2 q2 Q noX) : PW l (m_L_law Lx xs) 12 (1 + mc) (6 + ms) NN 1549 (LL i) [] im rm lm Q noX := by
  refine PW.room (mc' := mc) (ms' := ms) (by omega) (by omega) ?_
  exact op_inTime (z := shD S) (shD_ok h.2.2.2.1) ((C_inTime hlt h.1 h.2.2.2.1).mono (Q' := QG (fun v i r _ => v = some (.double (shD S)) ∧ i = im ∧ r = rm)) fun N v a b c z => ⟨z.1, z.2.1, z.2.2.1, z.2.2.2.1⟩) (by rintro i1 r1 q1 ⟨rfl, rfl⟩; exact (M_inTime hlt h.2.2.1 h.2.1 h.2.2.2.1).mono fun N v a b c ⟨z1, z2, z3, z4, z5⟩ => ⟨z1, z2, z3 ▸ ⟨S, n, T, sn, bl, B, h.1.re z5.2.2.2.2.2, z5.re fun _ _ => rfl, h.2.2.1, h.2.2.2⟩⟩) K
set_option maxHeartbeats 4000000 in
theorem do_digest (hlt : l.stackTraces = false) (hi : i + 4 ≤ Lx) (hL : Lx ≤ 2048) (h : LI S n T sn bl B im rm) (K : ∀ i2 r2 q2, LJ i2 r2 → PW l (m_L_law Lx xs) 12 mc ms NN 1604 (LL i) [] i2 r2 q2 Q noX) : PW l (m_L_law Lx xs) 12 (1 + mc) (6 + ms) NN 1590 (LL i) [] im rm lm Q noX := by
  refine PW.room (mc' := mc) (ms' := ms) (by omega) (by omega) ?_
  exact op_digest (z := dgS S n bl B) ((C_digest hlt h.1 h.2.2.2.1).mono (Q' := QG (fun v i r _ => v = some (.long (dgS S n bl B)) ∧ r = rm ∧ TS (im, rm) S n T sn bl B i rm)) fun N v a b c z => ⟨z.1, z.2.1, z.2.2.1, z.2.2.2.2⟩) (by rintro i1 r1 q1 ⟨rfl, hT⟩; exact (M_digest hlt (h.mm hT) (h.mz hT) h.2.2.2.1).mono fun N v a b c ⟨z1, z2, z3, z4, z5, z6⟩ => ⟨z1, z2, z3 ▸ ⟨S, n, T, sn, bl, B, hT.re z6.2.2.2.2.2, z6.re fun _ _ => rfl, h.mm hT, h.2.2.2⟩⟩) K
end LAWD

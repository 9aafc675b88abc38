/-! TideMills: its own helpers -/
def XT (E0 : String) (P : Prop) (im : TI) (rm : TP) (lm : TL) : TX := fun E i r q => E = E0 ∧ P ∧ i = im ∧ r = rm ∧ q = lm
def QS (Φ : Option Value → Prop) (im : TI) (rm : TP) (lm : TL) : TQ := QG (fun v i r q => Φ v ∧ i = im ∧ r = rm ∧ q = lm)
def RT (rm : TP) : Prop := rm 0 0 = some 1 ∧ rm 0 1 = some 27 ∧ rm 0 2 = some 53 ∧ rm 0 4 = some 79 ∧ rm 0 5 = some 237 ∧ rm 0 7 = some 238 ∧ rm 238 1 = some 239
theorem kdT : kd 0 = 4 := by rw [kd_eq]; decide +kernel
theorem kdB : kd 237 = 6 := by rw [kd_eq]; decide +kernel
theorem kdR : kd 238 = 3 := by rw [kd_eq]; decide +kernel
theorem kdN : kd 239 = 6 := by rw [kd_eq]; decide +kernel
theorem alB : al 237 = 60 := by rw [al_eq]; decide +kernel
theorem alN : al 239 = 3 := by rw [al_eq]; decide +kernel
theorem c1 {rm : TP} (h : RC rm) : isC rm 1 := h 1 (by decide)
theorem c27 {rm : TP} (h : RC rm) : isC rm 27 := h 27 (by decide)
theorem c53 {rm : TP} (h : RC rm) : isC rm 53 := h 53 (by decide)
theorem RT.keep {rm r2 : TP} (h : RT rm) (e : ∀ o, o ≠ 80 → r2 o = rm o) : RT r2 := by
  unfold RT
  rw [e 0 (by decide), e 238 (by decide)]
  exact h
theorem i32_max (x : Int32) : x ≤ 2147483647 := by
  have := Int32.toInt_lt x
  rw [Int32.le_iff_toInt_le, show (2147483647 : Int32).toInt = 2147483647 by decide]
  omega
set_option maxHeartbeats 4000000 in
set_option maxRecDepth 100000 in
theorem C_least0 {l : Launch} (hlt : l.stackTraces = false) {im : TI} {rm : TP} {lm : TL}  : Con l m_X4_leastOfSetting 0 0 0 NN [.int (0)] im rm lm (QP (.int 1) im rm lm) noX := by
  refine Con.ofN (k := 0) (L0 := [some (.int (0))]) hlt (by decide +kernel) rfl rfl (by rw [en1 rfl, en0]; exact Nat.le_of_ble_eq_true rfl) (by rw [en1 rfl, en0]; rfl) ?_
  refine t_iload0 dX4_leastOfSetting_0 ?_
  refine pw_lookup (off := 27) 28 dX4_leastOfSetting_1 (by decide) (by decide) (by decide) ?_
  refine pw_iconst (1) dX4_leastOfSetting_28 (by decide) ?_
  refine pw_iret dX4_leastOfSetting_29 rfl ?_
  exact ⟨rfl, rfl, rfl, rfl, rfl⟩
set_option maxHeartbeats 4000000 in
set_option maxRecDepth 100000 in
theorem C_most0 {l : Launch} (hlt : l.stackTraces = false) {im : TI} {rm : TP} {lm : TL}  : Con l m_X4_mostOfSetting 0 0 0 NN [.int (0)] im rm lm (QP (.int 15) im rm lm) noX := by
  refine Con.ofN (k := 0) (L0 := [some (.int (0))]) hlt (by decide +kernel) rfl rfl (by rw [en1 rfl, en0]; exact Nat.le_of_ble_eq_true rfl) (by rw [en1 rfl, en0]; rfl) ?_
  refine t_iload0 dX4_mostOfSetting_0 ?_
  refine pw_if_ne 9 dX4_mostOfSetting_1 (by decide) (fun h => absurd h (by decide)) (fun _ => ?_)
  refine pw_bipush (15) dX4_mostOfSetting_4 (by decide) ?_
  refine pw_goto 11 dX4_mostOfSetting_6 (by decide) ?_
  refine pw_iret dX4_mostOfSetting_11 rfl ?_
  exact ⟨rfl, rfl, rfl, rfl, rfl⟩
set_option maxHeartbeats 4000000 in
set_option maxRecDepth 100000 in
theorem C_least1 {l : Launch} (hlt : l.stackTraces = false) {im : TI} {rm : TP} {lm : TL}  : Con l m_X4_leastOfSetting 0 0 0 NN [.int (1)] im rm lm (QP (.int 0) im rm lm) noX := by
  refine Con.ofN (k := 0) (L0 := [some (.int (1))]) hlt (by decide +kernel) rfl rfl (by rw [en1 rfl, en0]; exact Nat.le_of_ble_eq_true rfl) (by rw [en1 rfl, en0]; rfl) ?_
  refine t_iload0 dX4_leastOfSetting_0 ?_
  refine pw_lookup (off := 29) 30 dX4_leastOfSetting_1 (by decide) (by decide) (by decide) ?_
  refine pw_iconst (0) dX4_leastOfSetting_30 (by decide) ?_
  refine pw_iret dX4_leastOfSetting_31 rfl ?_
  exact ⟨rfl, rfl, rfl, rfl, rfl⟩
set_option maxHeartbeats 4000000 in
set_option maxRecDepth 100000 in
theorem C_most1 {l : Launch} (hlt : l.stackTraces = false) {im : TI} {rm : TP} {lm : TL}  : Con l m_X4_mostOfSetting 0 0 0 NN [.int (1)] im rm lm (QP (.int 100) im rm lm) noX := by
  refine Con.ofN (k := 0) (L0 := [some (.int (1))]) hlt (by decide +kernel) rfl rfl (by rw [en1 rfl, en0]; exact Nat.le_of_ble_eq_true rfl) (by rw [en1 rfl, en0]; rfl) ?_
  refine t_iload0 dX4_mostOfSetting_0 ?_
  refine pw_if_ne 9 dX4_mostOfSetting_1 (by decide) (fun _ => ?_) (fun h => absurd (by decide) h)
  refine pw_bipush (100) dX4_mostOfSetting_9 (by decide) ?_
  refine pw_iret dX4_mostOfSetting_11 rfl ?_
  exact ⟨rfl, rfl, rfl, rfl, rfl⟩
set_option maxHeartbeats 4000000 in
set_option maxRecDepth 100000 in
theorem C_least2 {l : Launch} (hlt : l.stackTraces = false) {im : TI} {rm : TP} {lm : TL}  : Con l m_X4_leastOfSetting 0 0 0 NN [.int (2)] im rm lm (QP (.int 5) im rm lm) noX := by
  refine Con.ofN (k := 0) (L0 := [some (.int (2))]) hlt (by decide +kernel) rfl rfl (by rw [en1 rfl, en0]; exact Nat.le_of_ble_eq_true rfl) (by rw [en1 rfl, en0]; rfl) ?_
  refine t_iload0 dX4_leastOfSetting_0 ?_
  refine pw_lookup (off := 31) 32 dX4_leastOfSetting_1 (by decide) (by decide) (by decide) ?_
  refine pw_iconst (5) dX4_leastOfSetting_32 (by decide) ?_
  refine pw_iret dX4_leastOfSetting_33 rfl ?_
  exact ⟨rfl, rfl, rfl, rfl, rfl⟩
set_option maxHeartbeats 4000000 in
set_option maxRecDepth 100000 in
theorem C_most2 {l : Launch} (hlt : l.stackTraces = false) {im : TI} {rm : TP} {lm : TL}  : Con l m_X4_mostOfSetting 0 0 0 NN [.int (2)] im rm lm (QP (.int 100) im rm lm) noX := by
  refine Con.ofN (k := 0) (L0 := [some (.int (2))]) hlt (by decide +kernel) rfl rfl (by rw [en1 rfl, en0]; exact Nat.le_of_ble_eq_true rfl) (by rw [en1 rfl, en0]; rfl) ?_
  refine t_iload0 dX4_mostOfSetting_0 ?_
  refine pw_if_ne 9 dX4_mostOfSetting_1 (by decide) (fun _ => ?_) (fun h => absurd (by decide) h)
  refine pw_bipush (100) dX4_mostOfSetting_9 (by decide) ?_
  refine pw_iret dX4_mostOfSetting_11 rfl ?_
  exact ⟨rfl, rfl, rfl, rfl, rfl⟩
/-- the mill of a rank -/
def rkS (S : CS) : Nat → Option Nat
  | 0 => bhN S none 5 0 none
  | r + 1 => match rkS S r with
    | none => none
    | some q => bhN S (some q) 5 0 none
theorem rkS_lt {S : CS} : ∀ (r q : Nat), rkS S r = some q → q < 5 := by
  intro r
  cases r with
  | zero => exact fun q h => bhN_lt 5 0 none (by decide) (fun q hq => by cases hq) q h
  | succ r =>
    intro q h
    unfold rkS at h
    split at h
    · cases h
    · exact bhN_lt 5 0 none (by decide) (fun q hq => by cases hq) q h
theorem rkS_none {S : CS} {r k : Nat} (h : rkS S r = none) (hk : r ≤ k) : rkS S k = none := by
  induction k with
  | zero => rw [show 0 = r by omega]; exact h
  | succ k ih =>
    rcases Nat.eq_or_lt_of_le hk with e | e
    · rw [← e]; exact h
    · show (match rkS S k with | none => none | some q => bhN S (some q) 5 0 none) = none
      rw [ih (by omega)]
theorem nN_gm {c : Nat} {S : CS} {im : TI} {o : Option Nat} (hR : CR c S im) (ho : ∀ q, o = some q → q < 5) : nN im (gm c o) = oI o := by
  cases o with
  | none => rfl
  | some q => exact (hR.2 q (ho q rfl)).1
set_option maxHeartbeats 4000000 in
set_option maxRecDepth 100000 in
theorem C_rank {l : Launch} (hlt : l.stackTraces = false) {im : TI} {rm : TP} {lm : TL} {S : CS} (hT : RT rm) (hC : RC rm) (hR : CR 1 S im) {N : Nat} {x : Int32} (hx : x = nI N) (hN : N < 5) : Con l m_X4_millOfRank 4 0 0 NN [pv (some 0), .int (x)] im rm lm (QP (.int (oI (rkS S N))) im rm lm) noX := by
  have hk0 := kdT
  have hC1 := c1 hC
  have hk1 := hC1.1
  obtain ⟨t0, t1, t2, t4, t5, t7, t8⟩ := id hT
  refine Con.ofN (k := 2) (L0 := [some (pv (some 0)), some (.int (x)), none, none]) hlt (by decide +kernel) rfl rfl (by rw [en1 pv_cat, en1 rfl, en0]; exact Nat.le_of_ble_eq_true rfl) (by rw [en1 pv_cat, en1 rfl, en0]; rfl) ?_
  subst hx
  have loop : ∀ (n k : Nat), k + n = N → PW l m_X4_millOfRank 4 0 0 NN 18 [some (pv (some 0)), some (.int (nI N)), some (pv (gm 1 (rkS S k))), some (.int (nI k))] [] im rm lm (QP (.int (oI (rkS S N))) im rm lm) noX := by
    intro n
    induction n using Nat.strongRecOn with
    | _ n ih =>
      intro k hn
      refine t_iload3 dX4_millOfRank_18 ?_
      refine t_iload1 dX4_millOfRank_19 ?_
      refine pw_icmp_ge 42 dX4_millOfRank_20 (by decide) (fun zc20 => ?_) (fun zc20 => ?_)
      · refine t_aload2 dX4_millOfRank_42 ?_
        refine g_callS1P (C_numNone (l := l) hlt (fun a ha => by obtain ⟨q, hq, rfl⟩ := gm_some ha; exact ck_of hC1 (rkS_lt k q hq))) rfl mc_X4_numberOrNone ml_X4_220 mi_X4_numberOrNone in_X4 (okc_X4_numberOrNone (by decide)) dX4_millOfRank_43 (Nat.zero_le _) ?_
        refine pw_iret dX4_millOfRank_46 rfl ?_
        have zk : k = N := by
          have := (nI_leI (by omega) (by omega)).mp zc20
          omega
        subst zk
        exact ⟨rfl, by rw [nN_gm hR (rkS_lt k)], rfl, rfl, rfl⟩
      · refine t_aload2 dX4_millOfRank_23 ?_
        refine pw_ifnull 42 dX4_millOfRank_24 (by decide) (fun zc24 => ?_) (fun zy24 zc24 => ?_)
        · refine t_aload2 dX4_millOfRank_42 ?_
          refine g_callS1P (C_numNone (l := l) hlt (fun a ha => by obtain ⟨q, hq, rfl⟩ := gm_some ha; exact ck_of hC1 (rkS_lt k q hq))) rfl mc_X4_numberOrNone ml_X4_220 mi_X4_numberOrNone in_X4 (okc_X4_numberOrNone (by decide)) dX4_millOfRank_43 (Nat.zero_le _) ?_
          refine pw_iret dX4_millOfRank_46 rfl ?_
          have zn := rkS_none (k := N) (gm_none zc24) (by omega)
          exact ⟨rfl, by rw [nN_gm hR (rkS_lt k), gm_none zc24, zn], rfl, rfl, rfl⟩
        · obtain ⟨zq, ze, rfl⟩ := gm_some zc24
          rw [ze, gm_s]
          refine t_aload0 dX4_millOfRank_27 ?_
          refine g_getr ft4 fl_X4_10 (j := 0) (by decide) dX4_millOfRank_28 (by assumption) (by assumption) ?_
          refine t_aload2 dX4_millOfRank_31 ?_
          refine g_callV1P (C_behind (l := l) (prev := some zq) hlt hC1 hR (fun q hq => by cases hq; exact rkS_lt k zq ze)) rfl ft0 rfl mc_X0_millBehind ml_X4_317 mi_X0_millBehind ms_X0_millBehind in_X0 (okc_X0_millBehind (by decide)) dX4_millOfRank_32 (by assumption) (cat_le (Nat.le_of_ble_eq_true rfl)) ?_
          refine t_astore2 dX4_millOfRank_35 (by decide) okp_i ?_
          refine t_iinc3 (1) dX4_millOfRank_36 (by decide) (by decide) okp_r ?_
          refine pw_goto 18 dX4_millOfRank_39 (by decide) ?_
          have zk : k < N := by
            rcases Nat.lt_or_ge k N with z | z
            · exact z
            · exact absurd ((nI_leI (a := N) (b := k) (by omega) (by omega)).mpr z) zc20
          rw [nI_1 k]
          have zr : bhN S (some zq) 5 0 none = rkS S (k + 1) := by show _ = (match rkS S k with | none => none | some q => bhN S (some q) 5 0 none); rw [ze]
          rw [zr]
          exact ih (n - 1) (by omega) (k + 1) (by omega)
  refine t_iload1 dX4_millOfRank_0 ?_
  refine pw_iconst (5) dX4_millOfRank_1 (by decide) ?_
  refine pw_icmp_lt 7 dX4_millOfRank_2 (by decide) (fun zc2 => ?_) (fun zc2 => ?_)
  · refine t_aload0 dX4_millOfRank_7 ?_
    refine g_getr ft4 fl_X4_10 (j := 0) (by decide) dX4_millOfRank_8 (by assumption) (by assumption) ?_
    refine g_null dX4_millOfRank_11 ?_
    refine g_callV1P (C_behind (l := l) (prev := none) hlt hC1 hR (fun q hq => by cases hq)) rfl ft0 rfl mc_X0_millBehind ml_X4_317 mi_X0_millBehind ms_X0_millBehind in_X0 (okc_X0_millBehind (by decide)) dX4_millOfRank_12 (by assumption) (cat_le (Nat.le_of_ble_eq_true rfl)) ?_
    refine t_astore2 dX4_millOfRank_15 (by decide) okp_i ?_
    refine pw_iconst (0) dX4_millOfRank_16 (by decide) ?_
    refine t_istore3 dX4_millOfRank_17 (by decide) okp_r ?_
    exact loop N 0 (by omega)
  · refine pw_iconst (-1) dX4_millOfRank_5 (by decide) ?_
    refine pw_iret dX4_millOfRank_6 rfl ?_
    exact absurd ((nI_ltI (b := 5) (by omega) (by decide)).mpr hN) zc2
set_option maxHeartbeats 4000000 in
set_option maxRecDepth 100000 in
theorem C_rankN {l : Launch} (hlt : l.stackTraces = false) {im : TI} {rm : TP} {lm : TL} {x : Int32} (hx : ¬ x < 5) : Con l m_X4_millOfRank 4 0 0 NN [pv (some 0), .int (x)] im rm lm (QP (.int (-1)) im rm lm) noX := by
  refine Con.ofN (k := 2) (L0 := [some (pv (some 0)), some (.int (x)), none, none]) hlt (by decide +kernel) rfl rfl (by rw [en1 pv_cat, en1 rfl, en0]; exact Nat.le_of_ble_eq_true rfl) (by rw [en1 pv_cat, en1 rfl, en0]; rfl) ?_
  refine t_iload1 dX4_millOfRank_0 ?_
  refine pw_iconst (5) dX4_millOfRank_1 (by decide) ?_
  refine pw_icmp_lt 7 dX4_millOfRank_2 (by decide) (fun zc2 => ?_) (fun zc2 => ?_)
  · exact absurd zc2 hx
  · refine pw_iconst (-1) dX4_millOfRank_5 (by decide) ?_
    refine pw_iret dX4_millOfRank_6 rfl ?_
    exact ⟨rfl, rfl, rfl, rfl, rfl⟩

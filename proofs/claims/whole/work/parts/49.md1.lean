/-! TideMillsModel: its row as the creek's numbers -/
def RW (f : Nat → Int32) (S : CS) : Prop := (∀ j, j < 12 → f j = S.1 j) ∧ (∀ m w, m < 5 → w < 10 → f (12 + 34 * m + w) = S.2.1 m w) ∧ ∀ m p k, m < 5 → p < 6 → k < 4 → f (22 + 34 * m + 4 * p + k) = S.2.2 m p k
def MS (i0 : TI) (S : CS) (im : TI) : Prop := RW (im 241) S ∧ ∀ o, o ≠ 241 → im o = i0 o
def MM (rm : TP) : Prop := rm 240 0 = some 241 ∧ rm 240 1 = some 242 ∧ rm 240 3 = some 243 ∧ rm 240 5 = some 244 ∧ rm 240 6 = some 245 ∧ rm 240 11 = some 246
/-- what divides is above nothing -/
def CJ (S : CS) : Prop := ∀ m, m < 5 → 0 < S.2.1 m 0 ∧ 0 < S.2.1 m 6
theorem kdM : kd 240 = 5 := by rw [kd_eq]; decide +kernel
theorem kds : kd 241 = 6 := by rw [kd_eq]; decide +kernel
theorem kdv : kd 242 = 6 := by rw [kd_eq]; decide +kernel
theorem kdp : kd 243 = 6 := by rw [kd_eq]; decide +kernel
theorem kdb : kd 244 = 6 := by rw [kd_eq]; decide +kernel
theorem kdt : kd 245 = 6 := by rw [kd_eq]; decide +kernel
theorem kdo : kd 246 = 6 := by rw [kd_eq]; decide +kernel
theorem als : al 241 = 182 := by rw [al_eq]; decide +kernel
theorem alv : al 242 = 1092 := by rw [al_eq]; decide +kernel
theorem alp : al 243 = 182 := by rw [al_eq]; decide +kernel
theorem alb : al 244 = 182 := by rw [al_eq]; decide +kernel
theorem alt : al 245 = 60 := by rw [al_eq]; decide +kernel
theorem alo : al 246 = 3 := by rw [al_eq]; decide +kernel
theorem ix34 {m n x y : Nat} (hx : x < 34) (hy : y < 34) (h : 34 * m + x = 34 * n + y) : m = n ∧ x = y := by
  rcases Nat.lt_trichotomy m n with h1 | h1 | h1 <;> omega
theorem ix4 {p q k j : Nat} (hk : k < 4) (hj : j < 4) (h : 4 * p + k = 4 * q + j) : p = q ∧ k = j := by omega
theorem RW.g {f : Nat → Int32} {S : CS} {j : Nat} {x : Int32} (h : RW f S) (hj : j < 12) : RW (upd f j x) (upG S j x) := by
  refine ⟨fun i hi => ?_, fun m w hm hw => ?_, fun m p k hm hp hk => ?_⟩
  · unfold upd upG; dsimp only; by_cases e : i = j
    · rw [if_pos e, if_pos e]
    · rw [if_neg e, if_neg e]; exact h.1 i hi
  · unfold upd; rw [if_neg (by omega)]; exact h.2.1 m w hm hw
  · unfold upd; rw [if_neg (by omega)]; exact h.2.2 m p k hm hp hk
theorem RW.f {f : Nat → Int32} {S : CS} {m w : Nat} {x : Int32} (h : RW f S) (hm : m < 5) (hw : w < 10) : RW (upd f (12 + 34 * m + w) x) (upF S m w x) := by
  refine ⟨fun i hi => ?_, fun n v hn hv => ?_, fun n p k hn hp hk => ?_⟩
  · unfold upd; rw [if_neg (by omega)]; exact h.1 i hi
  · unfold upd upF; dsimp only; by_cases e : n = m ∧ v = w
    · rw [if_pos (by omega), if_pos e]
    · rw [if_neg (by omega), if_neg e]; exact h.2.1 n v hn hv
  · unfold upd; rw [if_neg (fun z => by have := ix34 (m := n) (n := m) (x := 10 + 4 * p + k) (y := w) (by omega) (by omega) (by omega); omega)]; exact h.2.2 n p k hn hp hk
theorem RW.k {f : Nat → Int32} {S : CS} {m p k : Nat} {x : Int32} (h : RW f S) (hm : m < 5) (hp : p < 6) (hk : k < 4) : RW (upd f (22 + 34 * m + 4 * p + k) x) (upK S m p k x) := by
  refine ⟨fun i hi => ?_, fun n v hn hv => ?_, fun n q i hn hq hi => ?_⟩
  · unfold upd; rw [if_neg (by omega)]; exact h.1 i hi
  · unfold upd; rw [if_neg (fun z => by have := ix34 (m := n) (n := m) (x := v) (y := 10 + 4 * p + k) (by omega) (by omega) (by omega); omega)]; exact h.2.1 n v hn hv
  · unfold upd upK; dsimp only; by_cases e : n = m ∧ q = p ∧ i = k
    · rw [if_pos (by omega), if_pos e]
    · rw [if_neg (fun z => by have := ix34 (m := n) (n := m) (x := 10 + 4 * q + i) (y := 10 + 4 * p + k) (by omega) (by omega) (by omega); have := ix4 (p := q) (q := p) (k := i) (j := k) hi hk (by omega); omega), if_neg e]; exact h.2.2 n q i hn hq hi
theorem MS.u {i0 im : TI} {S S2 : CS} {j : Nat} {x : Int32} (h : MS i0 S im) (hS : RW (upd (im 241) j x) S2) : MS i0 S2 (ui im 241 j x) := by
  refine ⟨?_, fun o ho => by rw [ui_ne ho]; exact h.2 o ho⟩
  unfold ui; rw [if_pos rfl]; exact hS
theorem mF (m w : Nat) : 12 + 34 * nI m + nI w = nI (12 + 34 * m + w) := by
  rw [show (34 : Int32) = nI 34 from rfl, pk_mul, show (12 : Int32) = nI 12 from rfl, nI_add, nI_add]
theorem mK (m p : Nat) : 12 + 34 * nI m + 10 + 4 * nI p = nI (22 + 34 * m + 4 * p) := by
  rw [show (34 : Int32) = nI 34 from rfl, pk_mul, show (12 : Int32) = nI 12 from rfl, nI_add, show (4 : Int32) = nI 4 from rfl, pk_mul, show (10 : Int32) = nI 10 from rfl, nI_add, nI_add]
  congr 1
  omega
section MRU
variable {l : Launch} {mt : MT} {d mc ms pc : Nat} {L : List (Option Value)} {st : List Value} {i0 im : TI} {rm : TP} {lm : TL} {Q : TQ} {X : TX} {S : CS}
theorem m_ld {z : Int32} {n : Nat} {v : Int32} (hd : decode mt.2.1 pc = .ok (.iaload, 1)) (hz : z = nI n) (hn : n < 182) (hv : im 241 n = v) (K : PW l mt d mc ms NN (pc + 1) L (.int v :: st) im rm lm Q X) : PW l mt d mc ms NN pc L (.int z :: pv (some 241) :: st) im rm lm Q X := by
  subst hz
  refine g_iald hd kds (by rw [als]; exact vin_nI hn (by decide)) ?_
  rw [nI_clamp (by omega), hv]
  exact K
theorem m_ldG {z : Int32} {j : Nat} (hd : decode mt.2.1 pc = .ok (.iaload, 1)) (hR : MS i0 S im) (hz : z = nI j) (hj : j < 12) (K : PW l mt d mc ms NN (pc + 1) L (.int (S.1 j) :: st) im rm lm Q X) : PW l mt d mc ms NN pc L (.int z :: pv (some 241) :: st) im rm lm Q X :=
  m_ld hd hz (by omega) (hR.1.1 j hj) K
theorem m_ldF {z : Int32} {m w : Nat} (hd : decode mt.2.1 pc = .ok (.iaload, 1)) (hR : MS i0 S im) (hz : z = nI (12 + 34 * m + w)) (hm : m < 5) (hw : w < 10) (K : PW l mt d mc ms NN (pc + 1) L (.int (S.2.1 m w) :: st) im rm lm Q X) : PW l mt d mc ms NN pc L (.int z :: pv (some 241) :: st) im rm lm Q X :=
  m_ld hd hz (by omega) (hR.1.2.1 m w hm hw) K
theorem m_ldK {z : Int32} {m p k : Nat} (hd : decode mt.2.1 pc = .ok (.iaload, 1)) (hR : MS i0 S im) (hz : z = nI (22 + 34 * m + 4 * p + k)) (hm : m < 5) (hp : p < 6) (hk : k < 4) (K : PW l mt d mc ms NN (pc + 1) L (.int (S.2.2 m p k) :: st) im rm lm Q X) : PW l mt d mc ms NN pc L (.int z :: pv (some 241) :: st) im rm lm Q X :=
  m_ld hd hz (by omega) (hR.1.2.2 m p k hm hp hk) K
theorem m_st {z x : Int32} {n : Nat} {S2 : CS} (hd : decode mt.2.1 pc = .ok (.iastore, 1)) (hR : MS i0 S im) (hz : z = nI n) (hn : n < 182) (hS : RW (upd (im 241) n x) S2) (K : ∀ i2 : TI, MS i0 S2 i2 → PW l mt d mc ms NN (pc + 1) L st i2 rm lm Q X) : PW l mt d mc ms NN pc L (.int x :: .int z :: pv (some 241) :: st) im rm lm Q X := by
  subst hz
  refine g_iast hd kds (by rw [als]; exact vin_nI hn (by decide)) ?_
  rw [nI_clamp (by omega)]
  exact K _ (hR.u hS)
theorem m_stG {z x : Int32} {j : Nat} (hd : decode mt.2.1 pc = .ok (.iastore, 1)) (hR : MS i0 S im) (hz : z = nI j) (hj : j < 12) (K : ∀ i2 : TI, MS i0 (upG S j x) i2 → PW l mt d mc ms NN (pc + 1) L st i2 rm lm Q X) : PW l mt d mc ms NN pc L (.int x :: .int z :: pv (some 241) :: st) im rm lm Q X :=
  m_st hd hR hz (by omega) (hR.1.g hj) K
theorem m_stF {z x : Int32} {m w : Nat} (hd : decode mt.2.1 pc = .ok (.iastore, 1)) (hR : MS i0 S im) (hz : z = nI (12 + 34 * m + w)) (hm : m < 5) (hw : w < 10) (K : ∀ i2 : TI, MS i0 (upF S m w x) i2 → PW l mt d mc ms NN (pc + 1) L st i2 rm lm Q X) : PW l mt d mc ms NN pc L (.int x :: .int z :: pv (some 241) :: st) im rm lm Q X :=
  m_st hd hR hz (by omega) (hR.1.f hm hw) K
theorem m_stK {z x : Int32} {m p k : Nat} (hd : decode mt.2.1 pc = .ok (.iastore, 1)) (hR : MS i0 S im) (hz : z = nI (22 + 34 * m + 4 * p + k)) (hm : m < 5) (hp : p < 6) (hk : k < 4) (K : ∀ i2 : TI, MS i0 (upK S m p k x) i2 → PW l mt d mc ms NN (pc + 1) L st i2 rm lm Q X) : PW l mt d mc ms NN pc L (.int x :: .int z :: pv (some 241) :: st) im rm lm Q X :=
  m_st hd hR hz (by omega) (hR.1.k hm hp hk) K
end MRU
theorem CJ.c {S : CS} (h : CJ S) {m : Nat} (hm : m < 5) : ¬ S.2.1 m 0 = 0 := fun z => by have := (h m hm).1; rw [z] at this; exact absurd this (by decide)
theorem CJ.s {S : CS} (h : CJ S) {m : Nat} (hm : m < 5) : ¬ S.2.1 m 6 = 0 := fun z => by have := (h m hm).2; rw [z] at this; exact absurd this (by decide)
theorem hd_m {S : CS} {m : Nat} (h : CJ S) (hm : m < 5) : S.2.1 m 1 * 100 / S.2.1 m 0 - tdF S (S.1 0) = hd S m := by unfold hd hdf; rw [if_pos (h m hm).1]
theorem ab_n {x : Int32} (h : x < 0) : ab x = -x := by unfold ab; rw [if_neg (Int32.not_le.mpr h)]; simp
theorem ab_p {x : Int32} (h : ¬ x < 0) : ab x = x := by unfold ab; rw [if_pos (Int32.not_lt.mp h)]
set_option maxHeartbeats 4000000 in
set_option maxRecDepth 100000 in
theorem M_in {l : Launch} (hlt : l.stackTraces = false) {im : TI} {rm : TP} {lm : TL} {x a b : Int32} : Con l m_X5_in 0 0 0 NN [.int (x), .int (a), .int (b)] im rm lm (QP (.int (bI (a ≤ x ∧ x ≤ b))) im rm lm) noX := by
  refine Con.ofN (k := 0) (L0 := [some (.int (x)), some (.int (a)), some (.int (b))]) hlt (by decide +kernel) rfl rfl (by rw [en1 rfl, en1 rfl, en1 rfl, en0]; exact Nat.le_of_ble_eq_true rfl) (by rw [en1 rfl, en1 rfl, en1 rfl, en0]; rfl) ?_
  refine t_iload0 dX5_in_0 ?_
  refine t_iload1 dX5_in_1 ?_
  refine pw_icmp_lt 14 dX5_in_2 (by decide) (fun zc2 => ?_) (fun zc2 => ?_)
  · refine pw_iconst (0) dX5_in_14 (by decide) ?_
    refine pw_zret dX5_in_15 rfl ?_ ?_
    · first | rfl | exact bI_n
    · exact ⟨rfl, by rw [bI_f (fun z => Int32.not_le.mpr zc2 z.1)], rfl, rfl, rfl⟩
  · refine t_iload0 dX5_in_5 ?_
    refine t_iload2 dX5_in_6 ?_
    refine pw_icmp_gt 14 dX5_in_7 (by decide) (fun zc7 => ?_) (fun zc7 => ?_)
    · refine pw_iconst (0) dX5_in_14 (by decide) ?_
      refine pw_zret dX5_in_15 rfl ?_ ?_
      · first | rfl | exact bI_n
      · exact ⟨rfl, by rw [bI_f (fun z => Int32.not_le.mpr zc7 z.2)], rfl, rfl, rfl⟩
    · refine pw_iconst (1) dX5_in_10 (by decide) ?_
      refine pw_goto 15 dX5_in_11 (by decide) ?_
      refine pw_zret dX5_in_15 rfl ?_ ?_
      · first | rfl | exact bI_n
      · exact ⟨rfl, by rw [bI_t ⟨Int32.not_lt.mp zc2, Int32.not_lt.mp zc7⟩], rfl, rfl, rfl⟩
set_option maxHeartbeats 4000000 in
set_option maxRecDepth 100000 in
theorem M_isMill {l : Launch} (hlt : l.stackTraces = false) {im : TI} {rm : TP} {lm : TL} {x : Int32} : Con l m_X5_isMill 1 0 0 NN [.int (x)] im rm lm (QP (.int (bI (0 ≤ x ∧ x ≤ 4))) im rm lm) noX := by
  refine Con.ofN (k := 0) (L0 := [some (.int (x))]) hlt (by decide +kernel) rfl rfl (by rw [en1 rfl, en0]; exact Nat.le_of_ble_eq_true rfl) (by rw [en1 rfl, en0]; rfl) ?_
  refine t_iload0 dX5_isMill_0 ?_
  refine pw_iconst (0) dX5_isMill_1 (by decide) ?_
  refine pw_iconst (4) dX5_isMill_2 (by decide) ?_
  refine g_callS3P (M_in (l := l) hlt) rfl mc_X5_in ml_X5_36 mi_X5_in in_X5 (okc_X5_in (by decide)) dX5_isMill_3 (Nat.zero_le _) ?_
  refine pw_zret dX5_isMill_6 rfl ?_ ?_
  · first | rfl | exact bI_n
  · exact ⟨rfl, rfl, rfl, rfl, rfl⟩
set_option maxHeartbeats 4000000 in
set_option maxRecDepth 100000 in
theorem M_of {l : Launch} (hlt : l.stackTraces = false) {im : TI} {rm : TP} {lm : TL} {i0 : TI} {S : CS} (hM : MM rm) (hR : MS i0 S im) {m w : Nat} (hm : m < 5) (hw : w < 10) : Con l m_X5_of 0 0 0 NN [pv (some 240), .int (nI m), .int (nI w)] im rm lm (QP (.int (S.2.1 m w)) im rm lm) noX := by
  have hk0 := kdM
  have hks := kds
  obtain ⟨r0, r1, r3, r5, r6, r11⟩ := id hM
  refine Con.ofN (k := 0) (L0 := [some (pv (some 240)), some (.int (nI m)), some (.int (nI w))]) hlt (by decide +kernel) rfl rfl (by rw [en1 pv_cat, en1 rfl, en1 rfl, en0]; exact Nat.le_of_ble_eq_true rfl) (by rw [en1 pv_cat, en1 rfl, en1 rfl, en0]; rfl) ?_
  refine t_aload0 dX5_of_0 ?_
  refine g_getr ft5 fl_X5_7 (j := 0) (by decide) dX5_of_1 (by assumption) (by assumption) ?_
  refine pw_bipush (12) dX5_of_4 (by decide) ?_
  refine pw_bipush (34) dX5_of_6 (by decide) ?_
  refine t_iload1 dX5_of_8 ?_
  refine pw_imul dX5_of_9 ?_
  refine pw_iadd dX5_of_10 ?_
  refine t_iload2 dX5_of_11 ?_
  refine pw_iadd dX5_of_12 ?_
  refine m_ldF dX5_of_13 hR (mF m w) hm hw ?_
  refine pw_iret dX5_of_14 rfl ?_
  exact ⟨rfl, rfl, rfl, rfl, rfl⟩
set_option maxHeartbeats 4000000 in
set_option maxRecDepth 100000 in
theorem M_put {l : Launch} (hlt : l.stackTraces = false) {im : TI} {rm : TP} {lm : TL} {i0 : TI} {S : CS} (hM : MM rm) (hR : MS i0 S im) {m w : Nat} {x : Int32} (hm : m < 5) (hw : w < 10) : Con l m_X5_put 0 0 0 NN [pv (some 240), .int (nI m), .int (nI w), .int (x)] im rm lm (QV (fun im2 => MS i0 (upF S m w x) im2) rm lm) noX := by
  have hk0 := kdM
  have hks := kds
  obtain ⟨r0, r1, r3, r5, r6, r11⟩ := id hM
  refine Con.ofN (k := 0) (L0 := [some (pv (some 240)), some (.int (nI m)), some (.int (nI w)), some (.int (x))]) hlt (by decide +kernel) rfl rfl (by rw [en1 pv_cat, en1 rfl, en1 rfl, en1 rfl, en0]; exact Nat.le_of_ble_eq_true rfl) (by rw [en1 pv_cat, en1 rfl, en1 rfl, en1 rfl, en0]; rfl) ?_
  refine t_aload0 dX5_put_0 ?_
  refine g_getr ft5 fl_X5_7 (j := 0) (by decide) dX5_put_1 (by assumption) (by assumption) ?_
  refine pw_bipush (12) dX5_put_4 (by decide) ?_
  refine pw_bipush (34) dX5_put_6 (by decide) ?_
  refine t_iload1 dX5_put_8 ?_
  refine pw_imul dX5_put_9 ?_
  refine pw_iadd dX5_put_10 ?_
  refine t_iload2 dX5_put_11 ?_
  refine pw_iadd dX5_put_12 ?_
  refine t_iload3 dX5_put_13 ?_
  refine m_stF dX5_put_14 hR (mF m w) hm hw (fun zi14 hR => ?_)
  refine pw_vret dX5_put_15 rfl ?_
  exact ⟨rfl, rfl, rfl, rfl, hR⟩
set_option maxHeartbeats 4000000 in
set_option maxRecDepth 100000 in
theorem M_add {l : Launch} (hlt : l.stackTraces = false) {im : TI} {rm : TP} {lm : TL} {i0 : TI} {S : CS} (hM : MM rm) (hR : MS i0 S im) {m w : Nat} {x : Int32} (hm : m < 5) (hw : w < 10) : Con l m_X5_add 0 0 0 NN [pv (some 240), .int (nI m), .int (nI w), .int (x)] im rm lm (QV (fun im2 => MS i0 (upF S m w (S.2.1 m w + x)) im2) rm lm) noX := by
  have hk0 := kdM
  have hks := kds
  obtain ⟨r0, r1, r3, r5, r6, r11⟩ := id hM
  refine Con.ofN (k := 0) (L0 := [some (pv (some 240)), some (.int (nI m)), some (.int (nI w)), some (.int (x))]) hlt (by decide +kernel) rfl rfl (by rw [en1 pv_cat, en1 rfl, en1 rfl, en1 rfl, en0]; exact Nat.le_of_ble_eq_true rfl) (by rw [en1 pv_cat, en1 rfl, en1 rfl, en1 rfl, en0]; rfl) ?_
  refine t_aload0 dX5_add_0 ?_
  refine g_getr ft5 fl_X5_7 (j := 0) (by decide) dX5_add_1 (by assumption) (by assumption) ?_
  refine pw_bipush (12) dX5_add_4 (by decide) ?_
  refine pw_bipush (34) dX5_add_6 (by decide) ?_
  refine t_iload1 dX5_add_8 ?_
  refine pw_imul dX5_add_9 ?_
  refine pw_iadd dX5_add_10 ?_
  refine t_iload2 dX5_add_11 ?_
  refine pw_iadd dX5_add_12 ?_
  refine pw_dup2 dX5_add_13 rfl pv_cat ?_
  refine m_ldF dX5_add_14 hR (mF m w) hm hw ?_
  refine t_iload3 dX5_add_15 ?_
  refine pw_iadd dX5_add_16 ?_
  refine m_stF dX5_add_17 hR (mF m w) hm hw (fun zi17 hR => ?_)
  refine pw_vret dX5_add_18 rfl ?_
  exact ⟨rfl, rfl, rfl, rfl, hR⟩
set_option maxHeartbeats 4000000 in
set_option maxRecDepth 100000 in
theorem M_sackRow {l : Launch} (hlt : l.stackTraces = false) {im : TI} {rm : TP} {lm : TL} {m p : Nat} : Con l m_X5_sackRow 0 0 0 NN [pv (some 240), .int (nI m), .int (nI p)] im rm lm (QP (.int (nI (22 + 34 * m + 4 * p))) im rm lm) noX := by
  refine Con.ofN (k := 0) (L0 := [some (pv (some 240)), some (.int (nI m)), some (.int (nI p))]) hlt (by decide +kernel) rfl rfl (by rw [en1 pv_cat, en1 rfl, en1 rfl, en0]; exact Nat.le_of_ble_eq_true rfl) (by rw [en1 pv_cat, en1 rfl, en1 rfl, en0]; rfl) ?_
  refine pw_bipush (12) dX5_sackRow_0 (by decide) ?_
  refine pw_bipush (34) dX5_sackRow_2 (by decide) ?_
  refine t_iload1 dX5_sackRow_4 ?_
  refine pw_imul dX5_sackRow_5 ?_
  refine pw_iadd dX5_sackRow_6 ?_
  refine pw_bipush (10) dX5_sackRow_7 (by decide) ?_
  refine pw_iadd dX5_sackRow_9 ?_
  refine pw_iconst (4) dX5_sackRow_10 (by decide) ?_
  refine t_iload2 dX5_sackRow_11 ?_
  refine pw_imul dX5_sackRow_12 ?_
  refine pw_iadd dX5_sackRow_13 ?_
  refine pw_iret dX5_sackRow_14 rfl ?_
  exact ⟨rfl, by rw [mK], rfl, rfl, rfl⟩
set_option maxHeartbeats 4000000 in
set_option maxRecDepth 100000 in
theorem M_tideIn {l : Launch} (hlt : l.stackTraces = false) {im : TI} {rm : TP} {lm : TL} {i0 : TI} {S : CS} (hM : MM rm) (hR : MS i0 S im) {h : Int32} : Con l m_X5_tideIn 0 0 0 NN [pv (some 240), .int (h)] im rm lm (QP (.int (tdF S h)) im rm lm) noX := by
  have hk0 := kdM
  have hks := kds
  obtain ⟨r0, r1, r3, r5, r6, r11⟩ := id hM
  refine Con.ofN (k := 1) (L0 := [some (pv (some 240)), some (.int (h)), none]) hlt (by decide +kernel) rfl rfl (by rw [en1 pv_cat, en1 rfl, en0]; exact Nat.le_of_ble_eq_true rfl) (by rw [en1 pv_cat, en1 rfl, en0]; rfl) ?_
  refine pw_bipush (6) dX5_tideIn_0 (by decide) ?_
  refine t_iload1 dX5_tideIn_2 ?_
  refine pw_bipush (12) dX5_tideIn_3 (by decide) ?_
  refine pw_irem dX5_tideIn_5 (by decide) ?_
  refine pw_isub dX5_tideIn_6 ?_
  refine t_istore2 dX5_tideIn_7 (by decide) okp_i ?_
  refine t_aload0 dX5_tideIn_8 ?_
  refine g_getr ft5 fl_X5_7 (j := 0) (by decide) dX5_tideIn_9 (by assumption) (by assumption) ?_
  refine pw_bipush (9) dX5_tideIn_12 (by decide) ?_
  refine m_ldG (j := 9) dX5_tideIn_14 hR rfl (by decide) ?_
  refine t_iload2 dX5_tideIn_15 ?_
  refine pw_if_ge 24 dX5_tideIn_16 (by decide) (fun zc16 => ?_) (fun zc16 => ?_)
  · refine t_iload2 dX5_tideIn_24 ?_
    refine pw_imul dX5_tideIn_25 ?_
    refine pw_iret dX5_tideIn_26 rfl ?_
    exact ⟨rfl, by rw [tdF, ab_p (Int32.not_lt.mpr zc16)], rfl, rfl, rfl⟩
  · refine t_iload2 dX5_tideIn_19 ?_
    refine pw_ineg dX5_tideIn_20 ?_
    refine pw_goto 25 dX5_tideIn_21 (by decide) ?_
    refine pw_imul dX5_tideIn_25 ?_
    refine pw_iret dX5_tideIn_26 rfl ?_
    exact ⟨rfl, by rw [tdF, ab_n (Int32.not_le.mp zc16)], rfl, rfl, rfl⟩
set_option maxHeartbeats 4000000 in
set_option maxRecDepth 100000 in
theorem M_head {l : Launch} (hlt : l.stackTraces = false) {im : TI} {rm : TP} {lm : TL} {i0 : TI} {S : CS} (hM : MM rm) (hR : MS i0 S im) (hJ : CJ S) {m : Nat} (hm : m < 5) : Con l m_X5_head 1 0 0 NN [pv (some 240), .int (nI m)] im rm lm (QP (.int (hd S m)) im rm lm) noX := by
  have hk0 := kdM
  have hks := kds
  obtain ⟨r0, r1, r3, r5, r6, r11⟩ := id hM
  refine Con.ofN (k := 0) (L0 := [some (pv (some 240)), some (.int (nI m))]) hlt (by decide +kernel) rfl rfl (by rw [en1 pv_cat, en1 rfl, en0]; exact Nat.le_of_ble_eq_true rfl) (by rw [en1 pv_cat, en1 rfl, en0]; rfl) ?_
  refine t_aload0 dX5_head_0 ?_
  refine t_iload1 dX5_head_1 ?_
  refine pw_iconst (1) dX5_head_2 (by decide) ?_
  refine g_callV2P (M_of (l := l) hlt hM hR (m := m) (w := 1) hm (by decide)) rfl ft5 rfl mc_X5_of ml_X5_47 mi_X5_of ms_X5_of in_X5 (okc_X5_of (by decide)) dX5_head_3 (by assumption) (cat_le (Nat.le_of_ble_eq_true rfl)) ?_
  refine pw_bipush (100) dX5_head_6 (by decide) ?_
  refine pw_imul dX5_head_8 ?_
  refine t_aload0 dX5_head_9 ?_
  refine t_iload1 dX5_head_10 ?_
  refine pw_iconst (0) dX5_head_11 (by decide) ?_
  refine g_callV2P (M_of (l := l) hlt hM hR (m := m) (w := 0) hm (by decide)) rfl ft5 rfl mc_X5_of ml_X5_47 mi_X5_of ms_X5_of in_X5 (okc_X5_of (by decide)) dX5_head_12 (by assumption) (cat_le (Nat.le_of_ble_eq_true rfl)) ?_
  refine pw_idiv dX5_head_15 (hJ.c hm) ?_
  refine t_aload0 dX5_head_16 ?_
  refine t_aload0 dX5_head_17 ?_
  refine g_getr ft5 fl_X5_7 (j := 0) (by decide) dX5_head_18 (by assumption) (by assumption) ?_
  refine pw_iconst (0) dX5_head_21 (by decide) ?_
  refine m_ldG (j := 0) dX5_head_22 hR rfl (by decide) ?_
  refine g_callV1P (M_tideIn (l := l) hlt hM hR) rfl ft5 rfl mc_X5_tideIn ml_X5_60 mi_X5_tideIn ms_X5_tideIn in_X5 (okc_X5_tideIn (by decide)) dX5_head_23 (by assumption) (cat_le (Nat.le_of_ble_eq_true rfl)) ?_
  refine pw_isub dX5_head_26 ?_
  refine pw_iret dX5_head_27 rfl ?_
  exact ⟨rfl, by rw [hd_m hJ hm], rfl, rfl, rfl⟩
set_option maxHeartbeats 4000000 in
set_option maxRecDepth 100000 in
theorem M_reason {l : Launch} (hlt : l.stackTraces = false) {im : TI} {rm : TP} {lm : TL} {i0 : TI} {S : CS} (hM : MM rm) (hR : MS i0 S im) (hJ : CJ S) {m : Nat} (hm : m < 5) : Con l m_X5_reason 2 0 0 NN [pv (some 240), .int (nI m)] im rm lm (QP (.int (rsF S m)) im rm lm) noX := by
  have hk0 := kdM
  have hks := kds
  obtain ⟨r0, r1, r3, r5, r6, r11⟩ := id hM
  refine Con.ofN (k := 0) (L0 := [some (pv (some 240)), some (.int (nI m))]) hlt (by decide +kernel) rfl rfl (by rw [en1 pv_cat, en1 rfl, en0]; exact Nat.le_of_ble_eq_true rfl) (by rw [en1 pv_cat, en1 rfl, en0]; rfl) ?_
  refine t_aload0 dX5_reason_0 ?_
  refine t_iload1 dX5_reason_1 ?_
  refine pw_bipush (9) dX5_reason_2 (by decide) ?_
  refine g_callV2P (M_of (l := l) hlt hM hR (m := m) (w := 9) hm (by decide)) rfl ft5 rfl mc_X5_of ml_X5_47 mi_X5_of ms_X5_of in_X5 (okc_X5_of (by decide)) dX5_reason_4 (by assumption) (cat_le (Nat.le_of_ble_eq_true rfl)) ?_
  refine pw_if_ne 12 dX5_reason_7 (by decide) (fun zc7 => ?_) (fun zc7 => ?_)
  · refine t_aload0 dX5_reason_12 ?_
    refine t_iload1 dX5_reason_13 ?_
    refine g_callV1P (M_head (l := l) hlt hM hR hJ (m := m) hm) rfl ft5 rfl mc_X5_head ml_X5_64 mi_X5_head ms_X5_head in_X5 (okc_X5_head (by decide)) dX5_reason_14 (by assumption) (cat_le (Nat.le_of_ble_eq_true rfl)) ?_
    refine t_aload0 dX5_reason_17 ?_
    refine g_getr ft5 fl_X5_7 (j := 0) (by decide) dX5_reason_18 (by assumption) (by assumption) ?_
    refine pw_bipush (10) dX5_reason_21 (by decide) ?_
    refine m_ldG (j := 10) dX5_reason_23 hR rfl (by decide) ?_
    refine pw_icmp_ge 31 dX5_reason_24 (by decide) (fun zc24 => ?_) (fun zc24 => ?_)
    · refine t_aload0 dX5_reason_31 ?_
      refine t_iload1 dX5_reason_32 ?_
      refine pw_iconst (1) dX5_reason_33 (by decide) ?_
      refine g_callV2P (M_of (l := l) hlt hM hR (m := m) (w := 1) hm (by decide)) rfl ft5 rfl mc_X5_of ml_X5_47 mi_X5_of ms_X5_of in_X5 (okc_X5_of (by decide)) dX5_reason_34 (by assumption) (cat_le (Nat.le_of_ble_eq_true rfl)) ?_
      refine t_aload0 dX5_reason_37 ?_
      refine g_getr ft5 fl_X5_7 (j := 0) (by decide) dX5_reason_38 (by assumption) (by assumption) ?_
      refine pw_bipush (11) dX5_reason_41 (by decide) ?_
      refine m_ldG (j := 11) dX5_reason_43 hR rfl (by decide) ?_
      refine pw_icmp_ge 51 dX5_reason_44 (by decide) (fun zc44 => ?_) (fun zc44 => ?_)
      · refine pw_iconst (0) dX5_reason_51 (by decide) ?_
        refine pw_iret dX5_reason_52 rfl ?_
        exact ⟨rfl, by rw [rsF, if_neg zc7, if_neg (Int32.not_lt.mpr zc24), if_neg (Int32.not_lt.mpr zc44)], rfl, rfl, rfl⟩
      · refine pw_iconst (3) dX5_reason_47 (by decide) ?_
        refine pw_goto 52 dX5_reason_48 (by decide) ?_
        refine pw_iret dX5_reason_52 rfl ?_
        exact ⟨rfl, by rw [rsF, if_neg zc7, if_neg (Int32.not_lt.mpr zc24), if_pos (Int32.not_le.mp zc44)], rfl, rfl, rfl⟩
    · refine pw_iconst (2) dX5_reason_27 (by decide) ?_
      refine pw_goto 52 dX5_reason_28 (by decide) ?_
      refine pw_iret dX5_reason_52 rfl ?_
      exact ⟨rfl, by rw [rsF, if_neg zc7, if_pos (Int32.not_le.mp zc24)], rfl, rfl, rfl⟩
  · refine pw_iconst (1) dX5_reason_10 (by decide) ?_
    refine pw_iret dX5_reason_11 rfl ?_
    exact ⟨rfl, by rw [rsF, if_pos (Classical.not_not.mp zc7)], rfl, rfl, rfl⟩

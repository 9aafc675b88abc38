/-! The law: the best stone, when a sack is ground -/
section Q33
variable {l : Launch} {im : TI} {rm : TP} {lm : TL} {Z : TI × TP} {S : CS} {n : Nat} {T : Nat → CS} {sn : Option CS} {bl : Nat} {B : Nat → Int32}
def QT (x : Int32) (lm : TL) (Z : TI × TP) (S : CS) (n : Nat) (T : Nat → CS) (sn : Option CS) (bl : Nat) (B : Nat → Int32) : TQ := QG (fun v i r q => v = some (.int x) ∧ q = lm ∧ TS Z S n T sn bl B i r)
theorem Q_pass (hlt : l.stackTraces = false) (hTS : TS Z S n T sn bl B im rm) {N : Nat} {x : Int32} (hx : x = nI N) (h1 : 1 ≤ N) (h2 : N ≤ 48) : Con l m_X4_pass 8 0 0 NN [pv (some 0), .int x] im rm lm (QT ((hsS N S).1 6 - S.1 6) lm Z (hsS N S) (shN n) (shT n T S) sn bl B) noX := by
  subst hx
  exact C_pass hlt hTS (by omega) ⟨nI_le (a := 1) h1 (by omega), nI_le (b := 48) h2 (by decide)⟩
theorem Q_undo (hlt : l.stackTraces = false) (hTS : TS Z S n T sn bl B im rm) {S2 : CS} (hn : 0 < n) (hS : T (n - 1) = S2) : Con l m_X4_undo 8 0 0 NN [pv (some 0)] im rm lm (QT (nI (n - 1)) lm Z S2 (n - 1) T sn bl B) noX := by
  subst hS
  exact C_undo hlt hTS hn
theorem Q_gear (hlt : l.stackTraces = false) (hTS : TS Z S n T sn bl B im rm) {m : Nat} {x a b y : Int32} {S2 : CS} (hm : m < 5) (hx : x = nI m) (ha : 8 ≤ a ∧ a ≤ 60) (hb : 8 ≤ b ∧ b ≤ 60) (hS : upF (upF S m 5 a) m 6 b = S2) (hy : tof (S2.2.1 m) 100 = y) : Con l m_X4_gear 8 0 0 NN [pv (some 0), .int x, .int a, .int b] im rm lm (QT y lm Z S2 (shN n) (shT n T S) sn bl B) noX := by
  subst hx; subst hS; subst hy
  exact C_gear hlt hTS (maO_nI hm) ha hb
theorem Q_ground (hlt : l.stackTraces = false) (hTS : TS Z S n T sn bl B im rm) {x y : Int32} (hy : oI (gbS S x) = y) : Con l m_X4_groundIn 8 0 0 NN [pv (some 0), .int x] im rm lm (QT y lm Z S n T sn bl B) noX := by
  subst hy
  exact C_groundIn hlt hTS
theorem Q_best (hlt : l.stackTraces = false) (hTS : TS Z S n T sn bl B im rm) {m : Nat} {x : Int32} (hm : m < 5) (hx : x = nI m) : Con l m_X4_bestStone 8 0 0 NN [pv (some 0), .int x] im rm lm (QT (bsS S m) lm Z S n T sn bl B) noX := by
  subst hx
  exact C_bestStone hlt hTS (maO_nI hm)
theorem Q_skA (hlt : l.stackTraces = false) (hTS : TS Z S n T sn bl B im rm) (hW : WF S) {m p v : Nat} {x a y : Int32} (ha : ats S m p x) (hv : a = nI v) (h4 : v ≤ 4) (hy : skV S m p v = y) : Con l m_X4_sackOf 8 0 0 NN [pv (some 0), .int x, .int a] im rm lm (QP (.int y) im rm lm) noX := Q_sackOf hlt hTS hW ha.1 ha.2.1 ha.2.2.symm hv h4 hy
/-- the law's own answers: true, the state as it was -/
def QK (lm : TL) (Z : TI × TP) (S : CS) (sn : Option CS) (bl : Nat) (B : Nat → Int32) : TQ := QG (fun v i r q => v = some (.int 1) ∧ q = lm ∧ ∃ n T, TS Z S n T sn bl B i r)
end Q33
set_option maxHeartbeats 4000000 in
set_option maxRecDepth 100000 in
theorem H_isBest {l : Launch} (hlt : l.stackTraces = false) {im : TI} {rm : TP} {lm : TL} {Z : TI × TP} {S : CS} {n : Nat} {T : Nat → CS} {sn : Option CS} {bl : Nat} {B : Nat → Int32} (hTS : TS Z S n T sn bl B im rm) (hW : WF S) {m : Nat} (hm : m < 5) : Con l m_L_isBest 10 0 0 NN [pv (some 0), .int (nI m)] im rm lm (QK lm Z S sn bl B) noX := by
  refine Con.ofN (k := 8) (L0 := [some (pv (some 0)), some (.int (nI m)), none, none, none, none, none, none, none, none]) hlt (by decide +kernel) rfl rfl (by rw [en1 pv_cat, en1 rfl, en0]; exact Nat.le_of_ble_eq_true rfl) (by rw [en1 pv_cat, en1 rfl, en0]; rfl) ?_
  have hI := hW.1.1
  have hwh := hW.wh hm
  have loop : ∀ (k j : Nat) (due least : Int32) (z7 z8 z9 : Option Value) (im : TI) (rm : TP) (lm : TL) (n : Nat) (T : Nat → CS), j + k = 14 → TS Z S n T sn bl B im rm → bmN S m k j due least = bsS S m → (due = 0 ∨ ∃ i, i < j ∧ due = nI (60 - 4 * i)) → PW l m_L_isBest 10 0 0 NN 23 [some (pv (some 0)), some (.int (nI m)), some (.int (bsS S m)), some (.int (S.2.1 m 5)), some (.int due), some (.int least), some (.int (nI (60 - 4 * j))), z7, z8, z9] [] im rm lm (QK lm Z S sn bl B) noX := by
    intro k
    induction k with
    | zero =>
      intro j due least z7 z8 z9 im rm lm n T hj hTS hb hd
      have e : j = 14 := by omega
      subst e
      have hb : due = bsS S m := hb
      refine t_iload6 dL_isBest_23 ?_
      refine pw_bipush (8) dL_isBest_25 (by decide) ?_
      refine pw_icmp_lt 124 dL_isBest_27 (by decide) (fun _ => ?_) (fun zz => absurd (show nI (60 - 4 * 14) < 8 by decide) zz)
      refine t_iload2 dL_isBest_124 ?_
      refine t_iload4 dL_isBest_125 ?_
      refine pw_icmp_ne 134 dL_isBest_127 (by decide) (fun zz => absurd hb.symm zz) (fun _ => ?_)
      refine pw_iconst (1) dL_isBest_130 (by decide) ?_
      refine pw_goto 135 dL_isBest_131 (by decide) ?_
      refine pw_zret dL_isBest_135 rfl ?_ ?_
      · first | rfl | exact bI_n
      · exact ⟨rfl, rfl, rfl, _, _, hTS⟩
    | succ k ih =>
      intro j due least z7 z8 z9 im rm lm n T hj hTS hb hd
      have hj14 : j < 14 := by omega
      have ht8 : (8 : Int32) ≤ nI (60 - 4 * j) ∧ nI (60 - 4 * j) ≤ 60 := ⟨nI_le (a := 8) (by omega) (by omega), nI_le (b := 60) (by omega) (by decide)⟩
      have eS : upF (upF S m 5 (S.2.1 m 5)) m 6 (nI (60 - 4 * j)) = upF S m 6 (nI (60 - 4 * j)) := by rw [uf_self]
      have hW1 : WF (upF S m 6 (nI (60 - 4 * j))) := by rw [← eS]; exact hW.gear hwh.1 ht8
      have hn6 := hTS.n6
      rw [bmN, lf_left hW.1 hj14] at hb
      by_cases h0 : due = 0
      · rw [if_pos (Or.inl h0)] at hb
        refine t_iload6 dL_isBest_23 ?_
        refine pw_bipush (8) dL_isBest_25 (by decide) ?_
        refine pw_icmp_lt 124 dL_isBest_27 (by decide) (fun zz => absurd zz (Int32.not_lt.mpr ht8.1)) (fun _ => ?_)
        refine t_aload0 dL_isBest_30 ?_
        refine t_iload1 dL_isBest_31 ?_
        refine t_iload3 dL_isBest_32 ?_
        refine t_iload6 dL_isBest_33 ?_
        refine g_callV3G (Q_gear (l := l) hlt hTS hm rfl hwh.1 ht8 eS (y := tof ((upF S m 6 (nI (60 - 4 * j))).2.1 m) 100) rfl) rfl ft4 rfl mc_X4_gear ml_L_65 mi_X4_gear ms_X4_gear in_X4 (okc_X4_gear (by decide)) dL_isBest_35 kdT (cat_le (Nat.le_of_ble_eq_true rfl)) (fun _ _ _ _ h => h.elim) (by decide) (fun zv35 zim35 zrm35 zlm35 zh35 => ?_)
        obtain ⟨rfl, rfl, hT1⟩ := zh35
        refine t_istore7 dL_isBest_38 (by exact Nat.le_of_ble_eq_true rfl) okp_i ?_
        refine t_aload0 dL_isBest_40 ?_
        refine pw_bipush (24) dL_isBest_41 (by decide) ?_
        refine g_callV1G (Q_pass (l := l) hlt hT1 (N := 24) (x := 24) rfl (by decide) (by decide)) rfl ft4 rfl mc_X4_pass ml_L_59 mi_X4_pass ms_X4_pass in_X4 (okc_X4_pass (by decide)) dL_isBest_43 kdT (cat_le (Nat.le_of_ble_eq_true rfl)) (fun _ _ _ _ h => h.elim) (by decide) (fun zv43 zim43 zrm43 zlm43 zh43 => ?_)
        obtain ⟨rfl, rfl, hT2⟩ := zh43
        refine t_istore8 dL_isBest_46 (by exact Nat.le_of_ble_eq_true rfl) okp_i ?_
        refine t_aload0 dL_isBest_48 ?_
        refine g_callS1P (H_rests (l := l) hlt hT2 (hW1.hours 24)) rfl mc_L_rests ml_L_69 mi_L_rests in_L (okc_L_rests (by decide)) dL_isBest_49 (Nat.zero_le _) ?_
        refine t_istore9 dL_isBest_52 (by exact Nat.le_of_ble_eq_true rfl) okp_i ?_
        refine t_iload4 dL_isBest_54 ?_
        refine pw_if_eq 66 dL_isBest_56 (by decide) (fun _ => ?_) (fun zz => absurd h0 zz)
        refine t_iload6 dL_isBest_66 ?_
        refine pw_goto 73 dL_isBest_68 (by decide) ?_
        refine t_istore4 dL_isBest_73 (by exact Nat.le_of_ble_eq_true rfl) okp_i ?_
        refine t_iload4 dL_isBest_75 ?_
        refine t_iload6 dL_isBest_77 ?_
        refine pw_icmp_ne 87 dL_isBest_79 (by decide) (fun zz => absurd rfl zz) (fun _ => ?_)
        refine t_iload9 dL_isBest_82 ?_
        refine pw_goto 89 dL_isBest_84 (by decide) ?_
        refine t_istore5 dL_isBest_89 (by exact Nat.le_of_ble_eq_true rfl) okp_i ?_
        refine t_iload7 dL_isBest_91 ?_
        refine pw_iconst (1) dL_isBest_93 (by decide) ?_
        refine pw_icmp_lt 116 dL_isBest_94 (by decide) (fun zz => absurd zz (to_pos hW1 hm)) (fun _ => ?_)
        refine t_iload8 dL_isBest_97 ?_
        refine pw_if_lt 116 dL_isBest_99 (by decide) (fun zz => absurd zz (hW1.up 24)) (fun _ => ?_)
        refine t_aload0 dL_isBest_102 ?_
        refine g_callV0G (Q_undo (l := l) hlt hT2 sh_pos rfl) rfl ft4 rfl mc_X4_undo ml_L_73 mi_X4_undo ms_X4_undo in_X4 (okc_X4_undo (by decide)) dL_isBest_103 kdT (cat_le (Nat.le_of_ble_eq_true rfl)) (fun _ _ _ _ h => h.elim) (by decide) (fun zv103 zim103 zrm103 zlm103 zh103 => ?_)
        obtain ⟨rfl, rfl, hT3⟩ := zh103
        refine pw_if_lt 116 dL_isBest_106 (by decide) (fun zz => absurd zz (nI_pos (by have := hT2.n6; omega))) (fun _ => ?_)
        refine t_aload0 dL_isBest_109 ?_
        refine g_callV0G (Q_undo (l := l) hlt hT3 (sh_two (T := T) (S := S) (S1 := S) hn6).2 (sh_two hn6).1) rfl ft4 rfl mc_X4_undo ml_L_73 mi_X4_undo ms_X4_undo in_X4 (okc_X4_undo (by decide)) dL_isBest_110 kdT (cat_le (Nat.le_of_ble_eq_true rfl)) (fun _ _ _ _ h => h.elim) (by decide) (fun zv110 zim110 zrm110 zlm110 zh110 => ?_)
        obtain ⟨rfl, rfl, hT4⟩ := zh110
        refine pw_if_ge 118 dL_isBest_113 (by decide) (fun _ => ?_) (fun zz => absurd (nI_pos' (by have := hT2.n6; omega)) zz)
        refine t_iinc6 (-4) dL_isBest_118 (by decide) (by exact Nat.le_of_ble_eq_true rfl) okp_i ?_
        refine pw_goto 23 dL_isBest_121 (by decide) ?_
        rw [st4 hj14]
        exact ih (j + 1) _ _ _ _ _ _ _ _ _ _ (by omega) hT4 hb (Or.inr ⟨j, by omega, rfl⟩)
      · by_cases h1 : leftS S m j < least
        · rw [if_pos (Or.inr h1)] at hb
          refine t_iload6 dL_isBest_23 ?_
          refine pw_bipush (8) dL_isBest_25 (by decide) ?_
          refine pw_icmp_lt 124 dL_isBest_27 (by decide) (fun zz => absurd zz (Int32.not_lt.mpr ht8.1)) (fun _ => ?_)
          refine t_aload0 dL_isBest_30 ?_
          refine t_iload1 dL_isBest_31 ?_
          refine t_iload3 dL_isBest_32 ?_
          refine t_iload6 dL_isBest_33 ?_
          refine g_callV3G (Q_gear (l := l) hlt hTS hm rfl hwh.1 ht8 eS (y := tof ((upF S m 6 (nI (60 - 4 * j))).2.1 m) 100) rfl) rfl ft4 rfl mc_X4_gear ml_L_65 mi_X4_gear ms_X4_gear in_X4 (okc_X4_gear (by decide)) dL_isBest_35 kdT (cat_le (Nat.le_of_ble_eq_true rfl)) (fun _ _ _ _ h => h.elim) (by decide) (fun zv35 zim35 zrm35 zlm35 zh35 => ?_)
          obtain ⟨rfl, rfl, hT1⟩ := zh35
          refine t_istore7 dL_isBest_38 (by exact Nat.le_of_ble_eq_true rfl) okp_i ?_
          refine t_aload0 dL_isBest_40 ?_
          refine pw_bipush (24) dL_isBest_41 (by decide) ?_
          refine g_callV1G (Q_pass (l := l) hlt hT1 (N := 24) (x := 24) rfl (by decide) (by decide)) rfl ft4 rfl mc_X4_pass ml_L_59 mi_X4_pass ms_X4_pass in_X4 (okc_X4_pass (by decide)) dL_isBest_43 kdT (cat_le (Nat.le_of_ble_eq_true rfl)) (fun _ _ _ _ h => h.elim) (by decide) (fun zv43 zim43 zrm43 zlm43 zh43 => ?_)
          obtain ⟨rfl, rfl, hT2⟩ := zh43
          refine t_istore8 dL_isBest_46 (by exact Nat.le_of_ble_eq_true rfl) okp_i ?_
          refine t_aload0 dL_isBest_48 ?_
          refine g_callS1P (H_rests (l := l) hlt hT2 (hW1.hours 24)) rfl mc_L_rests ml_L_69 mi_L_rests in_L (okc_L_rests (by decide)) dL_isBest_49 (Nat.zero_le _) ?_
          refine t_istore9 dL_isBest_52 (by exact Nat.le_of_ble_eq_true rfl) okp_i ?_
          refine t_iload4 dL_isBest_54 ?_
          refine pw_if_eq 66 dL_isBest_56 (by decide) (fun zz => absurd zz h0) (fun _ => ?_)
          refine t_iload9 dL_isBest_59 ?_
          refine t_iload5 dL_isBest_61 ?_
          refine pw_icmp_ge 71 dL_isBest_63 (by decide) (fun zz => absurd zz (Int32.not_le.mpr h1)) (fun _ => ?_)
          refine t_iload6 dL_isBest_66 ?_
          refine pw_goto 73 dL_isBest_68 (by decide) ?_
          refine t_istore4 dL_isBest_73 (by exact Nat.le_of_ble_eq_true rfl) okp_i ?_
          refine t_iload4 dL_isBest_75 ?_
          refine t_iload6 dL_isBest_77 ?_
          refine pw_icmp_ne 87 dL_isBest_79 (by decide) (fun zz => absurd rfl zz) (fun _ => ?_)
          refine t_iload9 dL_isBest_82 ?_
          refine pw_goto 89 dL_isBest_84 (by decide) ?_
          refine t_istore5 dL_isBest_89 (by exact Nat.le_of_ble_eq_true rfl) okp_i ?_
          refine t_iload7 dL_isBest_91 ?_
          refine pw_iconst (1) dL_isBest_93 (by decide) ?_
          refine pw_icmp_lt 116 dL_isBest_94 (by decide) (fun zz => absurd zz (to_pos hW1 hm)) (fun _ => ?_)
          refine t_iload8 dL_isBest_97 ?_
          refine pw_if_lt 116 dL_isBest_99 (by decide) (fun zz => absurd zz (hW1.up 24)) (fun _ => ?_)
          refine t_aload0 dL_isBest_102 ?_
          refine g_callV0G (Q_undo (l := l) hlt hT2 sh_pos rfl) rfl ft4 rfl mc_X4_undo ml_L_73 mi_X4_undo ms_X4_undo in_X4 (okc_X4_undo (by decide)) dL_isBest_103 kdT (cat_le (Nat.le_of_ble_eq_true rfl)) (fun _ _ _ _ h => h.elim) (by decide) (fun zv103 zim103 zrm103 zlm103 zh103 => ?_)
          obtain ⟨rfl, rfl, hT3⟩ := zh103
          refine pw_if_lt 116 dL_isBest_106 (by decide) (fun zz => absurd zz (nI_pos (by have := hT2.n6; omega))) (fun _ => ?_)
          refine t_aload0 dL_isBest_109 ?_
          refine g_callV0G (Q_undo (l := l) hlt hT3 (sh_two (T := T) (S := S) (S1 := S) hn6).2 (sh_two hn6).1) rfl ft4 rfl mc_X4_undo ml_L_73 mi_X4_undo ms_X4_undo in_X4 (okc_X4_undo (by decide)) dL_isBest_110 kdT (cat_le (Nat.le_of_ble_eq_true rfl)) (fun _ _ _ _ h => h.elim) (by decide) (fun zv110 zim110 zrm110 zlm110 zh110 => ?_)
          obtain ⟨rfl, rfl, hT4⟩ := zh110
          refine pw_if_ge 118 dL_isBest_113 (by decide) (fun _ => ?_) (fun zz => absurd (nI_pos' (by have := hT2.n6; omega)) zz)
          refine t_iinc6 (-4) dL_isBest_118 (by decide) (by exact Nat.le_of_ble_eq_true rfl) okp_i ?_
          refine pw_goto 23 dL_isBest_121 (by decide) ?_
          rw [st4 hj14]
          exact ih (j + 1) _ _ _ _ _ _ _ _ _ _ (by omega) hT4 hb (Or.inr ⟨j, by omega, rfl⟩)
        · rw [if_neg (fun z => z.elim h0 h1)] at hb
          obtain ⟨i, hi, ei⟩ := hd.resolve_left h0
          have hne : ¬ due = nI (60 - 4 * j) := fun z => by rw [ei, nI_eq (by omega) (by omega)] at z; omega
          refine t_iload6 dL_isBest_23 ?_
          refine pw_bipush (8) dL_isBest_25 (by decide) ?_
          refine pw_icmp_lt 124 dL_isBest_27 (by decide) (fun zz => absurd zz (Int32.not_lt.mpr ht8.1)) (fun _ => ?_)
          refine t_aload0 dL_isBest_30 ?_
          refine t_iload1 dL_isBest_31 ?_
          refine t_iload3 dL_isBest_32 ?_
          refine t_iload6 dL_isBest_33 ?_
          refine g_callV3G (Q_gear (l := l) hlt hTS hm rfl hwh.1 ht8 eS (y := tof ((upF S m 6 (nI (60 - 4 * j))).2.1 m) 100) rfl) rfl ft4 rfl mc_X4_gear ml_L_65 mi_X4_gear ms_X4_gear in_X4 (okc_X4_gear (by decide)) dL_isBest_35 kdT (cat_le (Nat.le_of_ble_eq_true rfl)) (fun _ _ _ _ h => h.elim) (by decide) (fun zv35 zim35 zrm35 zlm35 zh35 => ?_)
          obtain ⟨rfl, rfl, hT1⟩ := zh35
          refine t_istore7 dL_isBest_38 (by exact Nat.le_of_ble_eq_true rfl) okp_i ?_
          refine t_aload0 dL_isBest_40 ?_
          refine pw_bipush (24) dL_isBest_41 (by decide) ?_
          refine g_callV1G (Q_pass (l := l) hlt hT1 (N := 24) (x := 24) rfl (by decide) (by decide)) rfl ft4 rfl mc_X4_pass ml_L_59 mi_X4_pass ms_X4_pass in_X4 (okc_X4_pass (by decide)) dL_isBest_43 kdT (cat_le (Nat.le_of_ble_eq_true rfl)) (fun _ _ _ _ h => h.elim) (by decide) (fun zv43 zim43 zrm43 zlm43 zh43 => ?_)
          obtain ⟨rfl, rfl, hT2⟩ := zh43
          refine t_istore8 dL_isBest_46 (by exact Nat.le_of_ble_eq_true rfl) okp_i ?_
          refine t_aload0 dL_isBest_48 ?_
          refine g_callS1P (H_rests (l := l) hlt hT2 (hW1.hours 24)) rfl mc_L_rests ml_L_69 mi_L_rests in_L (okc_L_rests (by decide)) dL_isBest_49 (Nat.zero_le _) ?_
          refine t_istore9 dL_isBest_52 (by exact Nat.le_of_ble_eq_true rfl) okp_i ?_
          refine t_iload4 dL_isBest_54 ?_
          refine pw_if_eq 66 dL_isBest_56 (by decide) (fun zz => absurd zz h0) (fun _ => ?_)
          refine t_iload9 dL_isBest_59 ?_
          refine t_iload5 dL_isBest_61 ?_
          refine pw_icmp_ge 71 dL_isBest_63 (by decide) (fun _ => ?_) (fun zz => absurd (Int32.not_lt.mp h1) zz)
          refine t_iload4 dL_isBest_71 ?_
          refine t_istore4 dL_isBest_73 (by exact Nat.le_of_ble_eq_true rfl) okp_i ?_
          refine t_iload4 dL_isBest_75 ?_
          refine t_iload6 dL_isBest_77 ?_
          refine pw_icmp_ne 87 dL_isBest_79 (by decide) (fun _ => ?_) (fun zz => absurd hne zz)
          refine t_iload5 dL_isBest_87 ?_
          refine t_istore5 dL_isBest_89 (by exact Nat.le_of_ble_eq_true rfl) okp_i ?_
          refine t_iload7 dL_isBest_91 ?_
          refine pw_iconst (1) dL_isBest_93 (by decide) ?_
          refine pw_icmp_lt 116 dL_isBest_94 (by decide) (fun zz => absurd zz (to_pos hW1 hm)) (fun _ => ?_)
          refine t_iload8 dL_isBest_97 ?_
          refine pw_if_lt 116 dL_isBest_99 (by decide) (fun zz => absurd zz (hW1.up 24)) (fun _ => ?_)
          refine t_aload0 dL_isBest_102 ?_
          refine g_callV0G (Q_undo (l := l) hlt hT2 sh_pos rfl) rfl ft4 rfl mc_X4_undo ml_L_73 mi_X4_undo ms_X4_undo in_X4 (okc_X4_undo (by decide)) dL_isBest_103 kdT (cat_le (Nat.le_of_ble_eq_true rfl)) (fun _ _ _ _ h => h.elim) (by decide) (fun zv103 zim103 zrm103 zlm103 zh103 => ?_)
          obtain ⟨rfl, rfl, hT3⟩ := zh103
          refine pw_if_lt 116 dL_isBest_106 (by decide) (fun zz => absurd zz (nI_pos (by have := hT2.n6; omega))) (fun _ => ?_)
          refine t_aload0 dL_isBest_109 ?_
          refine g_callV0G (Q_undo (l := l) hlt hT3 (sh_two (T := T) (S := S) (S1 := S) hn6).2 (sh_two hn6).1) rfl ft4 rfl mc_X4_undo ml_L_73 mi_X4_undo ms_X4_undo in_X4 (okc_X4_undo (by decide)) dL_isBest_110 kdT (cat_le (Nat.le_of_ble_eq_true rfl)) (fun _ _ _ _ h => h.elim) (by decide) (fun zv110 zim110 zrm110 zlm110 zh110 => ?_)
          obtain ⟨rfl, rfl, hT4⟩ := zh110
          refine pw_if_ge 118 dL_isBest_113 (by decide) (fun _ => ?_) (fun zz => absurd (nI_pos' (by have := hT2.n6; omega)) zz)
          refine t_iinc6 (-4) dL_isBest_118 (by decide) (by exact Nat.le_of_ble_eq_true rfl) okp_i ?_
          refine pw_goto 23 dL_isBest_121 (by decide) ?_
          rw [st4 hj14]
          exact ih (j + 1) _ _ _ _ _ _ _ _ _ _ (by omega) hT4 hb (Or.inr ⟨i, by omega, ei⟩)
  refine t_aload0 dL_isBest_0 ?_
  refine t_iload1 dL_isBest_1 ?_
  refine g_callV1G (Q_best (l := l) hlt hTS hm rfl) rfl ft4 rfl mc_X4_bestStone ml_L_62 mi_X4_bestStone ms_X4_bestStone in_X4 (okc_X4_bestStone (by decide)) dL_isBest_2 kdT (cat_le (Nat.le_of_ble_eq_true rfl)) (fun _ _ _ _ h => h.elim) (by decide) (fun zv2 zim2 zrm2 zlm2 zh2 => ?_)
  obtain ⟨rfl, rfl, hT0⟩ := zh2
  refine t_istore2 dL_isBest_5 (by exact Nat.le_of_ble_eq_true rfl) okp_i ?_
  refine t_aload0 dL_isBest_6 ?_
  refine t_iload1 dL_isBest_7 ?_
  refine pw_iconst (5) dL_isBest_8 (by decide) ?_
  refine g_callV2P (Q_mill (l := l) hlt hT0 (m := m) (x := nI m) (a := 5) (v := 5) hm rfl rfl (by decide) (y := S.2.1 m 5) rfl) rfl ft4 rfl mc_X4_mill ml_L_10 mi_X4_mill ms_X4_mill in_X4 (okc_X4_mill (by decide)) dL_isBest_9 kdT (cat_le (Nat.le_of_ble_eq_true rfl)) ?_
  refine t_istore3 dL_isBest_12 (by exact Nat.le_of_ble_eq_true rfl) okp_i ?_
  refine pw_iconst (0) dL_isBest_13 (by decide) ?_
  refine t_istore4 dL_isBest_14 (by exact Nat.le_of_ble_eq_true rfl) okp_i ?_
  refine pw_iconst (0) dL_isBest_16 (by decide) ?_
  refine t_istore5 dL_isBest_17 (by exact Nat.le_of_ble_eq_true rfl) okp_i ?_
  refine pw_bipush (60) dL_isBest_19 (by decide) ?_
  refine t_istore6 dL_isBest_21 (by exact Nat.le_of_ble_eq_true rfl) okp_i ?_
  exact loop 14 0 0 0 _ _ _ _ _ _ _ _ rfl hT0 (bm_bs hW.1 hW.2.2) (Or.inl rfl)
set_option maxHeartbeats 4000000 in
set_option maxRecDepth 100000 in
theorem H_isGround {l : Launch} (hlt : l.stackTraces = false) {im : TI} {rm : TP} {lm : TL} {Z : TI × TP} {S : CS} {n : Nat} {T : Nat → CS} {sn : Option CS} {bl : Nat} {B : Nat → Int32} (hTS : TS Z S n T sn bl B im rm) (hW : WF S) {x : Int32} : Con l m_L_isGround 10 0 0 NN [pv (some 0), .int (x)] im rm lm (QK lm Z S sn bl B) noX := by
  refine Con.ofN (k := 3) (L0 := [some (pv (some 0)), some (.int (x)), none, none, none]) hlt (by decide +kernel) rfl rfl (by rw [en1 pv_cat, en1 rfl, en0]; exact Nat.le_of_ble_eq_true rfl) (by rw [en1 pv_cat, en1 rfl, en0]; rfl) ?_
  have hI := hW.1.1
  have hn6 := hTS.n6
  rcases mo_ex hI (S := S) (x := x) with hno | ⟨m, p, hm, hp, hx⟩
  · refine t_aload0 dL_isGround_0 ?_
    refine t_iload1 dL_isGround_1 ?_
    refine g_callV1G (Q_ground (l := l) hlt hTS (x := x) (y := -1) (by unfold gbS; rw [hno]; rfl)) rfl ft4 rfl mc_X4_groundIn ml_L_76 mi_X4_groundIn ms_X4_groundIn in_X4 (okc_X4_groundIn (by decide)) dL_isGround_2 kdT (cat_le (Nat.le_of_ble_eq_true rfl)) (fun _ _ _ _ h => h.elim) (by decide) (fun zv2 zim2 zrm2 zlm2 zh2 => ?_)
    obtain ⟨rfl, rfl, hT0⟩ := zh2
    refine t_istore2 dL_isGround_5 (by exact Nat.le_of_ble_eq_true rfl) okp_i ?_
    refine t_aload0 dL_isGround_6 ?_
    refine t_iload1 dL_isGround_7 ?_
    refine pw_iconst (0) dL_isGround_8 (by decide) ?_
    refine g_callV2P (Q_sackNo (l := l) hlt hT0 hno (v := 0) (a := 0) rfl (by decide)) rfl ft4 rfl mc_X4_sackOf ml_L_23 mi_X4_sackOf ms_X4_sackOf in_X4 (okc_X4_sackOf (by decide)) dL_isGround_9 kdT (cat_le (Nat.le_of_ble_eq_true rfl)) ?_
    refine pw_if_lt 19 dL_isGround_12 (by decide) (fun _ => ?_) (fun zz => absurd (show (-1 : Int32) < 0 by decide) zz)
    refine pw_iconst (0) dL_isGround_19 (by decide) ?_
    refine t_istore3 dL_isGround_20 (by exact Nat.le_of_ble_eq_true rfl) okp_i ?_
    refine t_iload3 dL_isGround_21 ?_
    refine pw_if_eq 29 dL_isGround_22 (by decide) (fun _ => ?_) (fun h => absurd (by decide) h)
    refine t_iload3 dL_isGround_29 ?_
    refine pw_if_ne 38 dL_isGround_30 (by decide) (fun h => absurd h (by decide)) (fun _ => ?_)
    refine t_iload2 dL_isGround_33 ?_
    refine pw_iconst (-1) dL_isGround_34 (by decide) ?_
    refine pw_icmp_ne 42 dL_isGround_35 (by decide) (fun zz => absurd rfl zz) (fun _ => ?_)
    refine pw_iconst (1) dL_isGround_38 (by decide) ?_
    refine pw_goto 43 dL_isGround_39 (by decide) ?_
    refine pw_zret dL_isGround_43 rfl ?_ ?_
    · first | rfl | exact bI_n
    · exact ⟨rfl, rfl, rfl, _, _, hT0⟩
  · have ha : ats S m p x := ⟨hm, hp, hx⟩
    have n0 : ∀ {k : Nat}, k < 5 → ¬ nI k < 0 := fun h => nI_pos (by omega)
    cases hg : gbS S x with
    | none =>
      refine t_aload0 dL_isGround_0 ?_
      refine t_iload1 dL_isGround_1 ?_
      refine g_callV1G (Q_ground (l := l) hlt hTS (x := x) (y := -1) (by rw [hg]; rfl)) rfl ft4 rfl mc_X4_groundIn ml_L_76 mi_X4_groundIn ms_X4_groundIn in_X4 (okc_X4_groundIn (by decide)) dL_isGround_2 kdT (cat_le (Nat.le_of_ble_eq_true rfl)) (fun _ _ _ _ h => h.elim) (by decide) (fun zv2 zim2 zrm2 zlm2 zh2 => ?_)
      obtain ⟨rfl, rfl, hT0⟩ := zh2
      refine t_istore2 dL_isGround_5 (by exact Nat.le_of_ble_eq_true rfl) okp_i ?_
      refine t_aload0 dL_isGround_6 ?_
      refine t_iload1 dL_isGround_7 ?_
      refine pw_iconst (0) dL_isGround_8 (by decide) ?_
      refine g_callV2P (Q_skA (l := l) hlt hT0 hW ha (v := 0) (a := 0) (y := nI m) rfl (by decide) rfl) rfl ft4 rfl mc_X4_sackOf ml_L_23 mi_X4_sackOf ms_X4_sackOf in_X4 (okc_X4_sackOf (by decide)) dL_isGround_9 kdT (cat_le (Nat.le_of_ble_eq_true rfl)) ?_
      refine pw_if_lt 19 dL_isGround_12 (by decide) (fun zz => absurd zz (n0 hm)) (fun _ => ?_)
      refine pw_iconst (1) dL_isGround_15 (by decide) ?_
      refine pw_goto 20 dL_isGround_16 (by decide) ?_
      refine t_istore3 dL_isGround_20 (by exact Nat.le_of_ble_eq_true rfl) okp_i ?_
      refine t_iload3 dL_isGround_21 ?_
      refine pw_if_eq 29 dL_isGround_22 (by decide) (fun h => absurd h (by decide)) (fun _ => ?_)
      refine t_iload2 dL_isGround_25 ?_
      refine pw_if_ge 44 dL_isGround_26 (by decide) (fun zz => absurd zz (show ¬ (0 : Int32) ≤ -1 by decide)) (fun _ => ?_)
      refine t_iload3 dL_isGround_29 ?_
      refine pw_if_ne 38 dL_isGround_30 (by decide) (fun _ => ?_) (fun h => absurd (by decide) h)
      refine pw_iconst (1) dL_isGround_38 (by decide) ?_
      refine pw_goto 43 dL_isGround_39 (by decide) ?_
      refine pw_zret dL_isGround_43 rfl ?_ ?_
      · first | rfl | exact bI_n
      · exact ⟨rfl, rfl, rfl, _, _, hT0⟩
    | some h =>
      obtain ⟨g1, g2, g3, g4⟩ := gb_some hW ha hg
      by_cases h48 : 48 < h
      · have hW48 := hW.hours 48
        obtain ⟨⟨q, hq⟩, hgl⟩ := gb_later hW ha hg h48 (by decide)
        have esub : nI (h - 48) = nI h - 48 := by
          rw [← Int32.toInt_inj, Jvm.Kit.i32_sub (by rw [nI_toInt (by omega), show (48 : Int32).toInt = 48 by decide]; omega) (by rw [nI_toInt (by omega), show (48 : Int32).toInt = 48 by decide]; omega), nI_toInt (by omega), nI_toInt (by omega), show (48 : Int32).toInt = 48 by decide]
          omega
        refine t_aload0 dL_isGround_0 ?_
        refine t_iload1 dL_isGround_1 ?_
        refine g_callV1G (Q_ground (l := l) hlt hTS (x := x) (y := nI h) (by rw [hg]; rfl)) rfl ft4 rfl mc_X4_groundIn ml_L_76 mi_X4_groundIn ms_X4_groundIn in_X4 (okc_X4_groundIn (by decide)) dL_isGround_2 kdT (cat_le (Nat.le_of_ble_eq_true rfl)) (fun _ _ _ _ h => h.elim) (by decide) (fun zv2 zim2 zrm2 zlm2 zh2 => ?_)
        obtain ⟨rfl, rfl, hT0⟩ := zh2
        refine t_istore2 dL_isGround_5 (by exact Nat.le_of_ble_eq_true rfl) okp_i ?_
        refine t_aload0 dL_isGround_6 ?_
        refine t_iload1 dL_isGround_7 ?_
        refine pw_iconst (0) dL_isGround_8 (by decide) ?_
        refine g_callV2P (Q_skA (l := l) hlt hT0 hW ha (v := 0) (a := 0) (y := nI m) rfl (by decide) rfl) rfl ft4 rfl mc_X4_sackOf ml_L_23 mi_X4_sackOf ms_X4_sackOf in_X4 (okc_X4_sackOf (by decide)) dL_isGround_9 kdT (cat_le (Nat.le_of_ble_eq_true rfl)) ?_
        refine pw_if_lt 19 dL_isGround_12 (by decide) (fun zz => absurd zz (n0 hm)) (fun _ => ?_)
        refine pw_iconst (1) dL_isGround_15 (by decide) ?_
        refine pw_goto 20 dL_isGround_16 (by decide) ?_
        refine t_istore3 dL_isGround_20 (by exact Nat.le_of_ble_eq_true rfl) okp_i ?_
        refine t_iload3 dL_isGround_21 ?_
        refine pw_if_eq 29 dL_isGround_22 (by decide) (fun h => absurd h (by decide)) (fun _ => ?_)
        refine t_iload2 dL_isGround_25 ?_
        refine pw_if_ge 44 dL_isGround_26 (by decide) (fun _ => ?_) (fun zz => absurd (nI_pos' (n := h) (by omega)) zz)
        refine t_iload2 dL_isGround_44 ?_
        refine pw_bipush (48) dL_isGround_45 (by decide) ?_
        refine pw_icmp_le 100 dL_isGround_47 (by decide) (fun zz => absurd zz (nI_ge (a := 48) (b := h) h48 (by omega))) (fun _ => ?_)
        refine t_iload2 dL_isGround_50 ?_
        refine pw_sipush (200) dL_isGround_51 (by decide) ?_
        refine pw_icmp_gt 98 dL_isGround_54 (by decide) (fun zz => absurd zz (nI_nlt (a := 200) (b := h) g2 (by decide))) (fun _ => ?_)
        refine t_aload0 dL_isGround_57 ?_
        refine pw_bipush (48) dL_isGround_58 (by decide) ?_
        refine g_callV1G (Q_pass (l := l) hlt hT0 (N := 48) (x := 48) rfl (by decide) (by decide)) rfl ft4 rfl mc_X4_pass ml_L_59 mi_X4_pass ms_X4_pass in_X4 (okc_X4_pass (by decide)) dL_isGround_60 kdT (cat_le (Nat.le_of_ble_eq_true rfl)) (fun _ _ _ _ h => h.elim) (by decide) (fun zv60 zim60 zrm60 zlm60 zh60 => ?_)
        obtain ⟨rfl, rfl, hT1⟩ := zh60
        refine pw_if_lt 98 dL_isGround_63 (by decide) (fun zz => absurd zz (hW.up 48)) (fun _ => ?_)
        refine t_aload0 dL_isGround_66 ?_
        refine t_iload1 dL_isGround_67 ?_
        refine pw_iconst (0) dL_isGround_68 (by decide) ?_
        refine g_callV2P (Q_skA (l := l) hlt hT1 hW48 hq (v := 0) (a := 0) (y := nI m) rfl (by decide) rfl) rfl ft4 rfl mc_X4_sackOf ml_L_23 mi_X4_sackOf ms_X4_sackOf in_X4 (okc_X4_sackOf (by decide)) dL_isGround_69 kdT (cat_le (Nat.le_of_ble_eq_true rfl)) ?_
        refine pw_if_lt 98 dL_isGround_72 (by decide) (fun zz => absurd zz (n0 hm)) (fun _ => ?_)
        refine t_aload0 dL_isGround_75 ?_
        refine t_iload1 dL_isGround_76 ?_
        refine g_callV1G (Q_ground (l := l) hlt hT1 (x := x) (y := nI (h - 48)) (by rw [hgl]; rfl)) rfl ft4 rfl mc_X4_groundIn ml_L_76 mi_X4_groundIn ms_X4_groundIn in_X4 (okc_X4_groundIn (by decide)) dL_isGround_77 kdT (cat_le (Nat.le_of_ble_eq_true rfl)) (fun _ _ _ _ h => h.elim) (by decide) (fun zv77 zim77 zrm77 zlm77 zh77 => ?_)
        obtain ⟨rfl, rfl, hT2⟩ := zh77
        refine t_iload2 dL_isGround_80 ?_
        refine pw_bipush (48) dL_isGround_81 (by decide) ?_
        refine pw_isub dL_isGround_83 ?_
        refine pw_icmp_ne 98 dL_isGround_84 (by decide) (fun zz => absurd esub zz) (fun _ => ?_)
        refine t_aload0 dL_isGround_87 ?_
        refine g_callV0G (Q_undo (l := l) hlt hT2 sh_pos (sh_top hn6)) rfl ft4 rfl mc_X4_undo ml_L_73 mi_X4_undo ms_X4_undo in_X4 (okc_X4_undo (by decide)) dL_isGround_88 kdT (cat_le (Nat.le_of_ble_eq_true rfl)) (fun _ _ _ _ h => h.elim) (by decide) (fun zv88 zim88 zrm88 zlm88 zh88 => ?_)
        obtain ⟨rfl, rfl, hT3⟩ := zh88
        refine pw_if_lt 98 dL_isGround_91 (by decide) (fun zz => absurd zz (nI_pos (by have := hT2.n6; omega))) (fun _ => ?_)
        refine pw_iconst (1) dL_isGround_94 (by decide) ?_
        refine pw_goto 99 dL_isGround_95 (by decide) ?_
        refine pw_zret dL_isGround_99 rfl ?_ ?_
        · first | rfl | exact bI_n
        · exact ⟨rfl, rfl, rfl, _, _, hT3⟩
      · by_cases h1 : h = 1
        · refine t_aload0 dL_isGround_0 ?_
          refine t_iload1 dL_isGround_1 ?_
          refine g_callV1G (Q_ground (l := l) hlt hTS (x := x) (y := nI h) (by rw [hg]; rfl)) rfl ft4 rfl mc_X4_groundIn ml_L_76 mi_X4_groundIn ms_X4_groundIn in_X4 (okc_X4_groundIn (by decide)) dL_isGround_2 kdT (cat_le (Nat.le_of_ble_eq_true rfl)) (fun _ _ _ _ h => h.elim) (by decide) (fun zv2 zim2 zrm2 zlm2 zh2 => ?_)
          obtain ⟨rfl, rfl, hT0⟩ := zh2
          refine t_istore2 dL_isGround_5 (by exact Nat.le_of_ble_eq_true rfl) okp_i ?_
          refine t_aload0 dL_isGround_6 ?_
          refine t_iload1 dL_isGround_7 ?_
          refine pw_iconst (0) dL_isGround_8 (by decide) ?_
          refine g_callV2P (Q_skA (l := l) hlt hT0 hW ha (v := 0) (a := 0) (y := nI m) rfl (by decide) rfl) rfl ft4 rfl mc_X4_sackOf ml_L_23 mi_X4_sackOf ms_X4_sackOf in_X4 (okc_X4_sackOf (by decide)) dL_isGround_9 kdT (cat_le (Nat.le_of_ble_eq_true rfl)) ?_
          refine pw_if_lt 19 dL_isGround_12 (by decide) (fun zz => absurd zz (n0 hm)) (fun _ => ?_)
          refine pw_iconst (1) dL_isGround_15 (by decide) ?_
          refine pw_goto 20 dL_isGround_16 (by decide) ?_
          refine t_istore3 dL_isGround_20 (by exact Nat.le_of_ble_eq_true rfl) okp_i ?_
          refine t_iload3 dL_isGround_21 ?_
          refine pw_if_eq 29 dL_isGround_22 (by decide) (fun h => absurd h (by decide)) (fun _ => ?_)
          refine t_iload2 dL_isGround_25 ?_
          refine pw_if_ge 44 dL_isGround_26 (by decide) (fun _ => ?_) (fun zz => absurd (nI_pos' (n := h) (by omega)) zz)
          refine t_iload2 dL_isGround_44 ?_
          refine pw_bipush (48) dL_isGround_45 (by decide) ?_
          refine pw_icmp_le 100 dL_isGround_47 (by decide) (fun _ => ?_) (fun zz => absurd (nI_le (a := h) (b := 48) (by omega) (by decide)) zz)
          refine t_aload0 dL_isGround_100 ?_
          refine t_iload2 dL_isGround_101 ?_
          refine g_callV1G (Q_pass (l := l) hlt hT0 (N := h) (x := nI h) rfl g1 (by omega)) rfl ft4 rfl mc_X4_pass ml_L_59 mi_X4_pass ms_X4_pass in_X4 (okc_X4_pass (by decide)) dL_isGround_102 kdT (cat_le (Nat.le_of_ble_eq_true rfl)) (fun _ _ _ _ h => h.elim) (by decide) (fun zv102 zim102 zrm102 zlm102 zh102 => ?_)
          obtain ⟨rfl, rfl, hT1⟩ := zh102
          refine pw_if_le 129 dL_isGround_105 (by decide) (fun zz => absurd zz (gr_up hW ha.no (po_none.mp g3))) (fun _ => ?_)
          refine t_aload0 dL_isGround_108 ?_
          refine t_iload1 dL_isGround_109 ?_
          refine pw_iconst (0) dL_isGround_110 (by decide) ?_
          refine g_callV2P (Q_sackNo (l := l) hlt hT1 (gb_gone hW ha g3) (v := 0) (a := 0) rfl (by decide)) rfl ft4 rfl mc_X4_sackOf ml_L_23 mi_X4_sackOf ms_X4_sackOf in_X4 (okc_X4_sackOf (by decide)) dL_isGround_111 kdT (cat_le (Nat.le_of_ble_eq_true rfl)) ?_
          refine pw_iconst (-1) dL_isGround_114 (by decide) ?_
          refine pw_icmp_ne 129 dL_isGround_115 (by decide) (fun zz => absurd rfl zz) (fun _ => ?_)
          refine t_aload0 dL_isGround_118 ?_
          refine g_callV0G (Q_undo (l := l) hlt hT1 sh_pos (sh_top hn6)) rfl ft4 rfl mc_X4_undo ml_L_73 mi_X4_undo ms_X4_undo in_X4 (okc_X4_undo (by decide)) dL_isGround_119 kdT (cat_le (Nat.le_of_ble_eq_true rfl)) (fun _ _ _ _ h => h.elim) (by decide) (fun zv119 zim119 zrm119 zlm119 zh119 => ?_)
          obtain ⟨rfl, rfl, hT3⟩ := zh119
          refine pw_if_lt 129 dL_isGround_122 (by decide) (fun zz => absurd zz (nI_pos (by have := hT1.n6; omega))) (fun _ => ?_)
          refine pw_iconst (1) dL_isGround_125 (by decide) ?_
          refine pw_goto 130 dL_isGround_126 (by decide) ?_
          refine t_istore4 dL_isGround_130 (by exact Nat.le_of_ble_eq_true rfl) okp_i ?_
          refine t_iload4 dL_isGround_132 ?_
          refine pw_if_eq 172 dL_isGround_134 (by decide) (fun h => absurd h (by decide)) (fun _ => ?_)
          refine t_iload2 dL_isGround_137 ?_
          refine pw_iconst (1) dL_isGround_138 (by decide) ?_
          refine pw_icmp_eq 168 dL_isGround_139 (by decide) (fun _ => ?_) (fun zz => absurd (show nI h = 1 by rw [h1]; rfl) zz)
          refine pw_iconst (1) dL_isGround_168 (by decide) ?_
          refine pw_goto 173 dL_isGround_169 (by decide) ?_
          refine pw_zret dL_isGround_173 rfl ?_ ?_
          · first | rfl | exact bI_n
          · exact ⟨rfl, rfl, rfl, _, _, hT3⟩
        · obtain ⟨q, hq⟩ := po_ats (hW.hours (h - 1)) hm (g4 (h - 1) (by omega) (by omega))
          refine t_aload0 dL_isGround_0 ?_
          refine t_iload1 dL_isGround_1 ?_
          refine g_callV1G (Q_ground (l := l) hlt hTS (x := x) (y := nI h) (by rw [hg]; rfl)) rfl ft4 rfl mc_X4_groundIn ml_L_76 mi_X4_groundIn ms_X4_groundIn in_X4 (okc_X4_groundIn (by decide)) dL_isGround_2 kdT (cat_le (Nat.le_of_ble_eq_true rfl)) (fun _ _ _ _ h => h.elim) (by decide) (fun zv2 zim2 zrm2 zlm2 zh2 => ?_)
          obtain ⟨rfl, rfl, hT0⟩ := zh2
          refine t_istore2 dL_isGround_5 (by exact Nat.le_of_ble_eq_true rfl) okp_i ?_
          refine t_aload0 dL_isGround_6 ?_
          refine t_iload1 dL_isGround_7 ?_
          refine pw_iconst (0) dL_isGround_8 (by decide) ?_
          refine g_callV2P (Q_skA (l := l) hlt hT0 hW ha (v := 0) (a := 0) (y := nI m) rfl (by decide) rfl) rfl ft4 rfl mc_X4_sackOf ml_L_23 mi_X4_sackOf ms_X4_sackOf in_X4 (okc_X4_sackOf (by decide)) dL_isGround_9 kdT (cat_le (Nat.le_of_ble_eq_true rfl)) ?_
          refine pw_if_lt 19 dL_isGround_12 (by decide) (fun zz => absurd zz (n0 hm)) (fun _ => ?_)
          refine pw_iconst (1) dL_isGround_15 (by decide) ?_
          refine pw_goto 20 dL_isGround_16 (by decide) ?_
          refine t_istore3 dL_isGround_20 (by exact Nat.le_of_ble_eq_true rfl) okp_i ?_
          refine t_iload3 dL_isGround_21 ?_
          refine pw_if_eq 29 dL_isGround_22 (by decide) (fun h => absurd h (by decide)) (fun _ => ?_)
          refine t_iload2 dL_isGround_25 ?_
          refine pw_if_ge 44 dL_isGround_26 (by decide) (fun _ => ?_) (fun zz => absurd (nI_pos' (n := h) (by omega)) zz)
          refine t_iload2 dL_isGround_44 ?_
          refine pw_bipush (48) dL_isGround_45 (by decide) ?_
          refine pw_icmp_le 100 dL_isGround_47 (by decide) (fun _ => ?_) (fun zz => absurd (nI_le (a := h) (b := 48) (by omega) (by decide)) zz)
          refine t_aload0 dL_isGround_100 ?_
          refine t_iload2 dL_isGround_101 ?_
          refine g_callV1G (Q_pass (l := l) hlt hT0 (N := h) (x := nI h) rfl g1 (by omega)) rfl ft4 rfl mc_X4_pass ml_L_59 mi_X4_pass ms_X4_pass in_X4 (okc_X4_pass (by decide)) dL_isGround_102 kdT (cat_le (Nat.le_of_ble_eq_true rfl)) (fun _ _ _ _ h => h.elim) (by decide) (fun zv102 zim102 zrm102 zlm102 zh102 => ?_)
          obtain ⟨rfl, rfl, hT1⟩ := zh102
          refine pw_if_le 129 dL_isGround_105 (by decide) (fun zz => absurd zz (gr_up hW ha.no (po_none.mp g3))) (fun _ => ?_)
          refine t_aload0 dL_isGround_108 ?_
          refine t_iload1 dL_isGround_109 ?_
          refine pw_iconst (0) dL_isGround_110 (by decide) ?_
          refine g_callV2P (Q_sackNo (l := l) hlt hT1 (gb_gone hW ha g3) (v := 0) (a := 0) rfl (by decide)) rfl ft4 rfl mc_X4_sackOf ml_L_23 mi_X4_sackOf ms_X4_sackOf in_X4 (okc_X4_sackOf (by decide)) dL_isGround_111 kdT (cat_le (Nat.le_of_ble_eq_true rfl)) ?_
          refine pw_iconst (-1) dL_isGround_114 (by decide) ?_
          refine pw_icmp_ne 129 dL_isGround_115 (by decide) (fun zz => absurd rfl zz) (fun _ => ?_)
          refine t_aload0 dL_isGround_118 ?_
          refine g_callV0G (Q_undo (l := l) hlt hT1 sh_pos (sh_top hn6)) rfl ft4 rfl mc_X4_undo ml_L_73 mi_X4_undo ms_X4_undo in_X4 (okc_X4_undo (by decide)) dL_isGround_119 kdT (cat_le (Nat.le_of_ble_eq_true rfl)) (fun _ _ _ _ h => h.elim) (by decide) (fun zv119 zim119 zrm119 zlm119 zh119 => ?_)
          obtain ⟨rfl, rfl, hT3⟩ := zh119
          refine pw_if_lt 129 dL_isGround_122 (by decide) (fun zz => absurd zz (nI_pos (by have := hT1.n6; omega))) (fun _ => ?_)
          refine pw_iconst (1) dL_isGround_125 (by decide) ?_
          refine pw_goto 130 dL_isGround_126 (by decide) ?_
          refine t_istore4 dL_isGround_130 (by exact Nat.le_of_ble_eq_true rfl) okp_i ?_
          refine t_iload4 dL_isGround_132 ?_
          refine pw_if_eq 172 dL_isGround_134 (by decide) (fun h => absurd h (by decide)) (fun _ => ?_)
          refine t_iload2 dL_isGround_137 ?_
          refine pw_iconst (1) dL_isGround_138 (by decide) ?_
          refine pw_icmp_eq 168 dL_isGround_139 (by decide) (fun zz => absurd zz (fun z => h1 ((nI_eq (b := 1) (by omega) (by decide)).mp z))) (fun _ => ?_)
          refine t_aload0 dL_isGround_142 ?_
          refine t_iload2 dL_isGround_143 ?_
          refine pw_iconst (1) dL_isGround_144 (by decide) ?_
          refine pw_isub dL_isGround_145 ?_
          rw [show nI h - 1 = nI (h - 1) by rw [show h = h - 1 + 1 by omega, nI_pred]; rfl]
          refine g_callV1G (Q_pass (l := l) hlt hT3 (N := h - 1) (x := nI (h - 1)) rfl (by omega) (by omega)) rfl ft4 rfl mc_X4_pass ml_L_59 mi_X4_pass ms_X4_pass in_X4 (okc_X4_pass (by decide)) dL_isGround_146 kdT (cat_le (Nat.le_of_ble_eq_true rfl)) (fun _ _ _ _ h => h.elim) (by decide) (fun zv146 zim146 zrm146 zlm146 zh146 => ?_)
          obtain ⟨rfl, rfl, hT4⟩ := zh146
          refine pw_if_lt 172 dL_isGround_149 (by decide) (fun zz => absurd zz (hW.up (h - 1))) (fun _ => ?_)
          refine t_aload0 dL_isGround_152 ?_
          refine t_iload1 dL_isGround_153 ?_
          refine pw_iconst (0) dL_isGround_154 (by decide) ?_
          refine g_callV2P (Q_skA (l := l) hlt hT4 (hW.hours (h - 1)) hq (v := 0) (a := 0) (y := nI m) rfl (by decide) rfl) rfl ft4 rfl mc_X4_sackOf ml_L_23 mi_X4_sackOf ms_X4_sackOf in_X4 (okc_X4_sackOf (by decide)) dL_isGround_155 kdT (cat_le (Nat.le_of_ble_eq_true rfl)) ?_
          refine pw_if_lt 172 dL_isGround_158 (by decide) (fun zz => absurd zz (n0 hm)) (fun _ => ?_)
          refine t_aload0 dL_isGround_161 ?_
          refine g_callV0G (Q_undo (l := l) hlt hT4 sh_pos (sh_top hT3.n6)) rfl ft4 rfl mc_X4_undo ml_L_73 mi_X4_undo ms_X4_undo in_X4 (okc_X4_undo (by decide)) dL_isGround_162 kdT (cat_le (Nat.le_of_ble_eq_true rfl)) (fun _ _ _ _ h => h.elim) (by decide) (fun zv162 zim162 zrm162 zlm162 zh162 => ?_)
          obtain ⟨rfl, rfl, hT5⟩ := zh162
          refine pw_if_lt 172 dL_isGround_165 (by decide) (fun zz => absurd zz (nI_pos (by have := hT4.n6; omega))) (fun _ => ?_)
          refine pw_iconst (1) dL_isGround_168 (by decide) ?_
          refine pw_goto 173 dL_isGround_169 (by decide) ?_
          refine pw_zret dL_isGround_173 rfl ?_ ?_
          · first | rfl | exact bI_n
          · exact ⟨rfl, rfl, rfl, _, _, hT5⟩

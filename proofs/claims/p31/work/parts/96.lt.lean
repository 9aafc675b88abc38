/-! The law: an act, by its cases -/
def QA (e bl : Nat) (B : Nat → Int32) (lm : TL) : TQ := QG (fun v i r q => v = some (.int 1) ∧ q = lm ∧ ∃ S2 n T sn, PI (e + 1) S2 ∧ TS (fun _ _ => 0, fun _ _ => none) S2 n T sn bl B i r)
section Q36
variable {l : Launch} {im : TI} {rm : TP} {lm : TL} {Z : TI × TP} {S : CS} {n : Nat} {T : Nat → CS} {sn : Option CS} {bl : Nat} {B : Nat → Int32}
theorem Q_pond (hlt : l.stackTraces = false) (hTS : TS Z S n T sn bl B im rm) {m : Nat} {x a b : Int32} {S2 : CS} (hm : m < 5) (hx : x = nI m) (ha : (50 : Int32) ≤ a ∧ a ≤ 500) (hb : (0 : Int32) ≤ b ∧ b ≤ 60) (hw : S.2.1 m 1 ≤ a) (hS : upF (upF S m 0 a) m 2 b = S2) : Con l m_X4_pond 8 0 0 NN [pv (some 0), .int x, .int a, .int b] im rm lm (QT (S.2.1 m 0) lm Z S2 (shN n) (shT n T S) sn bl B) noX := by
  subst hx; subst hS
  exact C_pond hlt hTS (maO_nI hm) ha hb hw
theorem Q_gate (hlt : l.stackTraces = false) (hTS : TS Z S n T sn bl B im rm) {m : Nat} {x a b : Int32} {S2 : CS} (hm : m < 5) (hx : x = nI m) (ha : (0 : Int32) ≤ a ∧ a ≤ 11) (hb : a ≤ b ∧ b ≤ 11) (hS : upF (upF S m 3 a) m 4 b = S2) : Con l m_X4_gate 8 0 0 NN [pv (some 0), .int x, .int a, .int b] im rm lm (QT (S.2.1 m 4 - S.2.1 m 3 + 1) lm Z S2 (shN n) (shT n T S) sn bl B) noX := by
  subst hx; subst hS
  exact C_gate hlt hTS (maO_nI hm) ha hb
theorem Q_set0 (hlt : l.stackTraces = false) (hTS : TS Z S n T sn bl B im rm) {x a : Int32} (hx : x = 0) (ha : (1 : Int32) ≤ a ∧ a ≤ 15) : Con l m_X4_set 8 0 0 NN [pv (some 0), .int x, .int a] im rm lm (QT (S.1 9) lm Z (upG S 9 a) (shN n) (shT n T S) sn bl B) noX := by
  subst hx
  exact C_set0 hlt hTS ha
theorem Q_set1 (hlt : l.stackTraces = false) (hTS : TS Z S n T sn bl B im rm) {x a : Int32} (hx : x = 1) (ha : (0 : Int32) ≤ a ∧ a ≤ 100) : Con l m_X4_set 8 0 0 NN [pv (some 0), .int x, .int a] im rm lm (QT (S.1 10) lm Z (upG S 10 a) (shN n) (shT n T S) sn bl B) noX := by
  subst hx
  exact C_set1 hlt hTS ha
theorem Q_set2 (hlt : l.stackTraces = false) (hTS : TS Z S n T sn bl B im rm) {x a : Int32} (hx : x = 2) (ha : (5 : Int32) ≤ a ∧ a ≤ 100) : Con l m_X4_set 8 0 0 NN [pv (some 0), .int x, .int a] im rm lm (QT (S.1 11) lm Z (upG S 11 a) (shN n) (shT n T S) sn bl B) noX := by
  subst hx
  exact C_set2 hlt hTS ha
theorem Q_sack (hlt : l.stackTraces = false) (hTS : TS Z S n T sn bl B im rm) {m : Nat} {x a b : Int32} (hm : m < 5) (hx : x = nI m) (ha : (1 : Int32) ≤ a ∧ a ≤ 999) (hb : (1 : Int32) ≤ b ∧ b ≤ 9999) (hw : hrP S m) : Con l m_X4_sack 8 0 0 NN [pv (some 0), .int x, .int a, .int b] im rm lm (QT (S.1 5) lm Z (brS S m a b) (shN n) (shT n T S) sn bl B) noX := by
  subst hx
  exact C_sack hlt hTS (maO_nI hm) ha hb hw
def caS (S : CS) (m t p : Nat) : CS := dpS (inS S t (cnt S t) (plS S t (S.2.2 m p 0) (S.2.2 m p 3)) (S.2.2 m p 0) (S.2.2 m p 1) (S.2.2 m p 2) (S.2.2 m p 3)) m p (cnt S m)
theorem Q_carry (hlt : l.stackTraces = false) (hTS : TS Z S n T sn bl B im rm) (hW : WF S) {m t p : Nat} {z : Int32} (hm : m < 5) (ht : t < 5) (hp : p < cnt S m) (hz : z = nI t) (hne : ¬ m = t) (hw : cnt S t < 6) : Con l m_X4_carry 8 0 0 NN [pv (some 0), .int (S.2.2 m p 0), .int z] im rm lm (QT (nI (plS S t (S.2.2 m p 0) (S.2.2 m p 3))) lm Z (caS S m t p) (shN n) (shT n T S) sn bl B) noX := by
  subst hz
  have h := C_carry (lm := lm) hlt hTS (maO_nI ht) (mo_at hW.1.1 hW.nus hm hp) (po_at hW.nus hm hp) hne (by rw [(hW.1.1.c ht).2]; exact nI_lt (b := 6) hw (by decide))
  rw [inS_cnt hne] at h
  exact h
theorem Q_back (hlt : l.stackTraces = false) (hTS : TS Z S n T sn bl B im rm) (hW : WF S) {m p : Nat} (hm : m < 5) (hp : p < cnt S m) : Con l m_X4_back 8 0 0 NN [pv (some 0), .int (S.2.2 m p 0)] im rm lm (QT (S.2.2 m p 2) lm Z (upG (dpS S m p (cnt S m)) 8 ((dpS S m p (cnt S m)).1 8 + 1)) (shN n) (shT n T S) sn bl B) noX := C_back hlt hTS (mo_at hW.1.1 hW.nus hm hp) (po_at hW.nus hm hp)
theorem Q_keep (hlt : l.stackTraces = false) (hTS : TS Z S n T sn bl B im rm) : Con l m_X4_keep 8 0 0 NN [pv (some 0)] im rm lm (QT (S.1 0) lm Z S n T (some S) bl B) noX := C_keep hlt hTS
theorem Q_restore (hlt : l.stackTraces = false) {s : CS} (hTS : TS Z S n T (some s) bl B im rm) : Con l m_X4_restore 8 0 0 NN [pv (some 0)] im rm lm (QT (s.1 0) lm Z s (shN n) (shT n T S) (some s) bl B) noX := C_restore hlt hTS rfl
end Q36
set_option maxHeartbeats 8000000 in
set_option maxRecDepth 100000 in
theorem A_pond {l : Launch} (hlt : l.stackTraces = false) {im : TI} {rm : TP} {lm : TL} {S : CS} {n : Nat} {T : Nat → CS} {sn : Option CS} {bl : Nat} {B : Nat → Int32} (hTS : TS (fun _ _ => 0, fun _ _ => none) S n T sn bl B im rm) (hl : lm = fun _ _ => 0) {e : Nat} (he : e < 40) (hP : PI e S) {m : Nat} (hm : m < 5) {v w : Int32} : PW l m_L_act 11 3 14 NN 80 [some (pv (some 0)), some (.int v), some (.int w), some (.int (nI m)), none, none, none] [] im rm lm (QA e bl B lm) noX := by
  obtain ⟨hW, hB, c, hh, hc40, hh40, e5, e0⟩ := id hP
  obtain ⟨⟨a1, a2⟩, ⟨b1, b2⟩, -⟩ := hW.2.2.2.1 m hm
  obtain ⟨f, hf, ef⟩ := nI_of2 (n := 500) (M := 500) (by decide) (hW.wat hm).1 (by rw [Int32.le_iff_toInt_le, show (500 : Int32).toInt = 500 by decide]; omega)
  have tail : ∀ (cap : Int32) (z4 : Int32), (50 : Int32) ≤ cap ∧ cap ≤ 500 → S.2.1 m 1 ≤ cap → PW l m_L_act 11 3 14 NN 125 [some (pv (some 0)), some (.int v), some (.int w), some (.int (nI m)), some (.int z4), none, none] [.int cap] im rm lm (QA e bl B lm) noX := by
    intro cap z4 hcap hwc
    refine t_istore4 dL_act_125 (by exact Nat.le_of_ble_eq_true rfl) okp_i ?_
    refine t_aload0 dL_act_127 ?_
    refine t_iload3 dL_act_128 ?_
    refine pw_iconst (0) dL_act_129 (by decide) ?_
    refine g_callV2P (Q_mill (l := l) hlt hTS (m := m) (x := nI m) (a := 0) (v := 0) hm rfl rfl (by decide) (y := S.2.1 m 0) rfl) rfl ft4 rfl mc_X4_mill ml_L_10 mi_X4_mill ms_X4_mill in_X4 (okc_X4_mill (by decide)) dL_act_130 kdT (cat_le (Nat.le_of_ble_eq_true rfl)) ?_
    refine t_istore5 dL_act_133 (by exact Nat.le_of_ble_eq_true rfl) okp_i ?_
    refine t_aload0 dL_act_135 ?_
    refine t_iload3 dL_act_136 ?_
    refine t_iload4 dL_act_137 ?_
    refine t_iload2 dL_act_139 ?_
    refine pw_iconst (4) dL_act_140 (by decide) ?_
    refine pw_ishr dL_act_141 ?_
    refine pw_bipush (61) dL_act_142 (by decide) ?_
    refine g_low 61 hlt rfl (by decide) (by decide) ml_L_79 (by decide) dL_act_144 (cat_le (Nat.le_of_ble_eq_true rfl)) (fun q144 eq144 hq144 => ?_)
    have hb : (0 : Int32) ≤ nI q144 ∧ nI q144 ≤ 60 := ⟨nI_pos' (by omega), nI_le (b := 60) (by omega) (by decide)⟩
    refine g_callV3G (Q_pond (l := l) hlt hTS hm rfl hcap hb hwc rfl) rfl ft4 rfl mc_X4_pond ml_L_82 mi_X4_pond ms_X4_pond in_X4 (okc_X4_pond (by decide)) dL_act_147 kdT (cat_le (Nat.le_of_ble_eq_true rfl)) (fun _ _ _ _ h => h.elim) (by decide) (fun zv147 zim147 zrm147 zlm147 zh147 => ?_)
    obtain ⟨rfl, rfl, hT1⟩ := zh147
    refine t_iload5 dL_act_150 ?_
    refine pw_icmp_ne 187 dL_act_152 (by decide) (fun zz => absurd rfl zz) (fun _ => ?_)
    refine t_aload0 dL_act_155 ?_
    refine t_iload3 dL_act_156 ?_
    refine pw_iconst (0) dL_act_157 (by decide) ?_
    refine g_callV2P (Q_mill (l := l) hlt hT1 (m := m) (x := nI m) (a := 0) (v := 0) hm rfl rfl (by decide) (y := cap) (by show (upF (upF S m 0 cap) m 2 _).2.1 m 0 = cap; rw [uf_o (by decide), uf_at])) rfl ft4 rfl mc_X4_mill ml_L_10 mi_X4_mill ms_X4_mill in_X4 (okc_X4_mill (by decide)) dL_act_158 kdT (cat_le (Nat.le_of_ble_eq_true rfl)) ?_
    refine t_iload4 dL_act_161 ?_
    refine pw_icmp_ne 187 dL_act_163 (by decide) (fun zz => absurd rfl zz) (fun _ => ?_)
    refine t_aload0 dL_act_166 ?_
    refine t_iload3 dL_act_167 ?_
    refine pw_iconst (2) dL_act_168 (by decide) ?_
    refine g_callV2P (Q_mill (l := l) hlt hT1 (m := m) (x := nI m) (a := 2) (v := 2) hm rfl rfl (by decide) (y := nI q144) uf_at) rfl ft4 rfl mc_X4_mill ml_L_10 mi_X4_mill ms_X4_mill in_X4 (okc_X4_mill (by decide)) dL_act_169 kdT (cat_le (Nat.le_of_ble_eq_true rfl)) ?_
    refine t_iload2 dL_act_172 ?_
    refine pw_iconst (4) dL_act_173 (by decide) ?_
    refine pw_ishr dL_act_174 ?_
    refine pw_bipush (61) dL_act_175 (by decide) ?_
    refine g_low 61 hlt rfl (by decide) (by decide) ml_L_79 (by decide) dL_act_177 (cat_le (Nat.le_of_ble_eq_true rfl)) (fun q177 eq177 hq177 => ?_)
    refine pw_icmp_ne 187 dL_act_180 (by decide) (fun zz => absurd (by rw [eq144, eq177]) zz) (fun _ => ?_)
    refine pw_iconst (1) dL_act_183 (by decide) ?_
    refine pw_goto 188 dL_act_184 (by decide) ?_
    refine pw_zret dL_act_188 rfl ?_ ?_
    · first | rfl | exact bI_n
    · exact ⟨rfl, rfl, rfl, _, _, _, _, hP.up (hW.pond hcap hb hwc) ((hB.F (by decide)).F (by decide)) rfl rfl, hT1⟩
  refine t_aload0 dL_act_80 ?_
  refine t_iload3 dL_act_81 ?_
  refine pw_iconst (1) dL_act_82 (by decide) ?_
  refine g_callV2P (Q_mill (l := l) hlt hTS (m := m) (x := nI m) (a := 1) (v := 1) hm rfl rfl (by decide) (y := nI f) ef) rfl ft4 rfl mc_X4_mill ml_L_10 mi_X4_mill ms_X4_mill in_X4 (okc_X4_mill (by decide)) dL_act_83 kdT (cat_le (Nat.le_of_ble_eq_true rfl)) ?_
  refine t_iload2 dL_act_86 ?_
  refine pw_iconst (3) dL_act_87 (by decide) ?_
  refine pw_ishr dL_act_88 ?_
  refine pw_bipush (120) dL_act_89 (by decide) ?_
  refine g_low 120 hlt rfl (by decide) (by decide) ml_L_79 (by decide) dL_act_91 (cat_le (Nat.le_of_ble_eq_true rfl)) (fun q91 eq91 hq91 => ?_)
  refine pw_iadd dL_act_94 ?_
  rw [nI_add]
  refine t_istore4 dL_act_95 (by exact Nat.le_of_ble_eq_true rfl) okp_i ?_
  by_cases h1 : f + q91 < 50
  · refine t_iload4 dL_act_97 ?_
    refine pw_bipush (50) dL_act_99 (by decide) ?_
    refine pw_icmp_ge 109 dL_act_101 (by decide) (fun zz => absurd zz (nI_ge (a := f + q91) (b := 50) h1 (by decide))) (fun _ => ?_)
    refine pw_bipush (50) dL_act_104 (by decide) ?_
    refine pw_goto 125 dL_act_106 (by decide) ?_
    exact tail 50 _ ⟨by decide, by decide⟩ (by rw [ef]; exact nI_le (b := 50) (by omega) (by decide))
  · by_cases h2 : 500 < f + q91
    · refine t_iload4 dL_act_97 ?_
      refine pw_bipush (50) dL_act_99 (by decide) ?_
      refine pw_icmp_ge 109 dL_act_101 (by decide) (fun _ => ?_) (fun zz => absurd (nI_le (a := 50) (by omega) (by omega)) zz)
      refine t_iload4 dL_act_109 ?_
      refine pw_sipush (500) dL_act_111 (by decide) ?_
      refine pw_icmp_le 123 dL_act_114 (by decide) (fun zz => absurd zz (nI_ge (a := 500) h2 (by omega))) (fun _ => ?_)
      refine pw_sipush (500) dL_act_117 (by decide) ?_
      refine pw_goto 125 dL_act_120 (by decide) ?_
      exact tail 500 _ ⟨by decide, by decide⟩ (by rw [ef]; exact nI_le (b := 500) hf (by decide))
    · refine t_iload4 dL_act_97 ?_
      refine pw_bipush (50) dL_act_99 (by decide) ?_
      refine pw_icmp_ge 109 dL_act_101 (by decide) (fun _ => ?_) (fun zz => absurd (nI_le (a := 50) (by omega) (by omega)) zz)
      refine t_iload4 dL_act_109 ?_
      refine pw_sipush (500) dL_act_111 (by decide) ?_
      refine pw_icmp_le 123 dL_act_114 (by decide) (fun _ => ?_) (fun zz => absurd (nI_le (b := 500) (by omega) (by decide)) zz)
      refine t_iload4 dL_act_123 ?_
      exact tail (nI (f + q91)) _ ⟨nI_le (a := 50) (by omega) (by omega), nI_le (b := 500) (by omega) (by decide)⟩ (by rw [ef]; exact nI_le (by omega) (by omega))
set_option maxHeartbeats 8000000 in
set_option maxRecDepth 100000 in
theorem A_gate {l : Launch} (hlt : l.stackTraces = false) {im : TI} {rm : TP} {lm : TL} {S : CS} {n : Nat} {T : Nat → CS} {sn : Option CS} {bl : Nat} {B : Nat → Int32} (hTS : TS (fun _ _ => 0, fun _ _ => none) S n T sn bl B im rm) (hl : lm = fun _ _ => 0) {e : Nat} (he : e < 40) (hP : PI e S) {m : Nat} (hm : m < 5) {v w : Int32} : PW l m_L_act 11 3 14 NN 189 [some (pv (some 0)), some (.int v), some (.int w), some (.int (nI m)), none, none, none] [] im rm lm (QA e bl B lm) noX := by
  obtain ⟨hW, hB, c, hh, hc40, hh40, e5, e0⟩ := id hP
  refine t_iload2 dL_act_189 ?_
  refine pw_iconst (3) dL_act_190 (by decide) ?_
  refine pw_ishr dL_act_191 ?_
  refine pw_bipush (12) dL_act_192 (by decide) ?_
  refine g_low 12 hlt rfl (by decide) (by decide) ml_L_79 (by decide) dL_act_194 (Nat.zero_le _) (fun q194 eq194 hq194 => ?_)
  refine t_istore4 dL_act_197 (by exact Nat.le_of_ble_eq_true rfl) okp_i ?_
  refine t_iload4 dL_act_199 ?_
  refine t_iload2 dL_act_201 ?_
  refine pw_bipush (7) dL_act_202 (by decide) ?_
  refine pw_ishr dL_act_204 ?_
  refine pw_bipush (12) dL_act_205 (by decide) ?_
  refine t_iload4 dL_act_207 ?_
  refine pw_isub dL_act_209 ?_
  rw [show (12 : Int32) - nI q194 = nI (12 - q194) from nI_subN (a := 12) (by omega) (by decide)]
  refine g_low (12 - q194) hlt rfl (by omega) (by omega) ml_L_79 (by decide) dL_act_210 (cat_le (Nat.le_of_ble_eq_true rfl)) (fun q210 eq210 hq210 => ?_)
  refine pw_iadd dL_act_213 ?_
  rw [nI_add]
  have ha : (0 : Int32) ≤ nI q194 ∧ nI q194 ≤ 11 := ⟨nI_pos' (by omega), nI_le (b := 11) (by omega) (by decide)⟩
  have hb : nI q194 ≤ nI (q194 + q210) ∧ nI (q194 + q210) ≤ 11 := ⟨nI_le (by omega) (by omega), nI_le (b := 11) (by omega) (by decide)⟩
  refine t_istore5 dL_act_214 (by exact Nat.le_of_ble_eq_true rfl) okp_i ?_
  refine t_aload0 dL_act_216 ?_
  refine t_iload3 dL_act_217 ?_
  refine pw_iconst (4) dL_act_218 (by decide) ?_
  refine g_callV2P (Q_mill (l := l) hlt hTS (m := m) (x := nI m) (a := 4) (v := 4) hm rfl rfl (by decide) (y := S.2.1 m 4) rfl) rfl ft4 rfl mc_X4_mill ml_L_10 mi_X4_mill ms_X4_mill in_X4 (okc_X4_mill (by decide)) dL_act_219 kdT (cat_le (Nat.le_of_ble_eq_true rfl)) ?_
  refine t_aload0 dL_act_222 ?_
  refine t_iload3 dL_act_223 ?_
  refine pw_iconst (3) dL_act_224 (by decide) ?_
  refine g_callV2P (Q_mill (l := l) hlt hTS (m := m) (x := nI m) (a := 3) (v := 3) hm rfl rfl (by decide) (y := S.2.1 m 3) rfl) rfl ft4 rfl mc_X4_mill ml_L_10 mi_X4_mill ms_X4_mill in_X4 (okc_X4_mill (by decide)) dL_act_225 kdT (cat_le (Nat.le_of_ble_eq_true rfl)) ?_
  refine pw_isub dL_act_228 ?_
  refine pw_iconst (1) dL_act_229 (by decide) ?_
  refine pw_iadd dL_act_230 ?_
  refine t_istore6 dL_act_231 (by exact Nat.le_of_ble_eq_true rfl) okp_i ?_
  refine t_aload0 dL_act_233 ?_
  refine t_iload3 dL_act_234 ?_
  refine t_iload4 dL_act_235 ?_
  refine t_iload5 dL_act_237 ?_
  refine g_callV3G (Q_gate (l := l) hlt hTS hm rfl ha hb rfl) rfl ft4 rfl mc_X4_gate ml_L_85 mi_X4_gate ms_X4_gate in_X4 (okc_X4_gate (by decide)) dL_act_239 kdT (cat_le (Nat.le_of_ble_eq_true rfl)) (fun _ _ _ _ h => h.elim) (by decide) (fun zv239 zim239 zrm239 zlm239 zh239 => ?_)
  obtain ⟨rfl, rfl, hT1⟩ := zh239
  refine t_iload6 dL_act_242 ?_
  refine pw_icmp_ne 273 dL_act_244 (by decide) (fun zz => absurd rfl zz) (fun _ => ?_)
  refine t_aload0 dL_act_247 ?_
  refine t_iload3 dL_act_248 ?_
  refine pw_iconst (3) dL_act_249 (by decide) ?_
  refine g_callV2P (Q_mill (l := l) hlt hT1 (m := m) (x := nI m) (a := 3) (v := 3) hm rfl rfl (by decide) (y := nI q194) (by show (upF (upF S m 3 _) m 4 _).2.1 m 3 = _; rw [uf_o (by decide), uf_at])) rfl ft4 rfl mc_X4_mill ml_L_10 mi_X4_mill ms_X4_mill in_X4 (okc_X4_mill (by decide)) dL_act_250 kdT (cat_le (Nat.le_of_ble_eq_true rfl)) ?_
  refine t_iload4 dL_act_253 ?_
  refine pw_icmp_ne 273 dL_act_255 (by decide) (fun zz => absurd rfl zz) (fun _ => ?_)
  refine t_aload0 dL_act_258 ?_
  refine t_iload3 dL_act_259 ?_
  refine pw_iconst (4) dL_act_260 (by decide) ?_
  refine g_callV2P (Q_mill (l := l) hlt hT1 (m := m) (x := nI m) (a := 4) (v := 4) hm rfl rfl (by decide) (y := nI (q194 + q210)) uf_at) rfl ft4 rfl mc_X4_mill ml_L_10 mi_X4_mill ms_X4_mill in_X4 (okc_X4_mill (by decide)) dL_act_261 kdT (cat_le (Nat.le_of_ble_eq_true rfl)) ?_
  refine t_iload5 dL_act_264 ?_
  refine pw_icmp_ne 273 dL_act_266 (by decide) (fun zz => absurd rfl zz) (fun _ => ?_)
  refine pw_iconst (1) dL_act_269 (by decide) ?_
  refine pw_goto 274 dL_act_270 (by decide) ?_
  refine pw_zret dL_act_274 rfl ?_ ?_
  · first | rfl | exact bI_n
  · exact ⟨rfl, rfl, rfl, _, _, _, _, hP.up (hW.gate ha hb) ((hB.F (by decide)).F (by decide)) rfl rfl, hT1⟩
set_option maxHeartbeats 8000000 in
set_option maxRecDepth 100000 in
theorem A_gear {l : Launch} (hlt : l.stackTraces = false) {im : TI} {rm : TP} {lm : TL} {S : CS} {n : Nat} {T : Nat → CS} {sn : Option CS} {bl : Nat} {B : Nat → Int32} (hTS : TS (fun _ _ => 0, fun _ _ => none) S n T sn bl B im rm) (hl : lm = fun _ _ => 0) {e : Nat} (he : e < 40) (hP : PI e S) {m : Nat} (hm : m < 5) {v w : Int32} : PW l m_L_act 11 3 14 NN 275 [some (pv (some 0)), some (.int v), some (.int w), some (.int (nI m)), none, none, none] [] im rm lm (QA e bl B lm) noX := by
  obtain ⟨hW, hB, c, hh, hc40, hh40, e5, e0⟩ := id hP
  refine t_aload0 dL_act_275 ?_
  refine t_iload3 dL_act_276 ?_
  refine pw_bipush (8) dL_act_277 (by decide) ?_
  refine t_iload2 dL_act_279 ?_
  refine pw_iconst (3) dL_act_280 (by decide) ?_
  refine pw_ishr dL_act_281 ?_
  refine pw_bipush (53) dL_act_282 (by decide) ?_
  refine g_low 53 hlt rfl (by decide) (by decide) ml_L_79 (by decide) dL_act_284 (cat_le (Nat.le_of_ble_eq_true rfl)) (fun q284 eq284 hq284 => ?_)
  refine pw_iadd dL_act_287 ?_
  rw [show (8 : Int32) + nI q284 = nI (8 + q284) from nI_add 8 q284]
  refine pw_bipush (8) dL_act_288 (by decide) ?_
  refine t_iload2 dL_act_290 ?_
  refine pw_bipush (9) dL_act_291 (by decide) ?_
  refine pw_ishr dL_act_293 ?_
  refine pw_bipush (53) dL_act_294 (by decide) ?_
  refine g_low 53 hlt rfl (by decide) (by decide) ml_L_79 (by decide) dL_act_296 (cat_le (Nat.le_of_ble_eq_true rfl)) (fun q296 eq296 hq296 => ?_)
  refine pw_iadd dL_act_299 ?_
  rw [show (8 : Int32) + nI q296 = nI (8 + q296) from nI_add 8 q296]
  have ha : (8 : Int32) ≤ nI (8 + q284) ∧ nI (8 + q284) ≤ 60 := ⟨nI_le (a := 8) (by omega) (by omega), nI_le (b := 60) (by omega) (by decide)⟩
  have hb : (8 : Int32) ≤ nI (8 + q296) ∧ nI (8 + q296) ≤ 60 := ⟨nI_le (a := 8) (by omega) (by omega), nI_le (b := 60) (by omega) (by decide)⟩
  have hW2 := hW.gear (m := m) ha hb
  refine g_callV3G (Q_gear (l := l) hlt hTS hm rfl ha hb (S2 := (upF (upF S m 5 (nI (8 + q284))) m 6 (nI (8 + q296)))) rfl (to_is hW2 hm).1) rfl ft4 rfl mc_X4_gear ml_L_65 mi_X4_gear ms_X4_gear in_X4 (okc_X4_gear (by decide)) dL_act_300 kdT (cat_le (Nat.le_of_ble_eq_true rfl)) (fun _ _ _ _ h => h.elim) (by decide) (fun zv300 zim300 zrm300 zlm300 zh300 => ?_)
  obtain ⟨rfl, rfl, hT1⟩ := zh300
  refine pw_bipush (100) dL_act_303 (by decide) ?_
  refine t_aload0 dL_act_305 ?_
  refine t_iload3 dL_act_306 ?_
  refine pw_iconst (5) dL_act_307 (by decide) ?_
  refine g_callV2P (Q_mill (l := l) hlt hT1 (m := m) (x := nI m) (a := 5) (v := 5) hm rfl rfl (by decide) (y := (upF (upF S m 5 (nI (8 + q284))) m 6 (nI (8 + q296))).2.1 m 5) rfl) rfl ft4 rfl mc_X4_mill ml_L_10 mi_X4_mill ms_X4_mill in_X4 (okc_X4_mill (by decide)) dL_act_308 kdT (cat_le (Nat.le_of_ble_eq_true rfl)) ?_
  refine pw_imul dL_act_311 ?_
  refine t_aload0 dL_act_312 ?_
  refine t_iload3 dL_act_313 ?_
  refine pw_bipush (6) dL_act_314 (by decide) ?_
  refine g_callV2P (Q_mill (l := l) hlt hT1 (m := m) (x := nI m) (a := 6) (v := 6) hm rfl rfl (by decide) (y := (upF (upF S m 5 (nI (8 + q284))) m 6 (nI (8 + q296))).2.1 m 6) rfl) rfl ft4 rfl mc_X4_mill ml_L_10 mi_X4_mill ms_X4_mill in_X4 (okc_X4_mill (by decide)) dL_act_316 kdT (cat_le (Nat.le_of_ble_eq_true rfl)) ?_
  refine pw_idiv dL_act_319 (to_is hW2 hm).2 ?_
  refine pw_icmp_ne 327 dL_act_320 (by decide) (fun zz => absurd rfl zz) (fun _ => ?_)
  refine pw_iconst (1) dL_act_323 (by decide) ?_
  refine pw_goto 328 dL_act_324 (by decide) ?_
  refine pw_zret dL_act_328 rfl ?_ ?_
  · first | rfl | exact bI_n
  · exact ⟨rfl, rfl, rfl, _, _, _, _, hP.up hW2 ((hB.F (by decide)).F (by decide)) rfl rfl, hT1⟩
set_option maxHeartbeats 8000000 in
set_option maxRecDepth 100000 in
theorem A_set {l : Launch} (hlt : l.stackTraces = false) {im : TI} {rm : TP} {lm : TL} {S : CS} {n : Nat} {T : Nat → CS} {sn : Option CS} {bl : Nat} {B : Nat → Int32} (hTS : TS (fun _ _ => 0, fun _ _ => none) S n T sn bl B im rm) (hl : lm = fun _ _ => 0) {e : Nat} (he : e < 40) (hP : PI e S) {m : Nat} (hm : m < 5) {v w : Int32} : PW l m_L_act 11 3 14 NN 329 [some (pv (some 0)), some (.int v), some (.int w), some (.int (nI m)), none, none, none] [] im rm lm (QA e bl B lm) noX := by
  obtain ⟨hW, hB, c, hh, hc40, hh40, e5, e0⟩ := id hP
  refine t_iload2 dL_act_329 ?_
  refine pw_iconst (3) dL_act_330 (by decide) ?_
  refine pw_ishr dL_act_331 ?_
  refine pw_iconst (3) dL_act_332 (by decide) ?_
  refine g_low 3 hlt rfl (by decide) (by decide) ml_L_79 (by decide) dL_act_333 (Nat.zero_le _) (fun q333 eq333 hq333 => ?_)
  refine t_istore4 dL_act_336 (by exact Nat.le_of_ble_eq_true rfl) okp_i ?_
  clear eq333
  rcases (show q333 = 0 ∨ q333 = 1 ∨ q333 = 2 by omega) with rfl | rfl | rfl
  · refine t_iload4 dL_act_338 ?_
    refine pw_if_ne 356 dL_act_340 (by decide) (fun h => absurd h (by decide)) (fun _ => ?_)
    refine pw_iconst (1) dL_act_343 (by decide) ?_
    refine t_iload2 dL_act_344 ?_
    refine pw_iconst (5) dL_act_345 (by decide) ?_
    refine pw_ishr dL_act_346 ?_
    refine pw_bipush (15) dL_act_347 (by decide) ?_
    refine g_low 15 hlt rfl (by decide) (by decide) ml_L_79 (by decide) dL_act_349 (cat_le (Nat.le_of_ble_eq_true rfl)) (fun q349 eq349 hq349 => ?_)
    refine pw_iadd dL_act_352 ?_
    refine pw_goto 383 dL_act_353 (by decide) ?_
    rw [show (1 : Int32) + nI q349 = nI (1 + q349) from nI_add 1 q349]
    have ha : (1 : Int32) ≤ nI (1 + q349) ∧ nI (1 + q349) ≤ 15 := ⟨nI_le (a := 1) (by omega) (by omega), nI_le (b := 15) (by omega) (by decide)⟩
    refine t_istore5 dL_act_383 (by exact Nat.le_of_ble_eq_true rfl) okp_i ?_
    refine t_aload0 dL_act_385 ?_
    refine pw_bipush (11) dL_act_386 (by decide) ?_
    refine t_iload4 dL_act_388 ?_
    refine pw_iadd dL_act_390 ?_
    refine g_callV1P (Q_count (l := l) hlt hTS (a := 11 + nI 0) (v := 11) (by decide) (by decide) (y := S.1 9) rfl) rfl ft4 rfl mc_X4_count ml_L_19 mi_X4_count ms_X4_count in_X4 (okc_X4_count (by decide)) dL_act_391 kdT (cat_le (Nat.le_of_ble_eq_true rfl)) ?_
    refine t_istore6 dL_act_394 (by exact Nat.le_of_ble_eq_true rfl) okp_i ?_
    refine t_aload0 dL_act_396 ?_
    refine t_iload4 dL_act_397 ?_
    refine t_iload5 dL_act_399 ?_
    refine g_callV2G (Q_set0 (l := l) hlt hTS (x := nI 0) rfl ha) rfl ft4 rfl mc_X4_set ml_L_88 mi_X4_set ms_X4_set in_X4 (okc_X4_set (by decide)) dL_act_401 kdT (cat_le (Nat.le_of_ble_eq_true rfl)) (fun _ _ _ _ h => h.elim) (by decide) (fun zv401 zim401 zrm401 zlm401 zh401 => ?_)
    obtain ⟨rfl, rfl, hT1⟩ := zh401
    refine t_iload6 dL_act_404 ?_
    refine pw_icmp_ne 427 dL_act_406 (by decide) (fun zz => absurd rfl zz) (fun _ => ?_)
    refine t_aload0 dL_act_409 ?_
    refine pw_bipush (11) dL_act_410 (by decide) ?_
    refine t_iload4 dL_act_412 ?_
    refine pw_iadd dL_act_414 ?_
    refine g_callV1P (Q_count (l := l) hlt hT1 (a := 11 + nI 0) (v := 11) (by decide) (by decide) (y := nI (1 + q349)) upG_eq) rfl ft4 rfl mc_X4_count ml_L_19 mi_X4_count ms_X4_count in_X4 (okc_X4_count (by decide)) dL_act_415 kdT (cat_le (Nat.le_of_ble_eq_true rfl)) ?_
    refine t_iload5 dL_act_418 ?_
    refine pw_icmp_ne 427 dL_act_420 (by decide) (fun zz => absurd rfl zz) (fun _ => ?_)
    refine pw_iconst (1) dL_act_423 (by decide) ?_
    refine pw_goto 428 dL_act_424 (by decide) ?_
    refine pw_zret dL_act_428 rfl ?_ ?_
    · first | rfl | exact bI_n
    · exact ⟨rfl, rfl, rfl, _, _, _, _, hP.up (hW.set0 ha) (hB.G (by decide)) rfl rfl, hT1⟩
  · refine t_iload4 dL_act_338 ?_
    refine pw_if_ne 356 dL_act_340 (by decide) (fun _ => ?_) (fun h => absurd (by decide) h)
    refine t_iload4 dL_act_356 ?_
    refine pw_iconst (1) dL_act_358 (by decide) ?_
    refine pw_icmp_ne 373 dL_act_359 (by decide) (fun h => absurd h (by decide)) (fun _ => ?_)
    refine t_iload2 dL_act_362 ?_
    refine pw_iconst (5) dL_act_363 (by decide) ?_
    refine pw_ishr dL_act_364 ?_
    refine pw_bipush (40) dL_act_365 (by decide) ?_
    refine g_low 40 hlt rfl (by decide) (by decide) ml_L_79 (by decide) dL_act_367 (Nat.zero_le _) (fun q367 eq367 hq367 => ?_)
    refine pw_goto 383 dL_act_370 (by decide) ?_
    have ha : (0 : Int32) ≤ nI q367 ∧ nI q367 ≤ 100 := ⟨nI_le (a := 0) (by omega) (by omega), nI_le (b := 100) (by omega) (by decide)⟩
    refine t_istore5 dL_act_383 (by exact Nat.le_of_ble_eq_true rfl) okp_i ?_
    refine t_aload0 dL_act_385 ?_
    refine pw_bipush (11) dL_act_386 (by decide) ?_
    refine t_iload4 dL_act_388 ?_
    refine pw_iadd dL_act_390 ?_
    refine g_callV1P (Q_count (l := l) hlt hTS (a := 11 + nI 1) (v := 12) (by decide) (by decide) (y := S.1 10) rfl) rfl ft4 rfl mc_X4_count ml_L_19 mi_X4_count ms_X4_count in_X4 (okc_X4_count (by decide)) dL_act_391 kdT (cat_le (Nat.le_of_ble_eq_true rfl)) ?_
    refine t_istore6 dL_act_394 (by exact Nat.le_of_ble_eq_true rfl) okp_i ?_
    refine t_aload0 dL_act_396 ?_
    refine t_iload4 dL_act_397 ?_
    refine t_iload5 dL_act_399 ?_
    refine g_callV2G (Q_set1 (l := l) hlt hTS (x := nI 1) rfl ha) rfl ft4 rfl mc_X4_set ml_L_88 mi_X4_set ms_X4_set in_X4 (okc_X4_set (by decide)) dL_act_401 kdT (cat_le (Nat.le_of_ble_eq_true rfl)) (fun _ _ _ _ h => h.elim) (by decide) (fun zv401 zim401 zrm401 zlm401 zh401 => ?_)
    obtain ⟨rfl, rfl, hT1⟩ := zh401
    refine t_iload6 dL_act_404 ?_
    refine pw_icmp_ne 427 dL_act_406 (by decide) (fun zz => absurd rfl zz) (fun _ => ?_)
    refine t_aload0 dL_act_409 ?_
    refine pw_bipush (11) dL_act_410 (by decide) ?_
    refine t_iload4 dL_act_412 ?_
    refine pw_iadd dL_act_414 ?_
    refine g_callV1P (Q_count (l := l) hlt hT1 (a := 11 + nI 1) (v := 12) (by decide) (by decide) (y := nI q367) upG_eq) rfl ft4 rfl mc_X4_count ml_L_19 mi_X4_count ms_X4_count in_X4 (okc_X4_count (by decide)) dL_act_415 kdT (cat_le (Nat.le_of_ble_eq_true rfl)) ?_
    refine t_iload5 dL_act_418 ?_
    refine pw_icmp_ne 427 dL_act_420 (by decide) (fun zz => absurd rfl zz) (fun _ => ?_)
    refine pw_iconst (1) dL_act_423 (by decide) ?_
    refine pw_goto 428 dL_act_424 (by decide) ?_
    refine pw_zret dL_act_428 rfl ?_ ?_
    · first | rfl | exact bI_n
    · exact ⟨rfl, rfl, rfl, _, _, _, _, hP.up (hW.set1 ha) (hB.G (by decide)) rfl rfl, hT1⟩
  · refine t_iload4 dL_act_338 ?_
    refine pw_if_ne 356 dL_act_340 (by decide) (fun _ => ?_) (fun h => absurd (by decide) h)
    refine t_iload4 dL_act_356 ?_
    refine pw_iconst (1) dL_act_358 (by decide) ?_
    refine pw_icmp_ne 373 dL_act_359 (by decide) (fun _ => ?_) (fun h => absurd (by decide) h)
    refine pw_iconst (5) dL_act_373 (by decide) ?_
    refine t_iload2 dL_act_374 ?_
    refine pw_iconst (5) dL_act_375 (by decide) ?_
    refine pw_ishr dL_act_376 ?_
    refine pw_bipush (50) dL_act_377 (by decide) ?_
    refine g_low 50 hlt rfl (by decide) (by decide) ml_L_79 (by decide) dL_act_379 (cat_le (Nat.le_of_ble_eq_true rfl)) (fun q379 eq379 hq379 => ?_)
    refine pw_iadd dL_act_382 ?_
    rw [show (5 : Int32) + nI q379 = nI (5 + q379) from nI_add 5 q379]
    have ha : (5 : Int32) ≤ nI (5 + q379) ∧ nI (5 + q379) ≤ 100 := ⟨nI_le (a := 5) (by omega) (by omega), nI_le (b := 100) (by omega) (by decide)⟩
    refine t_istore5 dL_act_383 (by exact Nat.le_of_ble_eq_true rfl) okp_i ?_
    refine t_aload0 dL_act_385 ?_
    refine pw_bipush (11) dL_act_386 (by decide) ?_
    refine t_iload4 dL_act_388 ?_
    refine pw_iadd dL_act_390 ?_
    refine g_callV1P (Q_count (l := l) hlt hTS (a := 11 + nI 2) (v := 13) (by decide) (by decide) (y := S.1 11) rfl) rfl ft4 rfl mc_X4_count ml_L_19 mi_X4_count ms_X4_count in_X4 (okc_X4_count (by decide)) dL_act_391 kdT (cat_le (Nat.le_of_ble_eq_true rfl)) ?_
    refine t_istore6 dL_act_394 (by exact Nat.le_of_ble_eq_true rfl) okp_i ?_
    refine t_aload0 dL_act_396 ?_
    refine t_iload4 dL_act_397 ?_
    refine t_iload5 dL_act_399 ?_
    refine g_callV2G (Q_set2 (l := l) hlt hTS (x := nI 2) rfl ha) rfl ft4 rfl mc_X4_set ml_L_88 mi_X4_set ms_X4_set in_X4 (okc_X4_set (by decide)) dL_act_401 kdT (cat_le (Nat.le_of_ble_eq_true rfl)) (fun _ _ _ _ h => h.elim) (by decide) (fun zv401 zim401 zrm401 zlm401 zh401 => ?_)
    obtain ⟨rfl, rfl, hT1⟩ := zh401
    refine t_iload6 dL_act_404 ?_
    refine pw_icmp_ne 427 dL_act_406 (by decide) (fun zz => absurd rfl zz) (fun _ => ?_)
    refine t_aload0 dL_act_409 ?_
    refine pw_bipush (11) dL_act_410 (by decide) ?_
    refine t_iload4 dL_act_412 ?_
    refine pw_iadd dL_act_414 ?_
    refine g_callV1P (Q_count (l := l) hlt hT1 (a := 11 + nI 2) (v := 13) (by decide) (by decide) (y := nI (5 + q379)) upG_eq) rfl ft4 rfl mc_X4_count ml_L_19 mi_X4_count ms_X4_count in_X4 (okc_X4_count (by decide)) dL_act_415 kdT (cat_le (Nat.le_of_ble_eq_true rfl)) ?_
    refine t_iload5 dL_act_418 ?_
    refine pw_icmp_ne 427 dL_act_420 (by decide) (fun zz => absurd rfl zz) (fun _ => ?_)
    refine pw_iconst (1) dL_act_423 (by decide) ?_
    refine pw_goto 428 dL_act_424 (by decide) ?_
    refine pw_zret dL_act_428 rfl ?_ ?_
    · first | rfl | exact bI_n
    · exact ⟨rfl, rfl, rfl, _, _, _, _, hP.up (hW.set2 ha) (hB.G (by decide)) rfl rfl, hT1⟩
set_option maxHeartbeats 8000000 in
set_option maxRecDepth 100000 in
theorem A_sack {l : Launch} (hlt : l.stackTraces = false) {im : TI} {rm : TP} {lm : TL} {S : CS} {n : Nat} {T : Nat → CS} {sn : Option CS} {bl : Nat} {B : Nat → Int32} (hTS : TS (fun _ _ => 0, fun _ _ => none) S n T sn bl B im rm) (hl : lm = fun _ _ => 0) {e : Nat} (he : e < 40) (hP : PI e S) {m : Nat} (hm : m < 5) {v w : Int32} : PW l m_L_act 11 3 14 NN 429 [some (pv (some 0)), some (.int v), some (.int w), some (.int (nI m)), none, none, none] [] im rm lm (QA e bl B lm) noX := by
  obtain ⟨hW, hB, c, hh, hc40, hh40, e5, e0⟩ := id hP
  refine t_aload0 dL_act_429 ?_
  refine pw_bipush (6) dL_act_430 (by decide) ?_
  refine g_callV1P (Q_count (l := l) hlt hTS (a := 6) (v := 6) rfl (by decide) (y := nI c) e5) rfl ft4 rfl mc_X4_count ml_L_19 mi_X4_count ms_X4_count in_X4 (okc_X4_count (by decide)) dL_act_432 kdT (cat_le (Nat.le_of_ble_eq_true rfl)) ?_
  refine t_istore4 dL_act_435 (by exact Nat.le_of_ble_eq_true rfl) okp_i ?_
  refine pw_iconst (1) dL_act_437 (by decide) ?_
  refine t_aload0 dL_act_438 ?_
  refine pw_iconst (0) dL_act_439 (by decide) ?_
  refine g_callV1P (Q_count (l := l) hlt hTS (a := 0) (v := 0) rfl (by decide) (y := nI hh) e0) rfl ft4 rfl mc_X4_count ml_L_19 mi_X4_count ms_X4_count in_X4 (okc_X4_count (by decide)) dL_act_440 kdT (cat_le (Nat.le_of_ble_eq_true rfl)) ?_
  refine t_iload2 dL_act_443 ?_
  refine pw_bipush (6) dL_act_444 (by decide) ?_
  refine pw_ishr dL_act_446 ?_
  refine pw_bipush (14) dL_act_447 (by decide) ?_
  refine g_low 14 hlt rfl (by decide) (by decide) ml_L_79 (by decide) dL_act_449 (cat_le (Nat.le_of_ble_eq_true rfl)) (fun q449 eq449 hq449 => ?_)
  refine pw_iadd dL_act_452 ?_
  rw [nI_add]
  refine pw_sipush (9999) dL_act_453 (by decide) ?_
  refine pw_irem dL_act_456 (by decide) ?_
  rw [show nI (hh + q449) - nI (hh + q449) / 9999 * 9999 = nI ((hh + q449) % 9999) from pk_rem (d := 9999) (by omega) (by decide) (by decide)]
  refine pw_iadd dL_act_457 ?_
  rw [show (1 : Int32) + nI ((hh + q449) % 9999) = nI (1 + (hh + q449) % 9999) from nI_add 1 _]
  have hb : (1 : Int32) ≤ nI (1 + (hh + q449) % 9999) ∧ nI (1 + (hh + q449) % 9999) ≤ 9999 := ⟨nI_le (a := 1) (by omega) (by omega), nI_le (b := 9999) (by omega) (by decide)⟩
  refine t_istore5 dL_act_458 (by exact Nat.le_of_ble_eq_true rfl) okp_i ?_
  have hc6 := (hW.1.1.c hm).1
  by_cases h6 : cnt S m = 6
  · refine t_aload0 dL_act_460 ?_
    refine t_iload3 dL_act_461 ?_
    refine pw_bipush (7) dL_act_462 (by decide) ?_
    refine g_callV2P (Q_mill (l := l) hlt hTS (m := m) (x := nI m) (a := 7) (v := 7) hm rfl rfl (by decide) (y := nI (cnt S m)) (hW.1.1.c hm).2) rfl ft4 rfl mc_X4_mill ml_L_10 mi_X4_mill ms_X4_mill in_X4 (okc_X4_mill (by decide)) dL_act_464 kdT (cat_le (Nat.le_of_ble_eq_true rfl)) ?_
    refine pw_bipush (6) dL_act_467 (by decide) ?_
    refine pw_icmp_eq 552 dL_act_469 (by decide) (fun _ => ?_) (fun zz => absurd (show nI (cnt S m) = 6 by rw [h6]; rfl) zz)
    refine pw_iconst (1) dL_act_552 (by decide) ?_
    refine pw_goto 557 dL_act_553 (by decide) ?_
    refine pw_zret dL_act_557 rfl ?_ ?_
    · first | rfl | exact bI_n
    · exact ⟨rfl, rfl, rfl, _, _, _, _, hP.same, hTS⟩
  · have hrp : hrP S m := ⟨by rw [(hW.1.1.c hm).2]; exact nI_lt (b := 6) (by omega) (by decide), by rw [e5]; exact nI_lt (b := 999) (by omega) (by decide)⟩
    have piS : ∀ {x due : Int32}, (1 : Int32) ≤ x ∧ x ≤ 999 → WF (brS S m x due) → PI (e + 1) (brS S m x due) := fun hx h2 => ⟨h2, hB.br hW.1.1 hm, c + 1, hh, by omega, by omega, by rw [← nI_1, ← e5]; exact upG_eq, e0⟩
    refine t_aload0 dL_act_460 ?_
    refine t_iload3 dL_act_461 ?_
    refine pw_bipush (7) dL_act_462 (by decide) ?_
    refine g_callV2P (Q_mill (l := l) hlt hTS (m := m) (x := nI m) (a := 7) (v := 7) hm rfl rfl (by decide) (y := nI (cnt S m)) (hW.1.1.c hm).2) rfl ft4 rfl mc_X4_mill ml_L_10 mi_X4_mill ms_X4_mill in_X4 (okc_X4_mill (by decide)) dL_act_464 kdT (cat_le (Nat.le_of_ble_eq_true rfl)) ?_
    refine pw_bipush (6) dL_act_467 (by decide) ?_
    refine pw_icmp_eq 552 dL_act_469 (by decide) (fun zz => absurd zz (fun z => h6 ((nI_eq (b := 6) (by omega) (by decide)).mp z))) (fun _ => ?_)
    refine t_aload0 dL_act_472 ?_
    refine t_iload3 dL_act_473 ?_
    refine pw_iconst (1) dL_act_474 (by decide) ?_
    refine t_iload2 dL_act_475 ?_
    refine pw_iconst (3) dL_act_476 (by decide) ?_
    refine pw_ishr dL_act_477 ?_
    refine t_iload2 dL_act_478 ?_
    refine pw_bipush (12) dL_act_479 (by decide) ?_
    refine pw_ishr dL_act_481 ?_
    refine pw_iconst (3) dL_act_482 (by decide) ?_
    refine g_low 3 hlt rfl (by decide) (by decide) ml_L_79 (by decide) dL_act_483 (cat_le (Nat.le_of_ble_eq_true rfl)) (fun q483 eq483 hq483 => ?_)
    by_cases h3 : nI q483 = 0
    · refine pw_if_ne 495 dL_act_486 (by decide) (fun zz => absurd h3 zz) (fun _ => ?_)
      refine pw_sipush (999) dL_act_489 (by decide) ?_
      refine pw_goto 498 dL_act_492 (by decide) ?_
      refine g_low 999 hlt rfl (by decide) (by decide) ml_L_79 (by decide) dL_act_498 (cat_le (Nat.le_of_ble_eq_true rfl)) (fun q498 eq498 hq498 => ?_)
      refine pw_iadd dL_act_501 ?_
      rw [show (1 : Int32) + nI q498 = nI (1 + q498) from nI_add 1 q498]
      have ha : (1 : Int32) ≤ nI (1 + q498) ∧ nI (1 + q498) ≤ 999 := ⟨nI_le (a := 1) (by omega) (by omega), nI_le (b := 999) (by omega) (by decide)⟩
      have hW2 := hW.br (due := nI (1 + (hh + q449) % 9999)) hm hrp ha
      have hat := br_at (S := S) (x := nI (1 + q498)) (due := nI (1 + (hh + q449) % 9999)) hm (by omega)
      rw [e5] at hat
      refine t_iload5 dL_act_502 ?_
      refine g_callV3G (Q_sack (l := l) hlt hTS hm rfl ha hb hrp) rfl ft4 rfl mc_X4_sack ml_L_91 mi_X4_sack ms_X4_sack in_X4 (okc_X4_sack (by decide)) dL_act_504 kdT (cat_le (Nat.le_of_ble_eq_true rfl)) (fun _ _ _ _ h => h.elim) (by decide) (fun zv504 zim504 zrm504 zlm504 zh504 => ?_)
      obtain ⟨rfl, rfl, hT1⟩ := zh504
      refine t_iload4 dL_act_507 ?_
      refine pw_icmp_ne 556 dL_act_509 (by decide) (fun zz => absurd e5 zz) (fun _ => ?_)
      refine t_aload0 dL_act_512 ?_
      refine t_iload4 dL_act_513 ?_
      refine pw_iconst (0) dL_act_515 (by decide) ?_
      refine g_callV2P (Q_skA (l := l) hlt hT1 hW2 hat.1 (v := 0) (a := 0) (y := nI m) rfl (by decide) rfl) rfl ft4 rfl mc_X4_sackOf ml_L_23 mi_X4_sackOf ms_X4_sackOf in_X4 (okc_X4_sackOf (by decide)) dL_act_516 kdT (cat_le (Nat.le_of_ble_eq_true rfl)) ?_
      refine t_iload3 dL_act_519 ?_
      refine pw_icmp_ne 556 dL_act_520 (by decide) (fun zz => absurd rfl zz) (fun _ => ?_)
      refine t_aload0 dL_act_523 ?_
      refine t_iload4 dL_act_524 ?_
      refine pw_iconst (3) dL_act_526 (by decide) ?_
      refine g_callV2P (Q_skA (l := l) hlt hT1 hW2 hat.1 (v := 3) (a := 3) (y := nI (1 + (hh + q449) % 9999)) rfl (by decide) (hat.2 3)) rfl ft4 rfl mc_X4_sackOf ml_L_23 mi_X4_sackOf ms_X4_sackOf in_X4 (okc_X4_sackOf (by decide)) dL_act_527 kdT (cat_le (Nat.le_of_ble_eq_true rfl)) ?_
      refine t_iload5 dL_act_530 ?_
      refine pw_icmp_ne 556 dL_act_532 (by decide) (fun zz => absurd rfl zz) (fun _ => ?_)
      refine t_aload0 dL_act_535 ?_
      refine t_iload4 dL_act_536 ?_
      refine pw_iconst (2) dL_act_538 (by decide) ?_
      refine g_callV2P (Q_skA (l := l) hlt hT1 hW2 hat.1 (v := 2) (a := 2) (y := (nI (1 + q498))) rfl (by decide) (hat.2 2)) rfl ft4 rfl mc_X4_sackOf ml_L_23 mi_X4_sackOf ms_X4_sackOf in_X4 (okc_X4_sackOf (by decide)) dL_act_539 kdT (cat_le (Nat.le_of_ble_eq_true rfl)) ?_
      refine t_aload0 dL_act_542 ?_
      refine t_iload4 dL_act_543 ?_
      refine pw_iconst (1) dL_act_545 (by decide) ?_
      refine g_callV2P (Q_skA (l := l) hlt hT1 hW2 hat.1 (v := 1) (a := 1) (y := (nI (1 + q498))) rfl (by decide) (hat.2 1)) rfl ft4 rfl mc_X4_sackOf ml_L_23 mi_X4_sackOf ms_X4_sackOf in_X4 (okc_X4_sackOf (by decide)) dL_act_546 kdT (cat_le (Nat.le_of_ble_eq_true rfl)) ?_
      refine pw_icmp_ne 556 dL_act_549 (by decide) (fun zz => absurd rfl zz) (fun _ => ?_)
      refine pw_iconst (1) dL_act_552 (by decide) ?_
      refine pw_goto 557 dL_act_553 (by decide) ?_
      refine pw_zret dL_act_557 rfl ?_ ?_
      · first | rfl | exact bI_n
      · exact ⟨rfl, rfl, rfl, _, _, _, _, piS ha hW2, hT1⟩
    · refine pw_if_ne 495 dL_act_486 (by decide) (fun _ => ?_) (fun zz => absurd h3 zz)
      refine pw_sipush (150) dL_act_495 (by decide) ?_
      refine g_low 150 hlt rfl (by decide) (by decide) ml_L_79 (by decide) dL_act_498 (cat_le (Nat.le_of_ble_eq_true rfl)) (fun q498 eq498 hq498 => ?_)
      refine pw_iadd dL_act_501 ?_
      rw [show (1 : Int32) + nI q498 = nI (1 + q498) from nI_add 1 q498]
      have ha : (1 : Int32) ≤ nI (1 + q498) ∧ nI (1 + q498) ≤ 999 := ⟨nI_le (a := 1) (by omega) (by omega), nI_le (b := 999) (by omega) (by decide)⟩
      have hW2 := hW.br (due := nI (1 + (hh + q449) % 9999)) hm hrp ha
      have hat := br_at (S := S) (x := nI (1 + q498)) (due := nI (1 + (hh + q449) % 9999)) hm (by omega)
      rw [e5] at hat
      refine t_iload5 dL_act_502 ?_
      refine g_callV3G (Q_sack (l := l) hlt hTS hm rfl ha hb hrp) rfl ft4 rfl mc_X4_sack ml_L_91 mi_X4_sack ms_X4_sack in_X4 (okc_X4_sack (by decide)) dL_act_504 kdT (cat_le (Nat.le_of_ble_eq_true rfl)) (fun _ _ _ _ h => h.elim) (by decide) (fun zv504 zim504 zrm504 zlm504 zh504 => ?_)
      obtain ⟨rfl, rfl, hT1⟩ := zh504
      refine t_iload4 dL_act_507 ?_
      refine pw_icmp_ne 556 dL_act_509 (by decide) (fun zz => absurd e5 zz) (fun _ => ?_)
      refine t_aload0 dL_act_512 ?_
      refine t_iload4 dL_act_513 ?_
      refine pw_iconst (0) dL_act_515 (by decide) ?_
      refine g_callV2P (Q_skA (l := l) hlt hT1 hW2 hat.1 (v := 0) (a := 0) (y := nI m) rfl (by decide) rfl) rfl ft4 rfl mc_X4_sackOf ml_L_23 mi_X4_sackOf ms_X4_sackOf in_X4 (okc_X4_sackOf (by decide)) dL_act_516 kdT (cat_le (Nat.le_of_ble_eq_true rfl)) ?_
      refine t_iload3 dL_act_519 ?_
      refine pw_icmp_ne 556 dL_act_520 (by decide) (fun zz => absurd rfl zz) (fun _ => ?_)
      refine t_aload0 dL_act_523 ?_
      refine t_iload4 dL_act_524 ?_
      refine pw_iconst (3) dL_act_526 (by decide) ?_
      refine g_callV2P (Q_skA (l := l) hlt hT1 hW2 hat.1 (v := 3) (a := 3) (y := nI (1 + (hh + q449) % 9999)) rfl (by decide) (hat.2 3)) rfl ft4 rfl mc_X4_sackOf ml_L_23 mi_X4_sackOf ms_X4_sackOf in_X4 (okc_X4_sackOf (by decide)) dL_act_527 kdT (cat_le (Nat.le_of_ble_eq_true rfl)) ?_
      refine t_iload5 dL_act_530 ?_
      refine pw_icmp_ne 556 dL_act_532 (by decide) (fun zz => absurd rfl zz) (fun _ => ?_)
      refine t_aload0 dL_act_535 ?_
      refine t_iload4 dL_act_536 ?_
      refine pw_iconst (2) dL_act_538 (by decide) ?_
      refine g_callV2P (Q_skA (l := l) hlt hT1 hW2 hat.1 (v := 2) (a := 2) (y := (nI (1 + q498))) rfl (by decide) (hat.2 2)) rfl ft4 rfl mc_X4_sackOf ml_L_23 mi_X4_sackOf ms_X4_sackOf in_X4 (okc_X4_sackOf (by decide)) dL_act_539 kdT (cat_le (Nat.le_of_ble_eq_true rfl)) ?_
      refine t_aload0 dL_act_542 ?_
      refine t_iload4 dL_act_543 ?_
      refine pw_iconst (1) dL_act_545 (by decide) ?_
      refine g_callV2P (Q_skA (l := l) hlt hT1 hW2 hat.1 (v := 1) (a := 1) (y := (nI (1 + q498))) rfl (by decide) (hat.2 1)) rfl ft4 rfl mc_X4_sackOf ml_L_23 mi_X4_sackOf ms_X4_sackOf in_X4 (okc_X4_sackOf (by decide)) dL_act_546 kdT (cat_le (Nat.le_of_ble_eq_true rfl)) ?_
      refine pw_icmp_ne 556 dL_act_549 (by decide) (fun zz => absurd rfl zz) (fun _ => ?_)
      refine pw_iconst (1) dL_act_552 (by decide) ?_
      refine pw_goto 557 dL_act_553 (by decide) ?_
      refine pw_zret dL_act_557 rfl ?_ ?_
      · first | rfl | exact bI_n
      · exact ⟨rfl, rfl, rfl, _, _, _, _, piS ha hW2, hT1⟩
set_option maxHeartbeats 8000000 in
set_option maxRecDepth 100000 in
theorem A_carry {l : Launch} (hlt : l.stackTraces = false) {im : TI} {rm : TP} {lm : TL} {S : CS} {n : Nat} {T : Nat → CS} {sn : Option CS} {bl : Nat} {B : Nat → Int32} (hTS : TS (fun _ _ => 0, fun _ _ => none) S n T sn bl B im rm) (hl : lm = fun _ _ => 0) {e : Nat} (he : e < 40) (hP : PI e S) {m : Nat} (hm : m < 5) {v w : Int32} : PW l m_L_act 11 3 14 NN 558 [some (pv (some 0)), some (.int v), some (.int w), some (.int (nI m)), none, none, none] [] im rm lm (QA e bl B lm) noX := by
  obtain ⟨hW, hB, c, hh, hc40, hh40, e5, e0⟩ := id hP
  refine t_aload0 dL_act_558 ?_
  refine t_iload3 dL_act_559 ?_
  refine t_iload2 dL_act_560 ?_
  refine pw_iconst (3) dL_act_561 (by decide) ?_
  refine pw_ishr dL_act_562 ?_
  refine pw_bipush (6) dL_act_563 (by decide) ?_
  refine g_low 6 hlt rfl (by decide) (by decide) ml_L_79 (by decide) dL_act_565 (cat_le (Nat.le_of_ble_eq_true rfl)) (fun q565 eq565 hq565 => ?_)
  by_cases hp : q565 < cnt S m
  · have hsk := hW.sk hm hp
    refine g_callV2P (Q_sackAt (l := l) hlt hTS (m := m) (p := q565) (x := nI m) (a := nI q565) hm rfl rfl (by omega) (y := S.2.2 m q565 0) (if_pos hp)) rfl ft4 rfl mc_X4_sackAt ml_L_16 mi_X4_sackAt ms_X4_sackAt in_X4 (okc_X4_sackAt (by decide)) dL_act_568 kdT (cat_le (Nat.le_of_ble_eq_true rfl)) ?_
    refine t_istore4 dL_act_571 (by exact Nat.le_of_ble_eq_true rfl) okp_i ?_
    refine t_iload3 dL_act_573 ?_
    refine pw_iconst (1) dL_act_574 (by decide) ?_
    refine pw_iadd dL_act_575 ?_
    rw [nI_1]
    refine t_iload2 dL_act_576 ?_
    refine pw_bipush (6) dL_act_577 (by decide) ?_
    refine pw_ishr dL_act_579 ?_
    refine pw_iconst (4) dL_act_580 (by decide) ?_
    refine g_low 4 hlt rfl (by decide) (by decide) ml_L_79 (by decide) dL_act_581 (cat_le (Nat.le_of_ble_eq_true rfl)) (fun q581 eq581 hq581 => ?_)
    refine pw_iadd dL_act_584 ?_
    rw [nI_add]
    refine pw_iconst (5) dL_act_585 (by decide) ?_
    refine pw_irem dL_act_586 (by decide) ?_
    rw [show nI (m + 1 + q581) - nI (m + 1 + q581) / 5 * 5 = nI ((m + 1 + q581) % 5) from pk_rem (d := 5) (by omega) (by decide) (by decide)]
    have ht : ((m + 1 + q581) % 5) < 5 := Nat.mod_lt _ (by decide)
    have hne : ¬ m = ((m + 1 + q581) % 5) := by omega
    refine t_istore5 dL_act_587 (by exact Nat.le_of_ble_eq_true rfl) okp_i ?_
    refine t_aload0 dL_act_589 ?_
    refine t_iload4 dL_act_590 ?_
    refine pw_iconst (2) dL_act_592 (by decide) ?_
    refine g_callV2P (Q_sackOf (l := l) hlt hTS hW (m := m) (p := q565) (v := 2) (x := S.2.2 m q565 0) (a := 2) hm hp rfl rfl (by decide) (y := S.2.2 m q565 2) rfl) rfl ft4 rfl mc_X4_sackOf ml_L_23 mi_X4_sackOf ms_X4_sackOf in_X4 (okc_X4_sackOf (by decide)) dL_act_593 kdT (cat_le (Nat.le_of_ble_eq_true rfl)) ?_
    refine t_istore6 dL_act_596 (by exact Nat.le_of_ble_eq_true rfl) okp_i ?_
    refine t_iload4 dL_act_598 ?_
    refine pw_if_lt 658 dL_act_600 (by decide) (fun zz => absurd zz hsk.1) (fun _ => ?_)
    refine t_aload0 dL_act_603 ?_
    refine t_iload5 dL_act_604 ?_
    refine pw_bipush (7) dL_act_606 (by decide) ?_
    refine g_callV2P (Q_mill (l := l) hlt hTS (m := ((m + 1 + q581) % 5)) (x := nI ((m + 1 + q581) % 5)) (a := 7) (v := 7) ht rfl rfl (by decide) (y := nI (cnt S ((m + 1 + q581) % 5))) (hW.1.1.c ht).2) rfl ft4 rfl mc_X4_mill ml_L_10 mi_X4_mill ms_X4_mill in_X4 (okc_X4_mill (by decide)) dL_act_608 kdT (cat_le (Nat.le_of_ble_eq_true rfl)) ?_
    refine pw_bipush (6) dL_act_611 (by decide) ?_
    have hct := (hW.1.1.c ht).1
    by_cases h6 : cnt S ((m + 1 + q581) % 5) = 6
    · refine pw_icmp_eq 658 dL_act_613 (by decide) (fun _ => ?_) (fun zz => absurd (show nI (cnt S ((m + 1 + q581) % 5)) = 6 by rw [h6]; rfl) zz)
      refine pw_iconst (1) dL_act_658 (by decide) ?_
      refine pw_goto 663 dL_act_659 (by decide) ?_
      refine pw_zret dL_act_663 rfl ?_ ?_
      · first | rfl | exact bI_n
      · exact ⟨rfl, rfl, rfl, _, _, _, _, hP.same, hTS⟩
    · have h6t : cnt S ((m + 1 + q581) % 5) < 6 := by have := (hW.1.1.c ht).1; omega
      have hW2 : WF (caS S m ((m + 1 + q581) % 5) q565) := hW.carry hm ht hne hp rfl h6t
      have hat := ca_at (S := S) (m := m) (t := ((m + 1 + q581) % 5)) (p := q565) (pl := (plS S ((m + 1 + q581) % 5) (S.2.2 m q565 0) (S.2.2 m q565 3))) (n := cnt S m) (x := S.2.2 m q565 0) (h := S.2.2 m q565 1) (r := S.2.2 m q565 2) (due := S.2.2 m q565 3) ht hne h6t pl_le
      have hBc : BL (caS S m ((m + 1 + q581) % 5) q565) := hB.carry hW.1.1 hm ht (by rw [in_f9, if_neg hne]; exact (hW.1.1.c hm).2) (by omega)
      refine pw_icmp_eq 658 dL_act_613 (by decide) (fun zz => absurd zz (fun z => h6 ((nI_eq (b := 6) (by omega) (by decide)).mp z))) (fun _ => ?_)
      refine t_aload0 dL_act_616 ?_
      refine t_iload4 dL_act_617 ?_
      refine t_iload5 dL_act_619 ?_
      refine g_callV2G (Q_carry (l := l) hlt hTS hW hm ht hp rfl hne h6t) rfl ft4 rfl mc_X4_carry ml_L_94 mi_X4_carry ms_X4_carry in_X4 (okc_X4_carry (by decide)) dL_act_621 kdT (cat_le (Nat.le_of_ble_eq_true rfl)) (fun _ _ _ _ h => h.elim) (by decide) (fun zv621 zim621 zrm621 zlm621 zh621 => ?_)
      obtain ⟨rfl, rfl, hT1⟩ := zh621
      refine t_aload0 dL_act_624 ?_
      refine t_iload4 dL_act_625 ?_
      refine pw_iconst (4) dL_act_627 (by decide) ?_
      refine g_callV2P (Q_skA (l := l) hlt hT1 hW2 hat.1 (v := 4) (a := 4) (y := nI (plS S ((m + 1 + q581) % 5) (S.2.2 m q565 0) (S.2.2 m q565 3))) rfl (by decide) rfl) rfl ft4 rfl mc_X4_sackOf ml_L_23 mi_X4_sackOf ms_X4_sackOf in_X4 (okc_X4_sackOf (by decide)) dL_act_628 kdT (cat_le (Nat.le_of_ble_eq_true rfl)) ?_
      refine pw_icmp_ne 662 dL_act_631 (by decide) (fun zz => absurd rfl zz) (fun _ => ?_)
      refine t_aload0 dL_act_634 ?_
      refine t_iload4 dL_act_635 ?_
      refine pw_iconst (0) dL_act_637 (by decide) ?_
      refine g_callV2P (Q_skA (l := l) hlt hT1 hW2 hat.1 (v := 0) (a := 0) (y := nI ((m + 1 + q581) % 5)) rfl (by decide) rfl) rfl ft4 rfl mc_X4_sackOf ml_L_23 mi_X4_sackOf ms_X4_sackOf in_X4 (okc_X4_sackOf (by decide)) dL_act_638 kdT (cat_le (Nat.le_of_ble_eq_true rfl)) ?_
      refine t_iload5 dL_act_641 ?_
      refine pw_icmp_ne 662 dL_act_643 (by decide) (fun zz => absurd rfl zz) (fun _ => ?_)
      refine t_aload0 dL_act_646 ?_
      refine t_iload4 dL_act_647 ?_
      refine pw_iconst (2) dL_act_649 (by decide) ?_
      refine g_callV2P (Q_skA (l := l) hlt hT1 hW2 hat.1 (v := 2) (a := 2) (y := S.2.2 m q565 2) rfl (by decide) hat.2) rfl ft4 rfl mc_X4_sackOf ml_L_23 mi_X4_sackOf ms_X4_sackOf in_X4 (okc_X4_sackOf (by decide)) dL_act_650 kdT (cat_le (Nat.le_of_ble_eq_true rfl)) ?_
      refine t_iload6 dL_act_653 ?_
      refine pw_icmp_ne 662 dL_act_655 (by decide) (fun zz => absurd rfl zz) (fun _ => ?_)
      refine pw_iconst (1) dL_act_658 (by decide) ?_
      refine pw_goto 663 dL_act_659 (by decide) ?_
      refine pw_zret dL_act_663 rfl ?_ ?_
      · first | rfl | exact bI_n
      · exact ⟨rfl, rfl, rfl, _, _, _, _, hP.up hW2 hBc rfl rfl, hT1⟩
  · have e : (if q565 < cnt S m then S.2.2 m q565 0 else -1) = -1 := if_neg hp
    refine g_callV2P (Q_sackAt (l := l) hlt hTS (m := m) (p := q565) (x := nI m) (a := nI q565) hm rfl rfl (by omega) (y := -1) e) rfl ft4 rfl mc_X4_sackAt ml_L_16 mi_X4_sackAt ms_X4_sackAt in_X4 (okc_X4_sackAt (by decide)) dL_act_568 kdT (cat_le (Nat.le_of_ble_eq_true rfl)) ?_
    refine t_istore4 dL_act_571 (by exact Nat.le_of_ble_eq_true rfl) okp_i ?_
    refine t_iload3 dL_act_573 ?_
    refine pw_iconst (1) dL_act_574 (by decide) ?_
    refine pw_iadd dL_act_575 ?_
    refine t_iload2 dL_act_576 ?_
    refine pw_bipush (6) dL_act_577 (by decide) ?_
    refine pw_ishr dL_act_579 ?_
    refine pw_iconst (4) dL_act_580 (by decide) ?_
    refine g_low 4 hlt rfl (by decide) (by decide) ml_L_79 (by decide) dL_act_581 (cat_le (Nat.le_of_ble_eq_true rfl)) (fun q581 eq581 hq581 => ?_)
    refine pw_iadd dL_act_584 ?_
    refine pw_iconst (5) dL_act_585 (by decide) ?_
    refine pw_irem dL_act_586 (by decide) ?_
    refine t_istore5 dL_act_587 (by exact Nat.le_of_ble_eq_true rfl) okp_i ?_
    refine t_aload0 dL_act_589 ?_
    refine t_iload4 dL_act_590 ?_
    refine pw_iconst (2) dL_act_592 (by decide) ?_
    refine g_callV2P (Q_sackNo (l := l) hlt hTS hW.no1 (v := 2) (a := 2) rfl (by decide)) rfl ft4 rfl mc_X4_sackOf ml_L_23 mi_X4_sackOf ms_X4_sackOf in_X4 (okc_X4_sackOf (by decide)) dL_act_593 kdT (cat_le (Nat.le_of_ble_eq_true rfl)) ?_
    refine t_istore6 dL_act_596 (by exact Nat.le_of_ble_eq_true rfl) okp_i ?_
    refine t_iload4 dL_act_598 ?_
    refine pw_if_lt 658 dL_act_600 (by decide) (fun _ => ?_) (fun zz => absurd (show (-1 : Int32) < 0 by decide) zz)
    refine pw_iconst (1) dL_act_658 (by decide) ?_
    refine pw_goto 663 dL_act_659 (by decide) ?_
    refine pw_zret dL_act_663 rfl ?_ ?_
    · first | rfl | exact bI_n
    · exact ⟨rfl, rfl, rfl, _, _, _, _, hP.same, hTS⟩
set_option maxHeartbeats 8000000 in
set_option maxRecDepth 100000 in
theorem A_back {l : Launch} (hlt : l.stackTraces = false) {im : TI} {rm : TP} {lm : TL} {S : CS} {n : Nat} {T : Nat → CS} {sn : Option CS} {bl : Nat} {B : Nat → Int32} (hTS : TS (fun _ _ => 0, fun _ _ => none) S n T sn bl B im rm) (hl : lm = fun _ _ => 0) {e : Nat} (he : e < 40) (hP : PI e S) {m : Nat} (hm : m < 5) {v w : Int32} : PW l m_L_act 11 3 14 NN 664 [some (pv (some 0)), some (.int v), some (.int w), some (.int (nI m)), none, none, none] [] im rm lm (QA e bl B lm) noX := by
  obtain ⟨hW, hB, c, hh, hc40, hh40, e5, e0⟩ := id hP
  refine t_aload0 dL_act_664 ?_
  refine t_iload3 dL_act_665 ?_
  refine t_iload2 dL_act_666 ?_
  refine pw_iconst (3) dL_act_667 (by decide) ?_
  refine pw_ishr dL_act_668 ?_
  refine pw_bipush (6) dL_act_669 (by decide) ?_
  refine g_low 6 hlt rfl (by decide) (by decide) ml_L_79 (by decide) dL_act_671 (cat_le (Nat.le_of_ble_eq_true rfl)) (fun q671 eq671 hq671 => ?_)
  by_cases hp : q671 < cnt S m
  · have hsk := hW.sk hm hp
    refine g_callV2P (Q_sackAt (l := l) hlt hTS (m := m) (p := q671) (x := nI m) (a := nI q671) hm rfl rfl (by omega) (y := S.2.2 m q671 0) (if_pos hp)) rfl ft4 rfl mc_X4_sackAt ml_L_16 mi_X4_sackAt ms_X4_sackAt in_X4 (okc_X4_sackAt (by decide)) dL_act_674 kdT (cat_le (Nat.le_of_ble_eq_true rfl)) ?_
    refine t_istore4 dL_act_677 (by exact Nat.le_of_ble_eq_true rfl) okp_i ?_
    refine t_aload0 dL_act_679 ?_
    refine t_iload4 dL_act_680 ?_
    refine pw_iconst (2) dL_act_682 (by decide) ?_
    refine g_callV2P (Q_sackOf (l := l) hlt hTS hW (m := m) (p := q671) (v := 2) (x := S.2.2 m q671 0) (a := 2) hm hp rfl rfl (by decide) (y := S.2.2 m q671 2) rfl) rfl ft4 rfl mc_X4_sackOf ml_L_23 mi_X4_sackOf ms_X4_sackOf in_X4 (okc_X4_sackOf (by decide)) dL_act_683 kdT (cat_le (Nat.le_of_ble_eq_true rfl)) ?_
    refine t_istore5 dL_act_686 (by exact Nat.le_of_ble_eq_true rfl) okp_i ?_
    refine t_aload0 dL_act_688 ?_
    refine pw_bipush (10) dL_act_689 (by decide) ?_
    refine g_callV1P (Q_count (l := l) hlt hTS (a := 10) (v := 10) rfl (by decide) (y := S.1 8) rfl) rfl ft4 rfl mc_X4_count ml_L_19 mi_X4_count ms_X4_count in_X4 (okc_X4_count (by decide)) dL_act_691 kdT (cat_le (Nat.le_of_ble_eq_true rfl)) ?_
    refine t_istore6 dL_act_694 (by exact Nat.le_of_ble_eq_true rfl) okp_i ?_
    refine t_iload4 dL_act_696 ?_
    refine pw_if_lt 736 dL_act_698 (by decide) (fun zz => absurd zz hsk.1) (fun _ => ?_)
    refine t_aload0 dL_act_701 ?_
    refine t_iload4 dL_act_702 ?_
    refine g_callV1G (Q_back (l := l) hlt hTS hW hm hp) rfl ft4 rfl mc_X4_back ml_L_97 mi_X4_back ms_X4_back in_X4 (okc_X4_back (by decide)) dL_act_704 kdT (cat_le (Nat.le_of_ble_eq_true rfl)) (fun _ _ _ _ h => h.elim) (by decide) (fun zv704 zim704 zrm704 zlm704 zh704 => ?_)
    obtain ⟨rfl, rfl, hT1⟩ := zh704
    refine t_iload5 dL_act_707 ?_
    refine pw_icmp_ne 740 dL_act_709 (by decide) (fun zz => absurd rfl zz) (fun _ => ?_)
    refine t_aload0 dL_act_712 ?_
    refine t_iload4 dL_act_713 ?_
    refine pw_iconst (0) dL_act_715 (by decide) ?_
    refine g_callV2P (Q_sackNo (l := l) hlt hT1 (bk_no hW hm hp) (v := 0) (a := 0) rfl (by decide)) rfl ft4 rfl mc_X4_sackOf ml_L_23 mi_X4_sackOf ms_X4_sackOf in_X4 (okc_X4_sackOf (by decide)) dL_act_716 kdT (cat_le (Nat.le_of_ble_eq_true rfl)) ?_
    refine pw_iconst (-1) dL_act_719 (by decide) ?_
    refine pw_icmp_ne 740 dL_act_720 (by decide) (fun zz => absurd rfl zz) (fun _ => ?_)
    refine t_aload0 dL_act_723 ?_
    refine pw_bipush (10) dL_act_724 (by decide) ?_
    refine g_callV1P (Q_count (l := l) hlt hT1 (a := 10) (v := 10) rfl (by decide) (y := S.1 8 + 1) upG_eq) rfl ft4 rfl mc_X4_count ml_L_19 mi_X4_count ms_X4_count in_X4 (okc_X4_count (by decide)) dL_act_726 kdT (cat_le (Nat.le_of_ble_eq_true rfl)) ?_
    refine t_iload6 dL_act_729 ?_
    refine pw_iconst (1) dL_act_731 (by decide) ?_
    refine pw_iadd dL_act_732 ?_
    refine pw_icmp_ne 740 dL_act_733 (by decide) (fun zz => absurd rfl zz) (fun _ => ?_)
    refine pw_iconst (1) dL_act_736 (by decide) ?_
    refine pw_goto 741 dL_act_737 (by decide) ?_
    refine pw_zret dL_act_741 rfl ?_ ?_
    · first | rfl | exact bI_n
    · exact ⟨rfl, rfl, rfl, _, _, _, _, hP.up (hW.back hm hp) (hB.dp hm (hW.1.1.c hm).2 (by omega)) rfl rfl, hT1⟩
  · have e : (if q671 < cnt S m then S.2.2 m q671 0 else -1) = -1 := if_neg hp
    refine g_callV2P (Q_sackAt (l := l) hlt hTS (m := m) (p := q671) (x := nI m) (a := nI q671) hm rfl rfl (by omega) (y := -1) e) rfl ft4 rfl mc_X4_sackAt ml_L_16 mi_X4_sackAt ms_X4_sackAt in_X4 (okc_X4_sackAt (by decide)) dL_act_674 kdT (cat_le (Nat.le_of_ble_eq_true rfl)) ?_
    refine t_istore4 dL_act_677 (by exact Nat.le_of_ble_eq_true rfl) okp_i ?_
    refine t_aload0 dL_act_679 ?_
    refine t_iload4 dL_act_680 ?_
    refine pw_iconst (2) dL_act_682 (by decide) ?_
    refine g_callV2P (Q_sackNo (l := l) hlt hTS hW.no1 (v := 2) (a := 2) rfl (by decide)) rfl ft4 rfl mc_X4_sackOf ml_L_23 mi_X4_sackOf ms_X4_sackOf in_X4 (okc_X4_sackOf (by decide)) dL_act_683 kdT (cat_le (Nat.le_of_ble_eq_true rfl)) ?_
    refine t_istore5 dL_act_686 (by exact Nat.le_of_ble_eq_true rfl) okp_i ?_
    refine t_aload0 dL_act_688 ?_
    refine pw_bipush (10) dL_act_689 (by decide) ?_
    refine g_callV1P (Q_count (l := l) hlt hTS (a := 10) (v := 10) rfl (by decide) (y := S.1 8) rfl) rfl ft4 rfl mc_X4_count ml_L_19 mi_X4_count ms_X4_count in_X4 (okc_X4_count (by decide)) dL_act_691 kdT (cat_le (Nat.le_of_ble_eq_true rfl)) ?_
    refine t_istore6 dL_act_694 (by exact Nat.le_of_ble_eq_true rfl) okp_i ?_
    refine t_iload4 dL_act_696 ?_
    refine pw_if_lt 736 dL_act_698 (by decide) (fun _ => ?_) (fun zz => absurd (show (-1 : Int32) < 0 by decide) zz)
    refine pw_iconst (1) dL_act_736 (by decide) ?_
    refine pw_goto 741 dL_act_737 (by decide) ?_
    refine pw_zret dL_act_741 rfl ?_ ?_
    · first | rfl | exact bI_n
    · exact ⟨rfl, rfl, rfl, _, _, _, _, hP.same, hTS⟩
set_option maxHeartbeats 8000000 in
set_option maxRecDepth 100000 in
theorem A_ground {l : Launch} (hlt : l.stackTraces = false) {im : TI} {rm : TP} {lm : TL} {S : CS} {n : Nat} {T : Nat → CS} {sn : Option CS} {bl : Nat} {B : Nat → Int32} (hTS : TS (fun _ _ => 0, fun _ _ => none) S n T sn bl B im rm) (hl : lm = fun _ _ => 0) {e : Nat} (he : e < 40) (hP : PI e S) {m : Nat} (hm : m < 5) {v w : Int32} : PW l m_L_act 11 3 14 NN 742 [some (pv (some 0)), some (.int v), some (.int w), some (.int (nI m)), none, none, none] [] im rm lm (QA e bl B lm) noX := by
  obtain ⟨hW, hB, c, hh, hc40, hh40, e5, e0⟩ := id hP
  refine t_aload0 dL_act_742 ?_
  refine t_iload2 dL_act_743 ?_
  refine pw_iconst (3) dL_act_744 (by decide) ?_
  refine pw_ishr dL_act_745 ?_
  refine t_aload0 dL_act_746 ?_
  refine pw_bipush (6) dL_act_747 (by decide) ?_
  refine g_callV1P (Q_count (l := l) hlt hTS (a := 6) (v := 6) rfl (by decide) (y := nI c) e5) rfl ft4 rfl mc_X4_count ml_L_19 mi_X4_count ms_X4_count in_X4 (okc_X4_count (by decide)) dL_act_749 kdT (cat_le (Nat.le_of_ble_eq_true rfl)) ?_
  refine pw_iconst (1) dL_act_752 (by decide) ?_
  refine pw_iadd dL_act_753 ?_
  rw [nI_1]
  refine g_low (c + 1) hlt rfl (by omega) (by omega) ml_L_79 (by decide) dL_act_754 (cat_le (Nat.le_of_ble_eq_true rfl)) (fun q754 eq754 hq754 => ?_)
  refine g_callS2G (H_isGround (l := l) hlt hTS hW) rfl mc_L_isGround ml_L_100 mi_L_isGround in_L (okc_L_isGround (by decide)) dL_act_757 (Nat.zero_le _) (fun _ _ _ _ h => h.elim) (by decide) (fun zv757 zim757 zrm757 zlm757 zh757 => ?_)
  obtain ⟨rfl, rfl, n757, T757, hT1⟩ := zh757
  refine pw_zret dL_act_760 rfl ?_ ?_
  · first | rfl | exact bI_n
  · exact ⟨rfl, rfl, rfl, _, _, _, _, hP.same, hT1⟩
set_option maxHeartbeats 8000000 in
set_option maxRecDepth 100000 in
theorem A_best {l : Launch} (hlt : l.stackTraces = false) {im : TI} {rm : TP} {lm : TL} {S : CS} {n : Nat} {T : Nat → CS} {sn : Option CS} {bl : Nat} {B : Nat → Int32} (hTS : TS (fun _ _ => 0, fun _ _ => none) S n T sn bl B im rm) (hl : lm = fun _ _ => 0) {e : Nat} (he : e < 40) (hP : PI e S) {m : Nat} (hm : m < 5) {v w : Int32} : PW l m_L_act 11 3 14 NN 761 [some (pv (some 0)), some (.int v), some (.int w), some (.int (nI m)), none, none, none] [] im rm lm (QA e bl B lm) noX := by
  obtain ⟨hW, hB, c, hh, hc40, hh40, e5, e0⟩ := id hP
  refine t_iload2 dL_act_761 ?_
  refine pw_iconst (3) dL_act_762 (by decide) ?_
  refine pw_ishr dL_act_763 ?_
  refine pw_iconst (3) dL_act_764 (by decide) ?_
  refine g_low 3 hlt rfl (by decide) (by decide) ml_L_79 (by decide) dL_act_765 (Nat.zero_le _) (fun q765 eq765 hq765 => ?_)
  by_cases h0 : 0 < q765
  · refine pw_if_gt 779 dL_act_768 (by decide) (fun _ => ?_) (fun zz => absurd (nI_lt (a := 0) h0 (by omega)) zz)
    refine pw_iconst (1) dL_act_779 (by decide) ?_
    refine pw_goto 784 dL_act_780 (by decide) ?_
    refine pw_zret dL_act_784 rfl ?_ ?_
    · first | rfl | exact bI_n
    · exact ⟨rfl, rfl, rfl, _, _, _, _, hP.same, hTS⟩
  · refine pw_if_gt 779 dL_act_768 (by decide) (fun zz => absurd zz (nI_nlt (a := 0) (b := q765) (by omega) (by decide))) (fun _ => ?_)
    refine t_aload0 dL_act_771 ?_
    refine t_iload3 dL_act_772 ?_
    refine g_callS2G (H_isBest (l := l) hlt hTS hW hm) rfl mc_L_isBest ml_L_103 mi_L_isBest in_L (okc_L_isBest (by decide)) dL_act_773 (Nat.zero_le _) (fun _ _ _ _ h => h.elim) (by decide) (fun zv773 zim773 zrm773 zlm773 zh773 => ?_)
    obtain ⟨rfl, rfl, n773, T773, hT1⟩ := zh773
    refine pw_if_eq 783 dL_act_776 (by decide) (fun h => absurd h (by decide)) (fun _ => ?_)
    refine pw_iconst (1) dL_act_779 (by decide) ?_
    refine pw_goto 784 dL_act_780 (by decide) ?_
    refine pw_zret dL_act_784 rfl ?_ ?_
    · first | rfl | exact bI_n
    · exact ⟨rfl, rfl, rfl, _, _, _, _, hP.same, hT1⟩
set_option maxHeartbeats 8000000 in
set_option maxRecDepth 100000 in
theorem A_keep {l : Launch} (hlt : l.stackTraces = false) {im : TI} {rm : TP} {lm : TL} {S : CS} {n : Nat} {T : Nat → CS} {sn : Option CS} {bl : Nat} {B : Nat → Int32} (hTS : TS (fun _ _ => 0, fun _ _ => none) S n T sn bl B im rm) (hl : lm = fun _ _ => 0) {e : Nat} (he : e < 40) (hP : PI e S) {m : Nat} (hm : m < 5) {v w : Int32} : PW l m_L_act 11 3 14 NN 785 [some (pv (some 0)), some (.int v), some (.int w), some (.int (nI m)), none, none, none] [] im rm lm (QA e bl B lm) noX := by
  obtain ⟨hW, hB, c, hh, hc40, hh40, e5, e0⟩ := id hP
  refine t_aload0 dL_act_785 ?_
  refine g_callV0G (Q_keep (l := l) hlt hTS) rfl ft4 rfl mc_X4_keep ml_L_106 mi_X4_keep ms_X4_keep in_X4 (okc_X4_keep (by decide)) dL_act_786 kdT (cat_le (Nat.le_of_ble_eq_true rfl)) (fun _ _ _ _ h => h.elim) (by decide) (fun zv786 zim786 zrm786 zlm786 zh786 => ?_)
  obtain ⟨rfl, rfl, hT1⟩ := zh786
  refine t_istore4 dL_act_789 (by exact Nat.le_of_ble_eq_true rfl) okp_i ?_
  refine t_aload0 dL_act_791 ?_
  refine pw_bipush (6) dL_act_792 (by decide) ?_
  refine g_callV1P (Q_count (l := l) hlt hT1 (a := 6) (v := 6) rfl (by decide) (y := S.1 5) rfl) rfl ft4 rfl mc_X4_count ml_L_19 mi_X4_count ms_X4_count in_X4 (okc_X4_count (by decide)) dL_act_794 kdT (cat_le (Nat.le_of_ble_eq_true rfl)) ?_
  refine t_istore5 dL_act_797 (by exact Nat.le_of_ble_eq_true rfl) okp_i ?_
  refine t_iload4 dL_act_799 ?_
  refine t_aload0 dL_act_801 ?_
  refine pw_iconst (0) dL_act_802 (by decide) ?_
  refine g_callV1P (Q_count (l := l) hlt hT1 (a := 0) (v := 0) rfl (by decide) (y := S.1 0) rfl) rfl ft4 rfl mc_X4_count ml_L_19 mi_X4_count ms_X4_count in_X4 (okc_X4_count (by decide)) dL_act_803 kdT (cat_le (Nat.le_of_ble_eq_true rfl)) ?_
  refine pw_icmp_ne 860 dL_act_806 (by decide) (fun zz => absurd rfl zz) (fun _ => ?_)
  refine t_aload0 dL_act_809 ?_
  refine pw_iconst (1) dL_act_810 (by decide) ?_
  refine t_iload2 dL_act_811 ?_
  refine pw_iconst (3) dL_act_812 (by decide) ?_
  refine pw_ishr dL_act_813 ?_
  refine pw_bipush (20) dL_act_814 (by decide) ?_
  refine g_low 20 hlt rfl (by decide) (by decide) ml_L_79 (by decide) dL_act_816 (cat_le (Nat.le_of_ble_eq_true rfl)) (fun q816 eq816 hq816 => ?_)
  refine pw_iadd dL_act_819 ?_
  rw [show (1 : Int32) + nI q816 = nI (1 + q816) from nI_add 1 q816]
  refine g_callS2G (H_passes (l := l) hlt hT1 hl (N := 1 + q816) ⟨by omega, by omega⟩) rfl mc_L_passes ml_L_109 mi_L_passes in_L (okc_L_passes (by decide)) dL_act_820 (Nat.zero_le _) (fun _ _ _ _ h => h.elim) (by decide) (fun zv820 zim820 zrm820 zlm820 zh820 => ?_)
  obtain ⟨rfl, rfl, n820, T820, hT2⟩ := zh820
  refine pw_if_eq 860 dL_act_823 (by decide) (fun h => absurd h (by decide)) (fun _ => ?_)
  refine t_aload0 dL_act_826 ?_
  refine g_callV0G (Q_restore (l := l) hlt hT2) rfl ft4 rfl mc_X4_restore ml_L_112 mi_X4_restore ms_X4_restore in_X4 (okc_X4_restore (by decide)) dL_act_827 kdT (cat_le (Nat.le_of_ble_eq_true rfl)) (fun _ _ _ _ h => h.elim) (by decide) (fun zv827 zim827 zrm827 zlm827 zh827 => ?_)
  obtain ⟨rfl, rfl, hT3⟩ := zh827
  refine t_iload4 dL_act_830 ?_
  refine pw_icmp_ne 860 dL_act_832 (by decide) (fun zz => absurd rfl zz) (fun _ => ?_)
  refine t_aload0 dL_act_835 ?_
  refine pw_iconst (0) dL_act_836 (by decide) ?_
  refine g_callV1P (Q_count (l := l) hlt hT3 (a := 0) (v := 0) rfl (by decide) (y := S.1 0) rfl) rfl ft4 rfl mc_X4_count ml_L_19 mi_X4_count ms_X4_count in_X4 (okc_X4_count (by decide)) dL_act_837 kdT (cat_le (Nat.le_of_ble_eq_true rfl)) ?_
  refine t_iload4 dL_act_840 ?_
  refine pw_icmp_ne 860 dL_act_842 (by decide) (fun zz => absurd rfl zz) (fun _ => ?_)
  refine t_aload0 dL_act_845 ?_
  refine pw_bipush (6) dL_act_846 (by decide) ?_
  refine g_callV1P (Q_count (l := l) hlt hT3 (a := 6) (v := 6) rfl (by decide) (y := S.1 5) rfl) rfl ft4 rfl mc_X4_count ml_L_19 mi_X4_count ms_X4_count in_X4 (okc_X4_count (by decide)) dL_act_848 kdT (cat_le (Nat.le_of_ble_eq_true rfl)) ?_
  refine t_iload5 dL_act_851 ?_
  refine pw_icmp_ne 860 dL_act_853 (by decide) (fun zz => absurd rfl zz) (fun _ => ?_)
  refine pw_iconst (1) dL_act_856 (by decide) ?_
  refine pw_goto 861 dL_act_857 (by decide) ?_
  refine pw_zret dL_act_861 rfl ?_ ?_
  · first | rfl | exact bI_n
  · exact ⟨rfl, rfl, rfl, _, _, _, _, hP.same, hT3⟩
set_option maxHeartbeats 8000000 in
set_option maxRecDepth 100000 in
theorem A_pass {l : Launch} (hlt : l.stackTraces = false) {im : TI} {rm : TP} {lm : TL} {S : CS} {n : Nat} {T : Nat → CS} {sn : Option CS} {bl : Nat} {B : Nat → Int32} (hTS : TS (fun _ _ => 0, fun _ _ => none) S n T sn bl B im rm) (hl : lm = fun _ _ => 0) {e : Nat} (he : e < 40) (hP : PI e S) {m : Nat} (hm : m < 5) {v w : Int32} : PW l m_L_act 11 3 14 NN 862 [some (pv (some 0)), some (.int v), some (.int w), some (.int (nI m)), none, none, none] [] im rm lm (QA e bl B lm) noX := by
  obtain ⟨hW, hB, c, hh, hc40, hh40, e5, e0⟩ := id hP
  refine t_aload0 dL_act_862 ?_
  refine pw_iconst (1) dL_act_863 (by decide) ?_
  refine t_iload2 dL_act_864 ?_
  refine pw_iconst (3) dL_act_865 (by decide) ?_
  refine pw_ishr dL_act_866 ?_
  refine t_iload2 dL_act_867 ?_
  refine pw_bipush (9) dL_act_868 (by decide) ?_
  refine pw_ishr dL_act_870 ?_
  refine pw_iconst (3) dL_act_871 (by decide) ?_
  refine g_low 3 hlt rfl (by decide) (by decide) ml_L_79 (by decide) dL_act_872 (cat_le (Nat.le_of_ble_eq_true rfl)) (fun q872 eq872 hq872 => ?_)
  by_cases h3 : nI q872 = 0
  · refine pw_if_ne 883 dL_act_875 (by decide) (fun zz => absurd h3 zz) (fun _ => ?_)
    refine pw_bipush (48) dL_act_878 (by decide) ?_
    refine pw_goto 884 dL_act_880 (by decide) ?_
    refine g_low 48 hlt rfl (by decide) (by decide) ml_L_79 (by decide) dL_act_884 (cat_le (Nat.le_of_ble_eq_true rfl)) (fun q884 eq884 hq884 => ?_)
    refine pw_iadd dL_act_887 ?_
    rw [show (1 : Int32) + nI q884 = nI (1 + q884) from nI_add 1 q884]
    refine g_callS2G (H_passes (l := l) hlt hTS hl (N := 1 + q884) ⟨by omega, by omega⟩) rfl mc_L_passes ml_L_109 mi_L_passes in_L (okc_L_passes (by decide)) dL_act_888 (Nat.zero_le _) (fun _ _ _ _ h => h.elim) (by decide) (fun zv888 zim888 zrm888 zlm888 zh888 => ?_)
    obtain ⟨rfl, rfl, n888, T888, hT1⟩ := zh888
    refine pw_zret dL_act_891 rfl ?_ ?_
    · first | rfl | exact bI_n
    · exact ⟨rfl, rfl, rfl, _, _, _, _, hP.hours (by omega), hT1⟩
  · refine pw_if_ne 883 dL_act_875 (by decide) (fun _ => ?_) (fun zz => absurd h3 zz)
    refine pw_iconst (4) dL_act_883 (by decide) ?_
    refine g_low 4 hlt rfl (by decide) (by decide) ml_L_79 (by decide) dL_act_884 (cat_le (Nat.le_of_ble_eq_true rfl)) (fun q884 eq884 hq884 => ?_)
    refine pw_iadd dL_act_887 ?_
    rw [show (1 : Int32) + nI q884 = nI (1 + q884) from nI_add 1 q884]
    refine g_callS2G (H_passes (l := l) hlt hTS hl (N := 1 + q884) ⟨by omega, by omega⟩) rfl mc_L_passes ml_L_109 mi_L_passes in_L (okc_L_passes (by decide)) dL_act_888 (Nat.zero_le _) (fun _ _ _ _ h => h.elim) (by decide) (fun zv888 zim888 zrm888 zlm888 zh888 => ?_)
    obtain ⟨rfl, rfl, n888, T888, hT1⟩ := zh888
    refine pw_zret dL_act_891 rfl ?_ ?_
    · first | rfl | exact bI_n
    · exact ⟨rfl, rfl, rfl, _, _, _, _, hP.hours (by omega), hT1⟩
set_option maxHeartbeats 4000000 in
set_option maxRecDepth 100000 in
theorem H_act {l : Launch} (hlt : l.stackTraces = false) {im : TI} {rm : TP} {lm : TL} {S : CS} {n : Nat} {T : Nat → CS} {sn : Option CS} {bl : Nat} {B : Nat → Int32} (hTS : TS (fun _ _ => 0, fun _ _ => none) S n T sn bl B im rm) (hl : lm = fun _ _ => 0) {e : Nat} (he : e < 40) (hP : PI e S) {v w : Int32} : Con l m_L_act 11 3 14 NN [pv (some 0), .int (v), .int (w)] im rm lm (QA e bl B lm) noX := by
  refine Con.ofN (k := 4) (L0 := [some (pv (some 0)), some (.int (v)), some (.int (w)), none, none, none, none]) hlt (by decide +kernel) rfl rfl (by rw [en1 pv_cat, en1 rfl, en1 rfl, en0]; exact Nat.le_of_ble_eq_true rfl) (by rw [en1 pv_cat, en1 rfl, en1 rfl, en0]; rfl) ?_
  refine t_iload2 dL_act_0 ?_
  refine pw_iconst (5) dL_act_1 (by decide) ?_
  refine g_low 5 hlt rfl (by decide) (by decide) ml_L_79 (by decide) dL_act_2 (Nat.zero_le _) (fun q2 eq2 hq2 => ?_)
  refine t_istore3 dL_act_5 (by exact Nat.le_of_ble_eq_true rfl) okp_i ?_
  refine t_iload1 dL_act_6 ?_
  refine pw_bipush (16) dL_act_7 (by decide) ?_
  refine g_low 16 hlt rfl (by decide) (by decide) ml_L_79 (by decide) dL_act_9 (Nat.zero_le _) (fun q9 eq9 hq9 => ?_)
  have hm := hq2
  rcases (show q9 = 0 ∨ q9 = 1 ∨ q9 = 2 ∨ q9 = 3 ∨ q9 = 4 ∨ q9 = 5 ∨ q9 = 6 ∨ q9 = 7 ∨ q9 = 8 ∨ q9 = 9 ∨ q9 = 10 ∨ q9 = 11 ∨ q9 = 12 ∨ q9 = 13 ∨ q9 = 14 ∨ q9 = 15 by omega) with e0 | e1 | e2 | e3 | e4 | e5 | e6 | e7 | e8 | e9 | e10 | e11 | e12 | e13 | e14 | e15
  · subst e0
    refine pw_table (off := 68) 80 dL_act_12 (by decide) (by decide) (by decide) (by decide) ?_
    exact A_pond hlt hTS hl he hP hm
  · subst e1
    refine pw_table (off := 177) 189 dL_act_12 (by decide) (by decide) (by decide) (by decide) ?_
    exact A_gate hlt hTS hl he hP hm
  · subst e2
    refine pw_table (off := 263) 275 dL_act_12 (by decide) (by decide) (by decide) (by decide) ?_
    exact A_gear hlt hTS hl he hP hm
  · subst e3
    refine pw_table (off := 317) 329 dL_act_12 (by decide) (by decide) (by decide) (by decide) ?_
    exact A_set hlt hTS hl he hP hm
  · subst e4
    refine pw_table (off := 417) 429 dL_act_12 (by decide) (by decide) (by decide) (by decide) ?_
    exact A_sack hlt hTS hl he hP hm
  · subst e5
    refine pw_table (off := 417) 429 dL_act_12 (by decide) (by decide) (by decide) (by decide) ?_
    exact A_sack hlt hTS hl he hP hm
  · subst e6
    refine pw_table (off := 417) 429 dL_act_12 (by decide) (by decide) (by decide) (by decide) ?_
    exact A_sack hlt hTS hl he hP hm
  · subst e7
    refine pw_table (off := 417) 429 dL_act_12 (by decide) (by decide) (by decide) (by decide) ?_
    exact A_sack hlt hTS hl he hP hm
  · subst e8
    refine pw_table (off := 546) 558 dL_act_12 (by decide) (by decide) (by decide) (by decide) ?_
    exact A_carry hlt hTS hl he hP hm
  · subst e9
    refine pw_table (off := 652) 664 dL_act_12 (by decide) (by decide) (by decide) (by decide) ?_
    exact A_back hlt hTS hl he hP hm
  · subst e10
    refine pw_table (off := 730) 742 dL_act_12 (by decide) (by decide) (by decide) (by decide) ?_
    exact A_ground hlt hTS hl he hP hm
  · subst e11
    refine pw_table (off := 749) 761 dL_act_12 (by decide) (by decide) (by decide) (by decide) ?_
    exact A_best hlt hTS hl he hP hm
  · subst e12
    refine pw_table (off := 773) 785 dL_act_12 (by decide) (by decide) (by decide) (by decide) ?_
    exact A_keep hlt hTS hl he hP hm
  · subst e13
    refine pw_tableD 862 dL_act_12 (Or.inr (by decide)) (by decide) ?_
    exact A_pass hlt hTS hl he hP hm
  · subst e14
    refine pw_tableD 862 dL_act_12 (Or.inr (by decide)) (by decide) ?_
    exact A_pass hlt hTS hl he hP hm
  · subst e15
    refine pw_tableD 862 dL_act_12 (Or.inr (by decide)) (by decide) ?_
    exact A_pass hlt hTS hl he hP hm

/-! The calls that only look, with plain answers -/
section Q31
variable {l : Launch} {mt : MT} {d mc ms N pc : Nat} {tl : List (Option Value)} {st : List Value} {im : TI} {rm : TP} {lm : TL} {Q : TQ} {X : TX}
theorem t_iload9 {x0 x1 x2 x3 x4 x5 x6 x7 x8 : Option Value} {x : Int32} (hd : decode mt.2.1 pc = .ok (.iload 9, 2)) (kk : PW l mt d mc ms N (pc + 2) (x0 :: x1 :: x2 :: x3 :: x4 :: x5 :: x6 :: x7 :: x8 :: some (.int x) :: tl) (.int x :: st) im rm lm Q X) : PW l mt d mc ms N pc (x0 :: x1 :: x2 :: x3 :: x4 :: x5 :: x6 :: x7 :: x8 :: some (.int x) :: tl) st im rm lm Q X := pw_iload (i := 9) hd rfl kk
theorem t_istore9 {x0 x1 x2 x3 x4 x5 x6 x7 x8 : Option Value} {y : Option Value} {x : Int32} (hd : decode mt.2.1 pc = .ok (.istore 9, 2)) (hn : 9 < mt.2.2.1) (hp : okp x8) (kk : PW l mt d mc ms N (pc + 2) (x0 :: x1 :: x2 :: x3 :: x4 :: x5 :: x6 :: x7 :: x8 :: some (.int x) :: tl) st im rm lm Q X) : PW l mt d mc ms N pc (x0 :: x1 :: x2 :: x3 :: x4 :: x5 :: x6 :: x7 :: x8 :: y :: tl) (.int x :: st) im rm lm Q X := pw_istore (i := 9) hd hn (hp_of hp rfl) rfl kk
end Q31
section Q32
variable {l : Launch} {im : TI} {rm : TP} {lm : TL} {Z : TI × TP} {S : CS} {n : Nat} {T : Nat → CS} {sn : Option CS} {bl : Nat} {B : Nat → Int32}
theorem v_in {v k : Nat} (h : v ≤ k) (hk : k < 2 ^ 31) : (0 : Int32) ≤ nI v ∧ nI v ≤ nI k := ⟨nI_pos' (by omega), nI_le h hk⟩
theorem Q_mill (hlt : l.stackTraces = false) (hTS : TS Z S n T sn bl B im rm) {m v : Nat} {x a y : Int32} (hm : m < 5) (hx : x = nI m) (ha : a = nI v) (hv : v ≤ 10) (hy : mlS S m v = y) : Con l m_X4_mill 8 0 0 NN [pv (some 0), .int x, .int a] im rm lm (QP (.int y) im rm lm) noX := by
  subst hx; subst ha; subst hy
  exact C_mill hlt hTS (maO_nI hm) hv (v_in hv (by decide))
theorem Q_count (hlt : l.stackTraces = false) (hTS : TS Z S n T sn bl B im rm) {v : Nat} {a y : Int32} (ha : a = nI v) (hv : v ≤ 14) (hy : alS S n v = y) : Con l m_X4_count 8 0 0 NN [pv (some 0), .int a] im rm lm (QP (.int y) im rm lm) noX := by
  subst ha; subst hy
  exact C_count hlt hTS hv (v_in hv (by decide))
theorem Q_why (hlt : l.stackTraces = false) (hTS : TS Z S n T sn bl B im rm) {m : Nat} {x : Int32} (hm : m < 5) (hx : x = nI m) : Con l m_X4_whyNot 8 0 0 NN [pv (some 0), .int x] im rm lm (QP (.int (rsF S m)) im rm lm) noX := by
  subst hx
  exact C_whyNot hlt hTS (maO_nI hm)
theorem Q_tide (hlt : l.stackTraces = false) (hTS : TS Z S n T sn bl B im rm) {x : Int32} (hx : 0 ≤ x) : Con l m_X4_tide 8 0 0 NN [pv (some 0), .int x] im rm lm (QP (.int (tdF S x)) im rm lm) noX := C_tide hlt hTS ⟨hx, i32_max x⟩
theorem Q_next (hlt : l.stackTraces = false) (hTS : TS Z S n T sn bl B im rm) {k : Nat} {x : Int32} (hk : k < 2 ^ 31) (hx : x = nI k) : Con l m_X4_next 8 0 0 NN [pv (some 0), .int x] im rm lm (QP (.int (oI (rkS S k))) im rm lm) noX := by
  subst hx
  by_cases h5 : k < 5
  · exact C_next hlt hTS h5 ⟨nI_pos' hk, i32_max _⟩
  · rw [rkS_big (Nat.le_of_not_lt h5)]
    exact C_nextN hlt hTS (fun z => h5 ((nI_ltI (b := 5) hk (by decide)).mp z)) ⟨nI_pos' hk, i32_max _⟩
theorem Q_sackAt (hlt : l.stackTraces = false) (hTS : TS Z S n T sn bl B im rm) {m p : Nat} {x a : Int32} (hm : m < 5) (hx : x = nI m) (ha : a = nI p) (hp : p < 2 ^ 31) {y : Int32} (hy : (if p < cnt S m then S.2.2 m p 0 else -1) = y) : Con l m_X4_sackAt 8 0 0 NN [pv (some 0), .int x, .int a] im rm lm (QP (.int y) im rm lm) noX := by
  subst hx; subst ha
  have h := C_sackAt (lm := lm) hlt hTS (maO_nI hm) (a := nI p) ⟨nI_pos' hp, i32_max _⟩
  obtain ⟨-, ⟨hR, hI⟩, -⟩ := id hTS
  have hc := hI.c hm
  have hMA := hR.2 m hm
  have e9 : im (mA 1 m) 11 = nI (cnt S m) := (hMA.2.1 9 (by decide)).trans hc.2
  rw [show (if ¬ nI p < 0 ∧ nI p < im (mA 1 m) 11 ∧ nI p < 6 then im (mA 1 m + 1) (nI p).toNatClampNeg else -1) = y from ?_] at h
  · exact h
  · rw [← hy, e9]
    by_cases hq : p < cnt S m
    · rw [if_pos hq, if_pos ⟨nI_pos hp, nI_lt hq (by omega), nI_lt (b := 6) (by omega) (by decide)⟩, nI_clamp hp]
      exact (hMA.2.2 p (by omega)).1
    · rw [if_neg hq, if_neg fun z => hq ((nI_ltI hp (by omega)).mp z.2.1)]
def skV (S : CS) (m p v : Nat) : Int32 := if v = 0 then nI m else if v = 4 then nI p else S.2.2 m p v
theorem Q_sackOf (hlt : l.stackTraces = false) (hTS : TS Z S n T sn bl B im rm) (hW : WF S) {m p v : Nat} {x a y : Int32} (hm : m < 5) (hp : p < cnt S m) (hx : x = S.2.2 m p 0) (ha : a = nI v) (hv : v ≤ 4) (hy : skV S m p v = y) : Con l m_X4_sackOf 8 0 0 NN [pv (some 0), .int x, .int a] im rm lm (QP (.int y) im rm lm) noX := by
  subst hx; subst ha; subst hy
  exact C_sackOf hlt hTS (mo_at hW.1.1 hW.nus hm hp) (po_at hW.nus hm hp) hv (v_in hv (by decide))
theorem Q_sackNo (hlt : l.stackTraces = false) (hTS : TS Z S n T sn bl B im rm) {v : Nat} {x a : Int32} (hx : moS S x = none) (ha : a = nI v) (hv : v ≤ 4) : Con l m_X4_sackOf 8 0 0 NN [pv (some 0), .int x, .int a] im rm lm (QP (.int (-1)) im rm lm) noX := by
  subst ha
  exact C_sackOfN hlt hTS hx (v_in hv (by decide))
end Q32

/-! Hours on hours, what undo gives back, when a sack is ground, what gears give -/
theorem hsS_add {S : CS} : ∀ b a, hsS a (hsS b S) = hsS (b + a) S := by
  intro b a
  induction a with
  | zero => rfl
  | succ a ih => rw [hsS_succ, ih]; exact (hsS_succ (b + a)).symm
theorem TS.n6 {Z : TI × TP} {S : CS} {n : Nat} {T : Nat → CS} {sn : Option CS} {bl : Nat} {B : Nat → Int32} {im : TI} {rm : TP} (h : TS Z S n T sn bl B im rm) : n ≤ 6 := by
  obtain ⟨-, -, ⟨⟨hs, hO⟩, -⟩, -⟩ := h
  exact hO.2.2.1
theorem sh_pos {n : Nat} : 0 < shN n := by unfold shN; split <;> omega
theorem sh_top {n : Nat} {T : Nat → CS} {S : CS} (h6 : n ≤ 6) : shT n T S (shN n - 1) = S := by
  unfold shN shT
  by_cases e : n < 6
  · rw [if_pos e, if_pos e]
    exact if_pos (by omega)
  · rw [if_neg e, if_neg e]
    exact if_neg (by decide)
theorem sh_le {n : Nat} (_ : n ≤ 6) : shN n ≤ 6 := by unfold shN; split <;> omega
theorem sh_two {n : Nat} {T : Nat → CS} {S S1 : CS} (h6 : n ≤ 6) : shT (shN n) (shT n T S) S1 (shN (shN n) - 1 - 1) = S ∧ 0 < shN (shN n) - 1 := by
  by_cases e : n < 5
  · have a : shN n = n + 1 := if_pos (by omega)
    have b : shN (shN n) = n + 2 := by rw [a]; exact if_pos (by omega)
    rw [b, a]
    unfold shT
    rw [if_pos (by omega : n + 1 < 6), if_pos (by omega : n < 6)]
    refine ⟨?_, by omega⟩
    show (if n + 2 - 1 - 1 = n + 1 then S1 else if n + 2 - 1 - 1 = n then S else T (n + 2 - 1 - 1)) = S
    rw [if_neg (by omega), if_pos (by omega)]
  · have a : shN n = 6 := by
      by_cases e2 : n < 6
      · have : n = 5 := by omega
        rw [this]; rfl
      · exact if_neg e2
    have b : shN (shN n) = 6 := by rw [a]; rfl
    rw [b, a]
    refine ⟨?_, by decide⟩
    have c : shT n T S 5 = S := by have := sh_top (T := T) (S := S) h6; rw [a] at this; exact this
    show (if (4 : Nat) < 5 then shT n T S (4 + 1) else S1) = S
    rw [if_pos (by decide)]
    exact c
theorem uf_self {S : CS} {m w : Nat} : upF S m w (S.2.1 m w) = S := by
  unfold upF
  obtain ⟨G, F, K⟩ := S
  congr 1
  congr 1
  funext a b
  show (if a = m ∧ b = w then F m w else F a b) = F a b
  by_cases e : a = m ∧ b = w
  · rw [if_pos e, e.1, e.2]
  · rw [if_neg e]
theorem WF.wh {S : CS} (h : WF S) {m : Nat} (hm : m < 5) : ((8 : Int32) ≤ S.2.1 m 5 ∧ S.2.1 m 5 ≤ 60) ∧ (8 : Int32) ≤ S.2.1 m 6 ∧ S.2.1 m 6 ≤ 60 := by
  obtain ⟨_, _, _, _, a, b⟩ := h.2.2.2.1 m hm
  rw [Int32.le_iff_toInt_le, Int32.le_iff_toInt_le, Int32.le_iff_toInt_le, Int32.le_iff_toInt_le, show (8 : Int32).toInt = 8 by decide, show (60 : Int32).toInt = 60 by decide]
  exact ⟨a, b⟩
theorem to_is {S : CS} (h : WF S) {m : Nat} (hm : m < 5) : tof (S.2.1 m) 100 = 100 * S.2.1 m 5 / S.2.1 m 6 ∧ ¬ S.2.1 m 6 = 0 := by
  obtain ⟨_, _, _, _, _, b1, _⟩ := h.2.2.2.1 m hm
  have z : (0 : Int32) < S.2.1 m 6 := by rw [Int32.lt_iff_toInt_lt, show (0 : Int32).toInt = 0 by decide]; omega
  exact ⟨if_pos z, fun e => by rw [e] at z; exact i32_lt_irr z⟩
theorem to_pos {S : CS} (h : WF S) {m : Nat} (hm : m < 5) : ¬ tof (S.2.1 m) 100 < 1 := by
  rw [(to_is h hm).1]
  obtain ⟨_, _, _, _, ⟨a1, a2⟩, b1, b2⟩ := h.2.2.2.1 m hm
  have e100 : (100 : Int32).toInt = 100 := by decide
  have e1 : (100 * S.2.1 m 5).toInt = 100 * (S.2.1 m 5).toInt := by
    rw [Jvm.Kit.i32_mul (by rw [e100]; omega) (by rw [e100]; omega), e100]
  have e2 : (100 * S.2.1 m 5 / S.2.1 m 6).toInt = 100 * (S.2.1 m 5).toInt / (S.2.1 m 6).toInt := by
    rw [Jvm.Kit.i32_div (by rw [e1]; omega), e1]
    exact Int.tdiv_eq_ediv_of_nonneg (by omega)
  rw [Int32.lt_iff_toInt_lt, e2, show (1 : Int32).toInt = 1 by decide]
  have : 1 ≤ 100 * (S.2.1 m 5).toInt / (S.2.1 m 6).toInt := Int.le_ediv_of_mul_le (by omega) (by omega)
  omega
theorem WF.up {S : CS} (h : WF S) (n : Nat) : ¬ (hsS n S).1 6 - S.1 6 < 0 := by
  obtain ⟨g, g2, e1, e2, h1, h2⟩ := h.ground n
  rw [e1, e2, Int32.lt_iff_toInt_lt, Jvm.Kit.i32_sub (by rw [nI_toInt (by omega), nI_toInt (by omega)]; omega) (by rw [nI_toInt (by omega), nI_toInt (by omega)]; omega), nI_toInt (by omega), nI_toInt (by omega), show (0 : Int32).toInt = 0 by decide]
  omega
/-- a sack that was at a mill and isn't any more was ground -/
theorem gr_up {S : CS} {m : Nat} {x : Int32} (hW : WF S) (hx : ¬ NOm S m x) {n : Nat} (hn : NOm (hsS n S) m x) : ¬ (hsS n S).1 6 - S.1 6 ≤ 0 := by
  obtain ⟨c, g, la, q1, q2, q3, q4, q5, q6, q7, q8⟩ := hW.2.1.2.2.2
  have h0 : NG g S ∧ (¬ NOm S m x ∨ NG (g + 1) S) := ⟨⟨c, g, la, q1, q2, q3, q4, q5, q6, q7, Nat.le_refl _⟩, Or.inl hx⟩
  have key : NG g (hsS n S) ∧ (¬ NOm (hsS n S) m x ∨ NG (g + 1) (hsS n S)) := by
    refine hs_keep (P := fun S' => NG g S' ∧ (¬ NOm S' m x ∨ NG (g + 1) S')) hW.1.1 h0 (fun S k y hk h => ?_) (fun S j w y hw h => ?_) (fun S j y h => ?_) (fun S j hI hj hc h => ?_) n
    · have st : ∀ g0, NG g0 S → NG g0 (upG S k y) := fun g0 ⟨c, g, la, h1, h2, h3, h4, h5, h6, h7, h8⟩ => ⟨c, g, la, h1, (if_neg (by omega)).trans h2, h3, (if_neg (by omega)).trans h4, (if_neg (by omega)).trans h5, h6, h7, h8⟩
      exact ⟨st _ h.1, h.2.imp id (st _)⟩
    · have e := cnt_F (S := S) (m := j) (w := w) (x := y) (by omega)
      have st : ∀ g0, NG g0 S → NG g0 (upF S j w y) := fun g0 ⟨c, g, la, h1, h2, h3, h4, h5, h6, h7, h8⟩ => ⟨c, g, la, h1, h2, by rw [e]; exact h3, h4, h5, h6, by rw [e]; exact h7, h8⟩
      refine ⟨st _ h.1, h.2.imp (fun z q => z fun p hp => ?_) (st _)⟩
      exact q p (by rw [e]; exact hp)
    · have st : ∀ g0, NG g0 S → NG g0 (upK S j 0 2 y) := fun g0 ⟨c, g, la, h1, h2, h3, h4, h5, h6, h7, h8⟩ => ⟨c, g, la, h1, h2, fun a q ha hq => by
        have := h3 a q ha hq
        show ∃ z, z < c ∧ (if a = j ∧ q = 0 ∧ 0 = 2 then y else S.2.2 a q 0) = nI z
        rw [if_neg (by omega)]
        exact this, h4, h5, h6, h7, h8⟩
      refine ⟨st _ h.1, h.2.imp (fun z q => z fun p hp => ?_) (st _)⟩
      have := q p hp
      rw [show (upK S j 0 2 y).2.2 m p 0 = S.2.2 m p 0 from if_neg (by omega)] at this
      exact this
    · obtain ⟨⟨c, g', la, h1, h2, h3, h4, h5, h6, h7, h8⟩, -⟩ := h
      have d := g1_is hI hj
      have hs := d.sum hj hc
      have st : NG (g + 1) (g1S S j (cnt S j)) := by
        refine ⟨c, g' + 1, if fdF S j < S.1 0 then la + 1 else la, h1, ?_, h3.dp d, ?_, ?_, ?_, by omega, by omega⟩
        · rw [g1_G, if_neg (by decide), if_neg (by decide)]; exact h2
        · rw [g1_G, if_pos rfl, h4, nI_1]
        · rw [g1_G, if_neg (by decide), if_pos rfl]
          split
          · rw [h5, nI_1]
          · exact h5
        · split <;> omega
      obtain ⟨c, g2, la, w1, w2, w3, w4, w5, w6, w7, w8⟩ := id st
      exact ⟨⟨c, g2, la, w1, w2, w3, w4, w5, w6, w7, by omega⟩, Or.inr st⟩
  obtain ⟨c2, g2, la2, r1, r2, r3, r4, r5, r6, r7, r8⟩ := key.2.resolve_left fun z => z hn
  rw [q4, r4, Int32.le_iff_toInt_le, Jvm.Kit.i32_sub (by rw [nI_toInt (by omega), nI_toInt (by omega)]; omega) (by rw [nI_toInt (by omega), nI_toInt (by omega)]; omega), nI_toInt (by omega), nI_toInt (by omega), show (0 : Int32).toInt = 0 by decide]
  omega
/-- where a sack is -/
def ats (S : CS) (m p : Nat) (x : Int32) : Prop := m < 5 ∧ p < cnt S m ∧ S.2.2 m p 0 = x
theorem ats.mo {S : CS} {m p : Nat} {x : Int32} (hW : WF S) (h : ats S m p x) : moS S x = some m := by rw [← h.2.2]; exact mo_at hW.1.1 hW.nus h.1 h.2.1
theorem ats.po {S : CS} {m p : Nat} {x : Int32} (hW : WF S) (h : ats S m p x) : poS S m x = some p := by rw [← h.2.2]; exact po_at hW.nus h.1 h.2.1
theorem ats.no {S : CS} {m p : Nat} {x : Int32} (h : ats S m p x) : ¬ NOm S m x := fun z => z p h.2.1 h.2.2
theorem po_ats {S : CS} {m : Nat} {x : Int32} (hW : WF S) (hm : m < 5) (h : ¬ poS S m x = none) : ∃ p, ats S m p x := by
  cases e : poS S m x with
  | none => exact absurd e h
  | some p =>
    obtain ⟨h1, h2, h3⟩ := poS_lt hW.1.1 hm e
    exact ⟨p, hm, h1, h3⟩
/-- what a told hour says -/
theorem gb_some {S : CS} {m p h : Nat} {x : Int32} (hW : WF S) (ha : ats S m p x) (hg : gbS S x = some h) : 1 ≤ h ∧ h ≤ 200 ∧ poS (hsS h S) m x = none ∧ ∀ j, 1 ≤ j → j < h → ¬ poS (hsS j S) m x = none := by
  unfold gbS at hg
  rw [ha.mo hW] at hg
  have hg2 : fdN (fun h => poS (hsS h S) m x = none) 200 1 = some h := hg
  obtain ⟨h1, h2, h3⟩ := fdN_some _ _ _ hg2
  exact ⟨h1, by omega, h3, fun j a b => fdN_min _ _ _ hg2 j a b⟩
theorem gb_gone {S : CS} {m p h : Nat} {x : Int32} (hW : WF S) (ha : ats S m p x) (hn : poS (hsS h S) m x = none) : moS (hsS h S) x = none := by
  refine fdN_no fun j _ hj hz => hz ?_
  by_cases e : j = m
  · rw [e]; exact hn
  · refine po_none.mpr (no_hours hW.1.1 (fun q hq he => e ?_) h)
    exact (hW.nus j m q p (by omega) ha.1 hq ha.2.1 (he.trans ha.2.2.symm)).1
theorem gb_later {S : CS} {m p h b : Nat} {x : Int32} (hW : WF S) (ha : ats S m p x) (hg : gbS S x = some h) (hb : b < h) (hb1 : 1 ≤ b) : (∃ q, ats (hsS b S) m q x) ∧ gbS (hsS b S) x = some (h - b) := by
  obtain ⟨g1, g2, g3, g4⟩ := gb_some hW ha hg
  obtain ⟨q, hq⟩ := po_ats (hW.hours b) ha.1 (g4 b hb1 hb)
  refine ⟨⟨q, hq⟩, ?_⟩
  unfold gbS
  rw [hq.mo (hW.hours b)]
  show fdN (fun k => poS (hsS k (hsS b S)) m x = none) 200 1 = some (h - b)
  refine fdN_fst (by omega) (by omega) ?_ fun k hk1 hk2 => ?_
  · rw [hsS_add, show b + (h - b) = h by omega]
    exact g3
  · rw [hsS_add]
    exact g4 (b + k) (by omega) (by omega)

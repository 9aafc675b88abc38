/-! What always holds of a creek -/
abbrev CN : Type := Nat → Nat
def SO (cn : CN) (K : CK) : Prop := ∀ m p, m < 5 → p + 1 < cn m → ltk (K m p 3) (K m p 0) (K m (p + 1) 3) (K m (p + 1) 0)
def NU (cn : CN) (K : CK) : Prop := ∀ m n p q, m < 5 → n < 5 → p < cn m → q < cn n → K m p 0 = K n q 0 → m = n ∧ p = q
def NB2 (c : Nat) (cn : CN) (K : CK) : Prop := ∀ m p, m < 5 → p < cn m → ∃ q, q < c ∧ K m p 0 = nI q
def isDp (cn cn2 : CN) (K K2 : CK) (m p : Nat) : Prop := (∀ j, cn2 j = if j = m then cn m - 1 else cn j) ∧ ∀ j q k, K2 j q k = if j = m then (if p ≤ q ∧ q + 1 < cn m then K m (q + 1) k else K m q k) else K j q k
def isIn (cn cn2 : CN) (K K2 : CK) (m pl : Nat) (s due : Int32) : Prop := (∀ j, cn2 j = if j = m then cn m + 1 else cn j) ∧ (∀ j q, K2 j q 0 = if j = m then (if q < pl then K m q 0 else if q = pl then s else if q ≤ cn m then K m (q - 1) 0 else K m q 0) else K j q 0) ∧ ∀ j q, K2 j q 3 = if j = m then (if q < pl then K m q 3 else if q = pl then due else if q ≤ cn m then K m (q - 1) 3 else K m q 3) else K j q 3
theorem isDp.at {cn cn2 : CN} {K K2 : CK} {m p : Nat} (h : isDp cn cn2 K K2 m p) (q : Nat) (hq : q < cn2 m) : ∃ r, r < cn m ∧ r ≠ p ∧ (r = q ∧ q < p ∨ r = q + 1 ∧ p ≤ q) ∧ ∀ k, K2 m q k = K m r k := by
  have hc := h.1 m
  rw [if_pos rfl] at hc
  by_cases e : p ≤ q
  · exact ⟨q + 1, by omega, by omega, Or.inr ⟨rfl, e⟩, fun k => by rw [h.2, if_pos rfl, if_pos ⟨e, by omega⟩]⟩
  · exact ⟨q, by omega, by omega, Or.inl ⟨rfl, by omega⟩, fun k => by rw [h.2, if_pos rfl, if_neg (fun z => e z.1)]⟩
theorem isDp.off {cn cn2 : CN} {K K2 : CK} {m p j : Nat} (h : isDp cn cn2 K K2 m p) (hj : j ≠ m) : cn2 j = cn j ∧ ∀ q k, K2 j q k = K j q k := ⟨by rw [h.1, if_neg hj], fun q k => by rw [h.2, if_neg hj]⟩
theorem SO.ltn {cn : CN} {K : CK} (h : SO cn K) {m : Nat} (hm : m < 5) : ∀ d p, p + d + 1 < cn m → ltk (K m p 3) (K m p 0) (K m (p + d + 1) 3) (K m (p + d + 1) 0) := by
  intro d
  induction d with
  | zero => intro p hp; exact h m p hm hp
  | succ d ih => intro p hp; exact ltk_tr (ih p (by omega)) (h m (p + d + 1) hm (by omega))
theorem SO.lt {cn : CN} {K : CK} (h : SO cn K) {m i j : Nat} (hm : m < 5) (hij : i < j) (hj : j < cn m) : ltk (K m i 3) (K m i 0) (K m j 3) (K m j 0) := by
  have := h.ltn hm (j - i - 1) i (by omega)
  rw [show i + (j - i - 1) + 1 = j by omega] at this
  exact this
theorem SO.dp {cn cn2 : CN} {K K2 : CK} {m p : Nat} (h : SO cn K) (d : isDp cn cn2 K K2 m p) : SO cn2 K2 := by
  intro j q hj hq
  by_cases e : j = m
  · subst e
    obtain ⟨r1, a1, a2, a3, a4⟩ := d.at q (by omega)
    obtain ⟨r2, b1, b2, b3, b4⟩ := d.at (q + 1) hq
    rw [a4, a4, b4, b4]
    exact h.lt hj (by omega) b1
  · obtain ⟨c1, c2⟩ := d.off e
    rw [c2, c2, c2, c2]
    exact h j q hj (by omega)
theorem NB2.dp {c : Nat} {cn cn2 : CN} {K K2 : CK} {m p : Nat} (h : NB2 c cn K) (d : isDp cn cn2 K K2 m p) : NB2 c cn2 K2 := by
  intro j q hj hq
  by_cases e : j = m
  · subst e
    obtain ⟨r1, a1, a2, a3, a4⟩ := d.at q hq
    rw [a4]
    exact h j r1 hj a1
  · obtain ⟨c1, c2⟩ := d.off e
    rw [c2]
    exact h j q hj (by omega)
theorem NU.dp {cn cn2 : CN} {K K2 : CK} {m p : Nat} (h : NU cn K) (d : isDp cn cn2 K K2 m p) : NU cn2 K2 := by
  intro a b q r ha hb hq hr he
  by_cases ea : a = m
  · by_cases eb : b = m
    · obtain ⟨r1, x1, x2, x3, x4⟩ := d.at q (by rw [← ea]; exact hq)
      obtain ⟨r2, y1, y2, y3, y4⟩ := d.at r (by rw [← eb]; exact hr)
      rw [ea, eb, x4, y4] at he
      have := (h m m r1 r2 (by omega) (by omega) x1 y1 he).2
      exact ⟨by omega, by omega⟩
    · obtain ⟨r1, x1, x2, x3, x4⟩ := d.at q (by rw [← ea]; exact hq)
      obtain ⟨c1, c2⟩ := d.off eb
      rw [ea, x4, c2] at he
      exact absurd (h m b r1 r (by omega) hb x1 (by omega) he).1.symm eb
  · obtain ⟨c1, c2⟩ := d.off ea
    by_cases eb : b = m
    · obtain ⟨r2, y1, y2, y3, y4⟩ := d.at r (by rw [← eb]; exact hr)
      rw [eb, c2, y4] at he
      exact absurd (h a m q r2 ha (by omega) (by omega) y1 he).1 ea
    · obtain ⟨d1, d2⟩ := d.off eb
      rw [c2, d2] at he
      exact h a b q r ha hb (by omega) (by omega) he
/-- a number that went stands nowhere -/
theorem NU.gone {cn cn2 : CN} {K K2 : CK} {m p : Nat} (h : NU cn K) (d : isDp cn cn2 K K2 m p) (hm : m < 5) (hp : p < cn m) : ∀ j q, j < 5 → q < cn2 j → K2 j q 0 ≠ K m p 0 := by
  intro j q hj hq he
  by_cases e : j = m
  · subst e
    obtain ⟨r1, x1, x2, x3, x4⟩ := d.at q hq
    rw [x4] at he
    exact x2 (h j j r1 p hj hm x1 hp he).2
  · obtain ⟨c1, c2⟩ := d.off e
    rw [c2] at he
    exact e (h j m q p hj hm (by omega) hp he).1
theorem isIn.at {cn cn2 : CN} {K K2 : CK} {m pl : Nat} {s due : Int32} (d : isIn cn cn2 K K2 m pl s due) (hpl : pl ≤ cn m) (q : Nat) (hq : q < cn2 m) : (q = pl ∧ K2 m q 0 = s ∧ K2 m q 3 = due) ∨ ∃ r, r < cn m ∧ (r = q ∧ q < pl ∨ r + 1 = q ∧ pl < q) ∧ K2 m q 0 = K m r 0 ∧ K2 m q 3 = K m r 3 := by
  have hc := d.1 m
  rw [if_pos rfl] at hc
  rw [d.2.1, d.2.2, if_pos rfl, if_pos rfl]
  by_cases e : q < pl
  · exact Or.inr ⟨q, by omega, Or.inl ⟨rfl, e⟩, by rw [if_pos e], by rw [if_pos e]⟩
  · by_cases e2 : q = pl
    · exact Or.inl ⟨e2, by rw [if_neg e, if_pos e2], by rw [if_neg e, if_pos e2]⟩
    · exact Or.inr ⟨q - 1, by omega, Or.inr ⟨by omega, by omega⟩, by rw [if_neg e, if_neg e2, if_pos (by omega)], by rw [if_neg e, if_neg e2, if_pos (by omega)]⟩
theorem isIn.off {cn cn2 : CN} {K K2 : CK} {m pl j : Nat} {s due : Int32} (d : isIn cn cn2 K K2 m pl s due) (hj : j ≠ m) : cn2 j = cn j ∧ ∀ q, K2 j q 0 = K j q 0 ∧ K2 j q 3 = K j q 3 := ⟨by rw [d.1, if_neg hj], fun q => ⟨by rw [d.2.1, if_neg hj], by rw [d.2.2, if_neg hj]⟩⟩
theorem SO.ins {cn cn2 : CN} {K K2 : CK} {m pl : Nat} {s due : Int32} (h : SO cn K) (d : isIn cn cn2 K K2 m pl s due) (hpl : pl ≤ cn m) (lo : ∀ i, i < pl → ltk (K m i 3) (K m i 0) due s) (hi : ∀ i, pl ≤ i → i < cn m → ltk due s (K m i 3) (K m i 0)) : SO cn2 K2 := by
  intro j q hj hq
  by_cases e : j = m
  · subst e
    rcases d.at hpl q (by omega) with ⟨a1, a2, a3⟩ | ⟨r1, a1, a2, a3, a4⟩
    · rcases d.at hpl (q + 1) hq with ⟨b1, b2, b3⟩ | ⟨r2, b1, b2, b3, b4⟩
      · omega
      · rw [a2, a3, b3, b4]
        exact hi r2 (by omega) b1
    · rcases d.at hpl (q + 1) hq with ⟨b1, b2, b3⟩ | ⟨r2, b1, b2, b3, b4⟩
      · rw [a3, a4, b2, b3]
        exact lo r1 (by omega)
      · rw [a3, a4, b3, b4]
        exact h.lt hj (by omega) b1
  · obtain ⟨c1, c2⟩ := d.off e
    rw [(c2 q).1, (c2 q).2, (c2 (q + 1)).1, (c2 (q + 1)).2]
    exact h j q hj (by omega)
theorem NU.ins {cn cn2 : CN} {K K2 : CK} {m pl : Nat} {s due : Int32} (h : NU cn K) (d : isIn cn cn2 K K2 m pl s due) (hpl : pl ≤ cn m) (hn : ∀ j q, j < 5 → q < cn j → K j q 0 ≠ s) : NU cn2 K2 := by
  intro a b q r ha hb hq hr he
  by_cases ea : a = m
  · by_cases eb : b = m
    · rw [ea, eb] at he
      rcases d.at hpl q (by rw [← ea]; exact hq) with ⟨a1, a2, a3⟩ | ⟨r1, a1, a2, a3, a4⟩
      · rcases d.at hpl r (by rw [← eb]; exact hr) with ⟨b1, b2, b3⟩ | ⟨r2, b1, b2, b3, b4⟩
        · exact ⟨by omega, by omega⟩
        · rw [a2, b3] at he
          exact absurd he.symm (hn m r2 (by omega) b1)
      · rcases d.at hpl r (by rw [← eb]; exact hr) with ⟨b1, b2, b3⟩ | ⟨r2, b1, b2, b3, b4⟩
        · rw [a3, b2] at he
          exact absurd he (hn m r1 (by omega) a1)
        · rw [a3, b3] at he
          have := (h m m r1 r2 (by omega) (by omega) a1 b1 he).2
          exact ⟨by omega, by omega⟩
    · obtain ⟨c1, c2⟩ := d.off eb
      rw [ea, (c2 r).1] at he
      rcases d.at hpl q (by rw [← ea]; exact hq) with ⟨a1, a2, a3⟩ | ⟨r1, a1, a2, a3, a4⟩
      · rw [a2] at he
        exact absurd he.symm (hn b r hb (by omega))
      · rw [a3] at he
        exact absurd (h m b r1 r (by omega) hb a1 (by omega) he).1.symm eb
  · obtain ⟨c1, c2⟩ := d.off ea
    rw [(c2 q).1] at he
    by_cases eb : b = m
    · rw [eb] at he
      rcases d.at hpl r (by rw [← eb]; exact hr) with ⟨b1, b2, b3⟩ | ⟨r2, b1, b2, b3, b4⟩
      · rw [b2] at he
        exact absurd he (hn a q ha (by omega))
      · rw [b3] at he
        exact absurd (h a m q r2 ha (by omega) (by omega) b1 he).1 ea
    · obtain ⟨d1, d2⟩ := d.off eb
      rw [(d2 r).1] at he
      exact h a b q r ha hb (by omega) (by omega) he
theorem NB2.ins {c c2 : Nat} {cn cn2 : CN} {K K2 : CK} {m pl : Nat} {s due : Int32} (h : NB2 c cn K) (d : isIn cn cn2 K K2 m pl s due) (hpl : pl ≤ cn m) (hc : c ≤ c2) (hs : ∃ q, q < c2 ∧ s = nI q) : NB2 c2 cn2 K2 := by
  intro j q hj hq
  by_cases e : j = m
  · subst e
    rcases d.at hpl q hq with ⟨a1, a2, a3⟩ | ⟨r1, a1, a2, a3, a4⟩
    · rw [a2]; exact hs
    · rw [a3]
      obtain ⟨z, z1, z2⟩ := h j r1 hj a1
      exact ⟨z, by omega, z2⟩
  · obtain ⟨c1, cc⟩ := d.off e
    rw [(cc q).1]
    obtain ⟨z, z1, z2⟩ := h j q hj (by omega)
    exact ⟨z, by omega, z2⟩
def cnS (cn : CN) : Nat := cn 0 + cn 1 + cn 2 + cn 3 + cn 4
theorem isDp.sum {cn cn2 : CN} {K K2 : CK} {m p : Nat} (d : isDp cn cn2 K K2 m p) (hm : m < 5) (hp : p < cn m) : cnS cn2 + 1 = cnS cn := by
  have h0 := d.1 0
  have h1 := d.1 1
  have h2 := d.1 2
  have h3 := d.1 3
  have h4 := d.1 4
  unfold cnS
  rcases (show m = 0 ∨ m = 1 ∨ m = 2 ∨ m = 3 ∨ m = 4 by omega) with rfl | rfl | rfl | rfl | rfl <;> simp at h0 h1 h2 h3 h4 <;> omega
theorem isIn.sum {cn cn2 : CN} {K K2 : CK} {m pl : Nat} {s due : Int32} (d : isIn cn cn2 K K2 m pl s due) (hm : m < 5) : cnS cn2 = cnS cn + 1 := by
  have h0 := d.1 0
  have h1 := d.1 1
  have h2 := d.1 2
  have h3 := d.1 3
  have h4 := d.1 4
  unfold cnS
  rcases (show m = 0 ∨ m = 1 ∨ m = 2 ∨ m = 3 ∨ m = 4 by omega) with rfl | rfl | rfl | rfl | rfl <;> simp at h0 h1 h2 h3 h4 <;> omega
def NG (g0 : Nat) (S : CS) : Prop := ∃ c g la, c ≤ 999 ∧ S.1 5 = nI c ∧ NB2 c (cnt S) S.2.2 ∧ S.1 6 = nI g ∧ S.1 7 = nI la ∧ la ≤ g ∧ g + cnS (cnt S) ≤ c ∧ g0 ≤ g
def WA (S : CS) : Prop := CW S ∧ SO (cnt S) S.2.2 ∧ NU (cnt S) S.2.2 ∧ NG 0 S
theorem cnt_eq {S S2 : CS} (h : ∀ m, S2.2.1 m 9 = S.2.1 m 9) : cnt S2 = cnt S := by
  funext m
  unfold cnt
  rw [h m]
theorem cnt_F {S : CS} {m w : Nat} {x : Int32} (h : w ≠ 9) : cnt (upF S m w x) = cnt S := funext fun j => cnt_upF h
theorem dp_is {S : CS} {m p n : Nat} (hn : n = cnt S m) (h6 : n ≤ 6) : isDp (cnt S) (cnt (dpS S m p n)) S.2.2 (dpS S m p n).2.2 m p := by
  subst hn
  refine ⟨fun j => ?_, fun j q k => ?_⟩
  · show ((if j = m then (fun w => if w = 9 then nI (cnt S m - 1) else S.2.1 m w) else S.2.1 j) 9).toNatClampNeg = _
    by_cases e : j = m
    · rw [if_pos e, if_pos e]; exact nI_clamp (by omega)
    · rw [if_neg e, if_neg e]; rfl
  · show (if j = m then (fun q j => if p ≤ q ∧ q + 1 < cnt S m then S.2.2 m (q + 1) j else S.2.2 m q j) else S.2.2 j) q k = _
    by_cases e : j = m
    · rw [if_pos e, if_pos e]
    · rw [if_neg e, if_neg e]
theorem g1_is {S : CS} {m : Nat} (hI : CI S) (hm : m < 5) : isDp (cnt S) (cnt (g1S S m (cnt S m))) S.2.2 (g1S S m (cnt S m)).2.2 m 0 := by
  refine ⟨fun j => g1S_cnt (hI.c hm).1, fun j q k => ?_⟩
  rw [g1S_K]
  by_cases e : j = m
  · rw [if_pos e, if_pos e]
    by_cases e2 : q + 1 < cnt S m
    · rw [if_pos e2, if_pos ⟨Nat.zero_le _, e2⟩]
    · rw [if_neg e2, if_neg (fun z => e2 z.2)]
  · rw [if_neg e, if_neg e]
theorem in_is {S : CS} {m n pl : Nat} {s h r due : Int32} (hn : n = cnt S m) (h6 : n < 6) : isIn (cnt S) (cnt (inS S m n pl s h r due)) S.2.2 (inS S m n pl s h r due).2.2 m pl s due := by
  subst hn
  refine ⟨fun j => ?_, fun j q => ?_, fun j q => ?_⟩
  · unfold cnt inS upM
    dsimp only
    by_cases e : j = m
    · rw [if_pos e, if_pos e, if_pos rfl]; exact nI_clamp (by have : cnt S m < 6 := h6; unfold cnt at this; omega)
    · rw [if_neg e, if_neg e]
  · unfold inS upM
    dsimp only
    by_cases e : j = m
    · rw [if_pos e, if_pos e, if_pos rfl]
    · rw [if_neg e, if_neg e]
  · unfold inS upM
    dsimp only
    by_cases e : j = m
    · rw [if_pos e, if_pos e]
      exact rfl
    · rw [if_neg e, if_neg e]
theorem g1_G {S : CS} {m n j : Nat} : (g1S S m n).1 j = if j = 6 then S.1 6 + 1 else if j = 7 then (if fdF S m < S.1 0 then S.1 7 + 1 else S.1 7) else S.1 j := by
  unfold g1S dpS upM upF upG
  dsimp only
  by_cases hc : fdF S m < S.1 0
  · rw [if_pos hc, if_pos hc]
    by_cases e6 : j = 6
    · rw [if_pos e6, if_pos e6]; rfl
    · rw [if_neg e6, if_neg e6]
  · rw [if_neg hc, if_neg hc]
    by_cases e6 : j = 6
    · rw [if_pos e6, if_pos e6]
    · rw [if_neg e6, if_neg e6]
      by_cases e7 : j = 7
      · rw [if_pos e7, e7]
      · rw [if_neg e7]
theorem NG.hours {g0 : Nat} {S : CS} (hI : CI S) (h : NG g0 S) (n : Nat) : NG g0 (hsS n S) := by
  refine hs_keep (P := NG g0) hI h (fun S k x hk h => ?_) (fun S m w x hw h => ?_) (fun S m x h => ?_) (fun S m hI hm hc h => ?_) n
  · obtain ⟨c, g, la, h1, h2, h3, h4, h5, h6, h7, h8⟩ := h
    exact ⟨c, g, la, h1, (if_neg (by omega)).trans h2, h3, (if_neg (by omega)).trans h4, (if_neg (by omega)).trans h5, h6, h7, h8⟩
  · obtain ⟨c, g, la, h1, h2, h3, h4, h5, h6, h7, h8⟩ := h
    have e := cnt_F (S := S) (m := m) (w := w) (x := x) (by omega)
    exact ⟨c, g, la, h1, h2, by rw [e]; exact h3, h4, h5, h6, by rw [e]; exact h7, h8⟩
  · obtain ⟨c, g, la, h1, h2, h3, h4, h5, h6, h7, h8⟩ := h
    refine ⟨c, g, la, h1, h2, fun j q hj hq => ?_, h4, h5, h6, h7, h8⟩
    have := h3 j q hj hq
    show ∃ z, z < c ∧ (if j = m ∧ q = 0 ∧ 0 = 2 then x else S.2.2 j q 0) = nI z
    rw [if_neg (by omega)]
    exact this
  · obtain ⟨c, g, la, h1, h2, h3, h4, h5, h6, h7, h8⟩ := h
    have d := g1_is hI hm
    have hs := d.sum hm hc
    refine ⟨c, g + 1, if fdF S m < S.1 0 then la + 1 else la, h1, ?_, h3.dp d, ?_, ?_, ?_, by omega, by omega⟩
    · rw [g1_G, if_neg (by decide), if_neg (by decide)]; exact h2
    · rw [g1_G, if_pos rfl, h4, nI_1]
    · rw [g1_G, if_neg (by decide), if_pos rfl]
      split
      · rw [h5, nI_1]
      · exact h5
    · split <;> omega
theorem SO.hours {S : CS} (hI : CI S) (h : SO (cnt S) S.2.2) (n : Nat) : SO (cnt (hsS n S)) (hsS n S).2.2 := by
  refine hs_keep (P := fun S => SO (cnt S) S.2.2) hI h (fun _ _ _ _ h => h) (fun S m w x hw h => ?_) (fun S m x h => ?_) (fun S m hI hm hc h => h.dp (g1_is hI hm)) n
  · have e := cnt_F (S := S) (m := m) (w := w) (x := x) (by omega)
    rw [e]; exact h
  · intro j q hj hq
    have := h j q hj hq
    show ltk (if j = m ∧ q = 0 ∧ 3 = 2 then x else S.2.2 j q 3) (if j = m ∧ q = 0 ∧ 0 = 2 then x else S.2.2 j q 0) (if j = m ∧ q + 1 = 0 ∧ 3 = 2 then x else S.2.2 j (q + 1) 3) (if j = m ∧ q + 1 = 0 ∧ 0 = 2 then x else S.2.2 j (q + 1) 0)
    rw [if_neg (by omega), if_neg (by omega), if_neg (by omega), if_neg (by omega)]
    exact this
theorem NU.hours {S : CS} (hI : CI S) (h : NU (cnt S) S.2.2) (n : Nat) : NU (cnt (hsS n S)) (hsS n S).2.2 := by
  refine hs_keep (P := fun S => NU (cnt S) S.2.2) hI h (fun _ _ _ _ h => h) (fun S m w x hw h => ?_) (fun S m x h => ?_) (fun S m hI hm hc h => h.dp (g1_is hI hm)) n
  · have e := cnt_F (S := S) (m := m) (w := w) (x := x) (by omega)
    rw [e]; exact h
  · intro a b q r ha hb hq hr he
    have e : ∀ j q, (upK S m 0 2 x).2.2 j q 0 = S.2.2 j q 0 := fun j q => if_neg (by omega)
    rw [e, e] at he
    exact h a b q r ha hb hq hr he
theorem WA.hours {S : CS} (h : WA S) (n : Nat) : WA (hsS n S) := ⟨h.1.hours n, h.2.1.hours h.1.1 n, h.2.2.1.hours h.1.1 n, h.2.2.2.hours h.1.1 n⟩
theorem WA.ground {S : CS} (h : WA S) (n : Nat) : ∃ g g2, S.1 6 = nI g ∧ (hsS n S).1 6 = nI g2 ∧ g ≤ g2 ∧ g2 ≤ 999 := by
  obtain ⟨c, g, la, h1, h2, h3, h4, h5, h6, h7, h8⟩ := h.2.2.2
  have hg : NG g S := ⟨c, g, la, h1, h2, h3, h4, h5, h6, h7, Nat.le_refl _⟩
  obtain ⟨c', g', la', k1, k2, k3, k4, k5, k6, k7, k8⟩ := hg.hours h.1.1 n
  exact ⟨g, g', h4, k4, k8, by omega⟩
theorem WA.nus {S : CS} (h : WA S) : NUS S := h.2.2.1
theorem WA.som {S : CS} (h : WA S) {m : Nat} (hm : m < 5) : SOm S m := fun p hp => h.2.1 m p hm hp
/-- settings, ponds, gates, gears -/
theorem WA.F {S : CS} {m w : Nat} {x : Int32} (h : WA S) (hw : w ≠ 9) (h0 : w = 0 → 0 < x) (h6 : w = 6 → 0 < x) (h2 : w = 2 → 0 ≤ x ∧ x ≤ 60) : WA (upF S m w x) := by
  have e := cnt_F (S := S) (m := m) (w := w) (x := x) hw
  obtain ⟨⟨a1, a2, a3⟩, b, c, cc, g, la, k1, k2, k3, k4, k5, k6, k7, k8⟩ := h
  refine ⟨⟨a1.keep fun j _ => if_neg (fun z => hw z.2.symm), fun j hj => ⟨?_, ?_⟩, a3.1, fun j hj => ?_⟩, by rw [e]; exact b, by rw [e]; exact c, cc, g, la, k1, k2, by rw [e]; exact k3, k4, k5, k6, by rw [e]; exact k7, k8⟩
  · show 0 < if j = m ∧ 0 = w then x else S.2.1 j 0
    split
    · rename_i z; exact h0 z.2.symm
    · exact (a2 j hj).1
  · show 0 < if j = m ∧ 6 = w then x else S.2.1 j 6
    split
    · rename_i z; exact h6 z.2.symm
    · exact (a2 j hj).2
  · show 0 ≤ (if j = m ∧ 2 = w then x else S.2.1 j 2) ∧ (if j = m ∧ 2 = w then x else S.2.1 j 2) ≤ 60
    split
    · rename_i z; exact h2 z.2.symm
    · exact a3.2 j hj
theorem WA.G {S : CS} {k : Nat} {x : Int32} (h : WA S) (hk : 8 ≤ k) (h9 : k = 9 → 0 ≤ x ∧ x ≤ 15) : WA (upG S k x) := by
  obtain ⟨⟨a1, a2, a3⟩, b, c, cc, g, la, k1, k2, k3, k4, k5, k6, k7, k8⟩ := h
  refine ⟨⟨a1, a2, ?_, a3.2⟩, b, c, cc, g, la, k1, (if_neg (by omega)).trans k2, k3, (if_neg (by omega)).trans k4, (if_neg (by omega)).trans k5, k6, k7, k8⟩
  show 0 ≤ (if 9 = k then x else S.1 9) ∧ (if 9 = k then x else S.1 9) ≤ 15
  split
  · rename_i z; exact h9 z.symm
  · exact a3.1
